/** Promises 1 to 5: a new object, hours and targets. */
public final class HoursTest {
    private static final int MIN = Integer.MIN_VALUE;
    private static final int MAX = Integer.MAX_VALUE;

    public static void main(String[] args) {
        newObject();
        setHoursAnswers();
        setHoursChangesService();
        setHoursThrows();
        setTargetsAnswers();
        setTargetsOfOnePriority();
        setTargetsThrows();
        nowGoesOn();
        serviceCounts();
        serviceThrows();
        Check.finish("HoursTest");
    }

    private static void newObject() {
        HelpDesk desk = new HelpDesk();
        Check.same("1 now", desk.now(), 0);
        Check.same("1 ticketCount", desk.ticketCount(), 0);
        Check.outOfBounds(desk, "1 agent(0, 0)", () -> desk.agent(0, 0));
        Check.outOfBounds(desk, "1 ticket(0, 0)", () -> desk.ticket(0, 0));
        Check.same("1 hours at first", desk.setHours(540, 1020), false);
        int[] solutions = {240, 480, 960, 1920};
        for (int i = 0; i < 4; i++) {
            Check.same("1 target at first " + i, desk.setTargets(i, 1, 1), solutions[i]);
        }
        HelpDesk other = new HelpDesk();
        other.open(0, 0, 1, 0);
        Check.same("1 desks are apart", desk.ticketCount(), 0);
    }

    private static void setHoursAnswers() {
        HelpDesk desk = new HelpDesk();
        Check.same("2 same", desk.setHours(540, 1020), false);
        Check.same("2 other opening", desk.setHours(541, 1020), true);
        Check.same("2 other closing", desk.setHours(541, 1021), true);
        Check.same("2 same again", desk.setHours(541, 1021), false);
        Check.same("2 both", desk.setHours(0, 1440), true);
        Check.same("2 latest", desk.setHours(1439, 1440), true);
        Check.same("2 earliest", desk.setHours(0, 1), true);
    }

    private static void setHoursChangesService() {
        HelpDesk desk = new HelpDesk();
        desk.open(0, 0, 1, 0);
        desk.setHours(5, 8);
        Check.same("2 service", desk.service(0, 1440), 3);
        desk.pass(20);
        Check.same("2 age", desk.ticket(0, 3), 3);
    }

    private static void setHoursThrows() {
        HelpDesk desk = new HelpDesk();
        int[][] wrong = {{-1, 5}, {1440, 1441}, {1440, 1440}, {5, 5}, {5, 4}, {5, 1441}, {0, 0},
            {MIN, 5}, {MAX, MAX}, {5, MAX}, {5, MIN}};
        for (int[] w : wrong) {
            Check.illegalArgument(desk, "2 setHours " + w[0] + " " + w[1],
                    () -> desk.setHours(w[0], w[1]));
        }
        Check.same("2 unchanged", desk.setHours(540, 1020), false);
    }

    private static void setTargetsAnswers() {
        HelpDesk desk = new HelpDesk();
        desk.setHours(0, 1440);
        Check.same("3 before", desk.setTargets(1, 3, 5), 480);
        Check.same("3 before again", desk.setTargets(1, 1, 1), 5);
        Check.same("3 least", desk.setTargets(1, 9999, 9999), 1);
        Check.same("3 greatest", desk.setTargets(1, 3, 5), 9999);
        Check.same("3 another one", desk.setTargets(0, 1, 9999), 240);
        desk.open(0, 1, 1, 0);
        desk.pass(3);
        Check.same("3 answer at target", desk.broken(true), 0);
        desk.pass(1);
        Check.same("3 answer behind target", desk.broken(true), 1);
        desk.pass(1);
        Check.same("3 solution at target", desk.broken(false), 0);
        desk.pass(1);
        Check.same("3 solution behind target", desk.broken(false), 1);
        desk.setTargets(1, 6, 6);
        Check.same("3 answer by new target", desk.broken(true), 0);
        Check.same("3 solution by new target", desk.broken(false), 0);
    }

    private static void setTargetsOfOnePriority() {
        for (int priority = 0; priority < 4; priority++) {
            HelpDesk desk = new HelpDesk();
            HelpDesk other = new HelpDesk();
            desk.setTargets(priority, 7, 9);
            for (int i = 0; i < 4; i++) {
                Check.same("3 priority " + i + " by that of " + priority, desk.setTargets(i, 1, 1),
                        i == priority ? 9 : other.setTargets(i, 1, 1));
            }
        }
    }

    private static void setTargetsThrows() {
        HelpDesk desk = new HelpDesk();
        for (int priority : new int[] {-1, 4, MIN, MAX}) {
            Check.outOfBounds(desk, "3 priority " + priority,
                    () -> desk.setTargets(priority, 1, 1));
            Check.outOfBounds(desk, "3 priority first " + priority,
                    () -> desk.setTargets(priority, 0, 0));
        }
        int[][] wrong = {{0, 5}, {-1, 5}, {10000, 10000}, {5, 4}, {5, 10000}, {MIN, 5}, {5, MAX},
            {MAX, MAX}, {5, MIN}};
        for (int[] w : wrong) {
            Check.illegalArgument(desk, "3 targets " + w[0] + " " + w[1],
                    () -> desk.setTargets(0, w[0], w[1]));
        }
    }

    private static void nowGoesOn() {
        HelpDesk desk = new HelpDesk();
        desk.pass(7);
        Check.same("4 now", desk.now(), 7);
        desk.pass(600);
        Check.same("4 now later", desk.now(), 607);
        desk.setHours(1, 2);
        Check.same("4 now stays", desk.now(), 607);
        Desks.passTo(desk, Desks.LAST_MINUTE);
        Check.same("4 the last minute", desk.now(), 99999);
    }

    private static void serviceCounts() {
        HelpDesk desk = new HelpDesk();
        Check.same("5 none", desk.service(600, 600), 0);
        Check.same("5 ahead of opening", desk.service(0, 540), 0);
        Check.same("5 opening", desk.service(540, 541), 1);
        Check.same("5 last", desk.service(1019, 1020), 1);
        Check.same("5 closing", desk.service(1020, 1021), 0);
        Check.same("5 a day", desk.service(0, 1440), 480);
        Check.same("5 within", desk.service(600, 700), 100);
        Check.same("5 two parts", desk.service(1000, 1440 + 550), 30);
        Check.same("5 a week", desk.service(0, 7 * 1440), 2400);
        Check.same("5 fifth day", desk.service(4 * 1440, 5 * 1440), 480);
        Check.same("5 sixth day", desk.service(5 * 1440, 6 * 1440), 0);
        Check.same("5 seventh day", desk.service(6 * 1440, 7 * 1440), 0);
        Check.same("5 eighth day", desk.service(7 * 1440, 8 * 1440), 480);
        Check.same("5 all", desk.service(0, 99999), 24000);
        Check.same("5 end", desk.service(99999, 99999), 0);
        Check.same("5 first minute", desk.service(0, 0), 0);
        Check.same("5 last minute", desk.service(99998, 99999), 0);
        Check.same("5 one minute", desk.service(540, 540), 0);
        desk.pass(600);
        Check.same("5 whatever minute it is", desk.service(0, 1440), 480);
        desk.setHours(0, 1440);
        Check.same("5 whole days", desk.service(0, 99999), 50 * 1440);
        Check.same("5 over midnight", desk.service(1439, 1441), 2);
        Check.same("5 into the fifth day's end", desk.service(5 * 1440 - 1, 7 * 1440), 1);
        Check.same("5 out of the seventh day", desk.service(5 * 1440, 7 * 1440 + 1), 1);
        desk.setHours(1439, 1440);
        Check.same("5 a day's last minute", desk.service(1439, 1440), 1);
        Check.same("5 ahead of a day's last minute", desk.service(0, 1439), 0);
        desk.setHours(0, 1);
        Check.same("5 a day's first minute", desk.service(0, 1), 1);
        Check.same("5 behind a day's first minute", desk.service(1, 1440), 0);
    }

    private static void serviceThrows() {
        HelpDesk desk = new HelpDesk();
        int[][] wrong = {{-1, 5}, {5, 4}, {0, 100000}, {100000, 100000}, {MIN, MAX}, {MAX, MIN},
            {0, MAX}, {MIN, 0}};
        for (int[] w : wrong) {
            Check.illegalArgument(desk, "5 service " + w[0] + " " + w[1],
                    () -> desk.service(w[0], w[1]));
        }
    }
}
