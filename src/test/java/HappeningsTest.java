/** Promises 21 to 26: what happens. */
public final class HappeningsTest {
    private static final int MIN = Integer.MIN_VALUE;
    private static final int MAX = Integer.MAX_VALUE;

    public static void main(String[] args) {
        passAnswers();
        passAscendingAgents();
        passGivesBackFirst();
        passAgesInService();
        passNotesAnswer();
        passSolvesAtLastMinute();
        passThrows();
        passToTheEnd();
        passManyToTheEnd();
        allAnswers();
        allOfTwenty();
        allThrows();
        brokenAnswer();
        brokenSolution();
        brokenOfTwenty();
        lackingAnswers();
        lackingAll();
        successAnswers();
        successOfTwenty();
        digestOfNewDesk();
        digestOfUsedDesk();
        Check.finish("HappeningsTest");
    }

    private static void passAnswers() {
        HelpDesk desk = new HelpDesk();
        Check.same("21 empty desk", desk.pass(1), 0);
        desk.addAgent(1, 127, 0, 1440);
        desk.addAgent(2, 127, 0, 1440);
        desk.open(0, 0, 2, 0);
        desk.open(0, 0, 3, 0);
        desk.open(1, 0, 5, 0);
        Check.same("21 none yet", desk.pass(1), 0);
        Check.same("21 one", desk.pass(1), 1);
        Check.same("21 two", desk.pass(3), 2);
        Check.same("21 none any more", desk.pass(600), 0);
        Check.same("21 minutes", desk.now(), 606);
    }

    private static void passAscendingAgents() {
        HelpDesk desk = new HelpDesk();
        desk.addAgent(1, 127, 1, 1440);
        desk.addAgent(3, 127, 0, 1440);
        desk.addAgent(3, 127, 0, 1440);
        desk.open(0, 3, 600, 0);
        desk.open(1, 0, 600, 0);
        desk.pass(1);
        Check.same("21 not there", desk.agent(0, 0), -1);
        Check.same("21 first takes the pressing one", desk.agent(1, 0), 1);
        Check.same("21 second takes the other one", desk.agent(2, 0), 0);
        desk.pass(1);
        Check.same("21 none is left", desk.agent(0, 0), -1);
        Check.same("21 each keeps its own", desk.agent(2, 0), 0);
    }

    private static void passGivesBackFirst() {
        HelpDesk desk = new HelpDesk();
        desk.addAgent(1, 127, 10, 20);
        desk.addAgent(1, 127, 0, 10);
        desk.open(0, 0, 600, 0);
        desk.pass(10);
        Check.same("21 the second one has it still", desk.ticket(0, 1), 1);
        desk.pass(1);
        Check.same("21 the first one takes it in the same minute", desk.ticket(0, 1), 0);
        Check.same("21 the second one has worked", desk.agent(1, 1), 10);
        Check.same("21 the first one has worked", desk.agent(0, 1), 1);
        desk.pass(10);
        Check.same("21 handed back", desk.ticket(0, 0), 0);
        Check.same("21 work done", desk.ticket(0, 4), 20);
    }

    private static void passAgesInService() {
        HelpDesk desk = new HelpDesk();
        desk.addAgent(1, 127, 0, 1440);
        desk.open(0, 0, 600, 0);
        desk.open(1, 0, 600, 0);
        desk.open(1, 0, 600, 0);
        desk.pause(2);
        desk.pass(540);
        Check.same("21 WORKED ahead of opening", desk.ticket(0, 3), 0);
        Check.same("21 worked ahead of opening", desk.ticket(0, 4), 540);
        desk.pass(1);
        Check.same("21 WORKED at opening", desk.ticket(0, 3), 1);
        Check.same("21 WAITING at opening", desk.ticket(1, 3), 1);
        Check.same("21 PAUSED at opening", desk.ticket(2, 3), 0);
        desk.pass(59);
        Check.same("21 SOLVED", desk.ticket(0, 0), 3);
        Check.same("21 SOLVED age", desk.ticket(0, 3), 60);
        desk.pass(600);
        Check.same("21 SOLVED age stays", desk.ticket(0, 3), 60);
        Check.same("21 closed", desk.ticket(1, 3), 480);
        Desks.passTo(desk, 7 * 1440);
        Check.same("21 no service at the end of the week", desk.ticket(1, 3), 5 * 480);
    }

    private static void passNotesAnswer() {
        HelpDesk desk = new HelpDesk();
        desk.setHours(0, 1440);
        desk.addAgent(1, 127, 5, 10);
        desk.open(0, 0, 600, 0);
        desk.pass(5);
        Check.same("21 no answer", desk.ticket(0, 6), -1);
        desk.pass(1);
        Check.same("21 answer ahead of aging", desk.ticket(0, 6), 5);
        Desks.passTo(desk, 1446);
        Check.same("21 has its agent again", desk.ticket(0, 0), 1);
        Check.same("21 answer stays", desk.ticket(0, 6), 5);
        HelpDesk atOnce = new HelpDesk();
        atOnce.setHours(0, 1440);
        atOnce.addAgent(1, 127, 0, 1440);
        atOnce.open(0, 0, 600, 0);
        atOnce.pass(3);
        atOnce.pause(0);
        atOnce.resume(0);
        atOnce.pass(1);
        Check.same("21 has its agent again at once", atOnce.ticket(0, 0), 1);
        Check.same("21 answer at age 0 stays", atOnce.ticket(0, 6), 0);
    }

    private static void passSolvesAtLastMinute() {
        HelpDesk desk = new HelpDesk();
        desk.setHours(0, 1440);
        desk.addAgent(1, 127, 0, 1440);
        desk.open(0, 0, 1, 0);
        desk.open(0, 0, 1, 0);
        Check.same("21 solved at once", desk.pass(1), 1);
        Check.same("21 ages in the minute in which it is solved", desk.ticket(0, 3), 1);
        Check.same("21 SOLVED has no agent", desk.ticket(0, 1), -1);
        Check.same("21 SOLVED state", desk.ticket(0, 0), 3);
        Check.same("21 agent is free", desk.agent(0, 0), -1);
        Check.same("21 the next one waits", desk.ticket(1, 0), 0);
        Check.same("21 the next one is solved", desk.pass(1), 1);
        Check.same("21 the next one's answer", desk.ticket(1, 6), 1);
    }

    private static void passThrows() {
        HelpDesk desk = new HelpDesk();
        for (int minutes : new int[] {0, -1, 601, MIN, MAX}) {
            Check.illegalArgument(desk, "21 pass " + minutes, () -> desk.pass(minutes));
        }
        Check.same("21 no minute has passed", desk.now(), 0);
    }

    private static void passToTheEnd() {
        HelpDesk desk = new HelpDesk();
        Desks.passTo(desk, 99998);
        Check.illegalState(desk, "21 too late", () -> desk.pass(2));
        Check.illegalArgument(desk, "21 argument first", () -> desk.pass(601));
        Check.same("21 last minute", desk.pass(1), 0);
        Check.same("21 now", desk.now(), 99999);
        Check.illegalState(desk, "21 at the end", () -> desk.pass(1));
        Check.illegalState(desk, "21 at the end, many", () -> desk.pass(600));
    }

    private static void passManyToTheEnd() {
        HelpDesk desk = new HelpDesk();
        Desks.passTo(desk, 99399);
        Check.same("21 the last 600 minutes", desk.pass(600), 0);
        Check.same("21 now, then", desk.now(), 99999);
        HelpDesk later = new HelpDesk();
        Desks.passTo(later, 99400);
        Check.illegalState(later, "21 one too many", () -> later.pass(600));
        Check.same("21 none has passed", later.now(), 99400);
        Check.same("21 one less", later.pass(599), 0);
        Check.same("21 now, one less", later.now(), 99999);
    }

    private static void allAnswers() {
        HelpDesk desk = new HelpDesk();
        for (int state = 0; state < 5; state++) {
            Check.same("22 none " + state, desk.all(state), 0);
        }
        desk.addAgent(1, 127, 0, 1440);
        for (int i = 0; i < 20; i++) {
            desk.open(i < 2 ? 0 : 1, 0, 2 + i, 0);
        }
        desk.pause(2);
        desk.pause(19);
        desk.merge(3, 2);
        desk.pass(3);
        Check.same("22 SOLVED", desk.all(3), 1);
        Check.same("22 WORKED", desk.all(1), 2);
        Check.same("22 PAUSED", desk.all(2), 4 + (1 << 19));
        Check.same("22 MERGED", desk.all(4), 8);
        Check.same("22 WAITING", desk.all(0), (1 << 19) - 16);
    }

    private static void allOfTwenty() {
        int every = (1 << 20) - 1;
        HelpDesk desk = Desks.full();
        Check.same("22 all WAITING", desk.all(0), every);
        for (int i = 0; i < 20; i++) {
            desk.pause(i);
        }
        Check.same("22 none WAITING", desk.all(0), 0);
        Check.same("22 all PAUSED", desk.all(2), every);
        for (int i = 0; i < 19; i++) {
            desk.merge(i, 19);
        }
        Check.same("22 all but one MERGED", desk.all(4), every >> 1);
        Check.same("22 one PAUSED", desk.all(2), 1 << 19);
        HelpDesk solving = twentySolved();
        Check.same("22 all SOLVED", solving.all(3), every);
        Check.same("22 none is WORKED", solving.all(1), 0);
    }

    /** Twenty tickets with a minute's work each, the i-th one with priority i % 4 and age i + 1. */
    private static HelpDesk twentySolved() {
        HelpDesk desk = new HelpDesk();
        desk.setHours(0, 1440);
        for (int i = 0; i < 4; i++) {
            desk.setTargets(i, 5, 10);
        }
        desk.addAgent(1, 127, 0, 1440);
        for (int i = 0; i < 20; i++) {
            desk.open(0, i % 4, 1, i % 10);
        }
        Check.same("21 all are solved", desk.pass(20), 20);
        return desk;
    }

    private static void allThrows() {
        HelpDesk desk = new HelpDesk();
        for (int state : new int[] {-1, 5, MIN, MAX}) {
            Check.outOfBounds(desk, "22 all " + state, () -> desk.all(state));
        }
    }

    private static void brokenAnswer() {
        HelpDesk desk = new HelpDesk();
        desk.setHours(0, 1440);
        desk.setTargets(0, 2, 9);
        desk.setTargets(1, 3, 9);
        Check.same("23 no tickets", desk.broken(true), 0);
        desk.addAgent(1, 127, 3, 1440);
        desk.open(0, 1, 600, 0);
        desk.open(1, 0, 600, 0);
        desk.open(1, 0, 600, 0);
        desk.pass(2);
        Check.same("23 at the target", desk.broken(true), 0);
        desk.pass(1);
        Check.same("23 without an answer", desk.broken(true), 6);
        desk.pass(4);
        Check.same("23 answered in time", desk.broken(true), 6);
        desk.setPriority(0, 0);
        Check.same("23 by the priority that it has now", desk.broken(true), 7);
        desk.merge(1, 2);
        Check.same("23 not a MERGED one", desk.broken(true), 5);
        Check.same("23 not the solution", desk.broken(false), 0);
        HelpDesk atOnce = new HelpDesk();
        atOnce.setHours(0, 1440);
        atOnce.setTargets(0, 1, 9);
        atOnce.addAgent(1, 127, 0, 1440);
        atOnce.open(0, 0, 600, 0);
        atOnce.pass(3);
        Check.same("23 answered at age 0", atOnce.broken(true), 0);
    }

    private static void brokenSolution() {
        HelpDesk desk = new HelpDesk();
        desk.setHours(0, 1440);
        desk.setTargets(0, 1, 2);
        desk.setTargets(1, 1, 5);
        desk.addAgent(1, 127, 0, 1440);
        desk.open(0, 0, 3, 0);
        desk.open(1, 1, 3, 0);
        desk.open(1, 1, 3, 0);
        desk.pass(2);
        Check.same("23 solution at the target", desk.broken(false), 0);
        desk.pass(3);
        Check.same("23 a SOLVED one", desk.broken(false), 1);
        desk.pause(2);
        desk.pass(1);
        Check.same("23 not the PAUSED one", desk.broken(false), 3);
        desk.setPriority(2, 0);
        Check.same("23 a PAUSED one", desk.broken(false), 7);
        desk.merge(1, 2);
        Check.same("23 solution, not a MERGED one", desk.broken(false), 5);
        desk.setPriority(0, 1);
        Check.same("23 solution by the priority that it has now", desk.broken(false), 4);
    }

    private static void brokenOfTwenty() {
        HelpDesk desk = twentySolved();
        int every = (1 << 20) - 1;
        Check.same("23 answers up to age 5 in time", desk.broken(true), every - ((1 << 6) - 1));
        Check.same("23 solutions up to age 10 in time", desk.broken(false), every - ((1 << 10) - 1));
        for (int i = 0; i < 4; i++) {
            desk.setTargets(i, 19, 20);
        }
        Check.same("23 no answer", desk.broken(true), 0);
        Check.same("23 no solution", desk.broken(false), 0);
        for (int i = 0; i < 4; i++) {
            desk.setTargets(i, 18, 19);
        }
        Check.same("23 the last answer", desk.broken(true), 1 << 19);
        Check.same("23 the last solution", desk.broken(false), 1 << 19);
        for (int i = 0; i < 4; i++) {
            desk.setTargets(i, 1, 1);
        }
        Check.same("23 all but the first two answers", desk.broken(true), every - 3);
        Check.same("23 all but the first solution", desk.broken(false), every - 1);
    }

    private static void lackingAll() {
        HelpDesk desk = new HelpDesk();
        for (int i = 0; i < 8; i++) {
            desk.open(i, 0, 1, 0);
        }
        Check.same("24 all skills, no agents", desk.lacking(), 255);
        desk.addAgent(0, 127, 0, 1440);
        Check.same("24 all skills, none had", desk.lacking(), 255);
        desk.setSkills(0, 127);
        Check.same("24 the last one", desk.lacking(), 128);
        desk.setSkills(0, 254);
        Check.same("24 the first one", desk.lacking(), 1);
        desk.addAgent(1, 1, 0, 1);
        Check.same("24 had together", desk.lacking(), 0);
        desk.setSkills(1, 0);
        desk.setSkills(0, 255);
        Check.same("24 had by one", desk.lacking(), 0);
        desk.setSkills(1, 255);
        Check.same("24 had by both", desk.lacking(), 0);
    }

    private static void lackingAnswers() {
        HelpDesk desk = new HelpDesk();
        Check.same("24 no tickets", desk.lacking(), 0);
        desk.open(0, 0, 1, 0);
        desk.open(3, 0, 1, 0);
        desk.open(7, 0, 1, 0);
        desk.open(7, 0, 1, 0);
        Check.same("24 no agents", desk.lacking(), 1 + 8 + 128);
        desk.addAgent(2, 127, 0, 1440);
        Check.same("24 another skill", desk.lacking(), 1 + 8 + 128);
        desk.addAgent(1, 64, 0, 1440);
        Check.same("24 not there", desk.lacking(), 8 + 128);
        desk.pause(1);
        Check.same("24 PAUSED", desk.lacking(), 8 + 128);
        desk.setSkills(0, 8);
        desk.merge(2, 3);
        Check.same("24 another one needs it", desk.lacking(), 128);
        desk.merge(3, 0);
        Check.same("24 MERGED", desk.lacking(), 0);
        desk.setSkills(1, 0);
        desk.setSkills(0, 1);
        desk.pass(1);
        Check.same("24 SOLVED", desk.all(3), 1);
        desk.setSkills(0, 0);
        Check.same("24 SOLVED does not need it", desk.lacking(), 8);
        desk.reopen(0, 1);
        Check.same("24 opened again", desk.lacking(), 9);
    }

    private static void successAnswers() {
        HelpDesk desk = new HelpDesk();
        Check.sameDouble("25 none", desk.success(), 1.0);
        desk.setHours(0, 1440);
        desk.setTargets(0, 1, 2);
        desk.addAgent(1, 127, 0, 1440);
        desk.open(0, 0, 2, 0);
        desk.open(0, 0, 2, 0);
        desk.open(0, 1, 2, 0);
        desk.open(1, 0, 2, 0);
        desk.pass(1);
        Check.sameDouble("25 none SOLVED", desk.success(), 1.0);
        desk.pass(1);
        Check.sameDouble("25 at the target", desk.success(), 1.0);
        desk.pass(2);
        Check.sameDouble("25 one of two", desk.success(), 0.5);
        desk.pass(2);
        Check.sameDouble("25 two of three", desk.success(), 2.0 / 3.0);
        desk.setPriority(2, 0);
        Check.sameDouble("25 one of three", desk.success(), 1.0 / 3.0);
        desk.reopen(0, 1);
        Check.sameDouble("25 none of two", desk.success(), 0.0);
    }

    private static void successOfTwenty() {
        HelpDesk desk = twentySolved();
        for (int inTime = 1; inTime <= 20; inTime++) {
            for (int i = 0; i < 4; i++) {
                desk.setTargets(i, 1, inTime);
            }
            Check.sameDouble("25 of twenty", desk.success(), inTime / 20.0);
        }
        for (int i = 0; i < 20; i++) {
            desk.reopen(i, 1);
        }
        Check.sameDouble("25 none is left", desk.success(), 1.0);
    }

    private static void digestOfNewDesk() {
        long[] numbers = {0, 540, 1020, 60, 240, 120, 480, 240, 960, 480, 1920, 0, 0};
        Check.same("26 new", new HelpDesk().digest(), digested(numbers));
    }

    private static void digestOfUsedDesk() {
        HelpDesk desk = new HelpDesk();
        desk.setHours(2, 1000);
        desk.setTargets(2, 3, 500);
        desk.addAgent(5, 127, 0, 3);
        desk.addAgent(2, 127, 3, 1440);
        desk.open(0, 0, 2, 4);
        desk.open(2, 2, 600, 5);
        desk.open(1, 1, 9, 9);
        desk.open(1, 0, 9, 0);
        desk.merge(2, 3);
        desk.pass(4);
        desk.reopen(0, 11);
        long[] numbers = {4, 2, 1000, 60, 240, 120, 480, 3, 500, 480, 1920,
            2, 5, -1, 3, 1, 0, 2, 3, 1, 0, 1,
            4, 0, 0, -1, 0, 0, 2, 13, 0, 1, 0, 16,
            2, 0, -1, 2, 2, 1, 600, 0, 0, 1, 32,
            1, 4, -1, 1, 0, 0, 9, -1, 0, 3, 512,
            1, 1, 1, 0, 2, 1, 9, 1, 0, 3, 513};
        Check.same("26 used", desk.digest(), digested(numbers));
    }

    private static long digested(long[] numbers) {
        long d = 193;
        for (long x : numbers) {
            d = d * 31 + x;
        }
        return d;
    }
}
