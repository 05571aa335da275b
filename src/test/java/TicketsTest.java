/** Promises 10 to 20: tickets. */
public final class TicketsTest {
    private static final int MIN = Integer.MIN_VALUE;
    private static final int MAX = Integer.MAX_VALUE;
    private static final int[] NO_TICKETS = {-1, 3, 20, MIN, MAX};

    public static void main(String[] args) {
        openNumbers();
        openTells();
        openThrows();
        setPriorityAnswers();
        setPriorityThrows();
        pauseWaiting();
        pauseWorked();
        pauseThrows();
        resumeAnswers();
        resumeAtTheEnd();
        resumeThrows();
        mergeAnswers();
        mergeTakesFromAgent();
        mergeOfPaused();
        mergeByOne();
        mergeLeavesAllElse();
        mergeLeavesLatestAgent();
        mergeThrows();
        reopenAnswers();
        reopenAgainAndAgain();
        reopenLimit();
        reopenThrows();
        twentyTickets();
        ticketTells();
        ticketThrows();
        mainAndCustomers();
        longChain();
        dueAnswers();
        dueOfStates();
        dueAtTheEnd();
        dueThrows();
        Check.finish("TicketsTest");
    }

    /** A desk with an agent for skill 0, the tickets 0 and 1 for it, and 2 for another skill. */
    private static HelpDesk threeTickets() {
        HelpDesk desk = new HelpDesk();
        desk.setHours(0, 1440);
        desk.addAgent(1, 127, 0, 1440);
        desk.open(0, 1, 2, 1);
        desk.open(0, 2, 50, 2);
        desk.open(7, 3, 600, 9);
        return desk;
    }

    private static void openNumbers() {
        HelpDesk desk = new HelpDesk();
        for (int i = 0; i < 20; i++) {
            Check.same("16 count", desk.ticketCount(), i);
            Check.same("10 number", desk.open(7, 3, 600, 9), i);
        }
        Check.same("16 all", desk.ticketCount(), 20);
        Check.illegalState(desk, "10 too many", () -> desk.open(0, 0, 1, 0));
        Check.illegalArgument(desk, "10 argument first", () -> desk.open(8, 0, 1, 0));
        desk.merge(0, 1);
        Check.same("16 a MERGED one counts", desk.ticketCount(), 20);
        Check.illegalState(desk, "10 a MERGED one counts", () -> desk.open(0, 0, 1, 0));
    }

    private static void openTells() {
        HelpDesk desk = new HelpDesk();
        desk.open(0, 0, 1, 0);
        desk.open(7, 3, 600, 9);
        int[] least = {0, -1, 0, 0, 0, 1, -1, 0};
        int[] greatest = {0, -1, 3, 0, 0, 600, -1, 0};
        for (int what = 0; what < 8; what++) {
            Check.same("10 least " + what, desk.ticket(0, what), least[what]);
            Check.same("10 greatest " + what, desk.ticket(1, what), greatest[what]);
        }
        Check.same("10 customer 0", desk.customers(0), 1);
        Check.same("10 customer 9", desk.customers(1), 512);
        Check.same("10 skills", desk.lacking(), 129);
        desk.addAgent(128, 127, 0, 1440);
        Check.same("10 skill", desk.next(0), 1);
    }

    private static void openThrows() {
        HelpDesk desk = new HelpDesk();
        int[][] wrong = {{-1, 0, 1, 0}, {8, 0, 1, 0}, {0, -1, 1, 0}, {0, 4, 1, 0}, {0, 0, 0, 0},
            {0, 0, -1, 0}, {0, 0, 601, 0}, {0, 0, 1, -1}, {0, 0, 1, 10}, {MIN, 0, 1, 0},
            {MAX, 0, 1, 0}, {0, MIN, 1, 0}, {0, MAX, 1, 0}, {0, 0, MIN, 0}, {0, 0, MAX, 0},
            {0, 0, 1, MIN}, {0, 0, 1, MAX}};
        for (int[] w : wrong) {
            Check.illegalArgument(desk, "10 open " + w[0] + " " + w[1] + " " + w[2] + " " + w[3],
                    () -> desk.open(w[0], w[1], w[2], w[3]));
        }
        Check.same("10 none was opened", desk.ticketCount(), 0);
    }

    private static void setPriorityAnswers() {
        HelpDesk desk = threeTickets();
        Check.same("11 before", desk.setPriority(1, 0), 2);
        Check.same("11 is set", desk.ticket(1, 2), 0);
        Check.same("11 others stay", desk.ticket(0, 2), 1);
        Check.same("11 comes first", desk.next(0), 1);
        Check.same("11 before again", desk.setPriority(1, 3), 0);
        Check.same("11 slack", desk.next(0), 0);
        desk.pass(2);
        Check.same("11 solved", desk.ticket(0, 0), 3);
        Check.same("11 of a SOLVED one", desk.setPriority(0, 2), 1);
        desk.pause(1);
        Check.same("11 of a PAUSED one", desk.setPriority(1, 3), 3);
    }

    private static void setPriorityThrows() {
        HelpDesk desk = threeTickets();
        desk.merge(1, 0);
        for (int ticket : NO_TICKETS) {
            Check.outOfBounds(desk, "11 ticket " + ticket, () -> desk.setPriority(ticket, 0));
            Check.outOfBounds(desk, "11 ticket first " + ticket, () -> desk.setPriority(ticket, 4));
        }
        for (int priority : new int[] {-1, 4, MIN, MAX}) {
            Check.illegalArgument(desk, "11 " + priority, () -> desk.setPriority(0, priority));
            Check.illegalArgument(desk, "11 argument first", () -> desk.setPriority(1, priority));
        }
        Check.illegalState(desk, "11 MERGED", () -> desk.setPriority(1, 0));
    }

    private static void pauseWaiting() {
        HelpDesk desk = threeTickets();
        Check.same("12 still needs", desk.pause(2), 600);
        Check.same("12 PAUSED", desk.ticket(2, 0), 2);
        desk.pass(10);
        Check.same("12 does not age", desk.ticket(2, 3), 0);
        Check.same("12 others age", desk.ticket(1, 3), 10);
    }

    private static void pauseWorked() {
        HelpDesk desk = threeTickets();
        desk.pass(1);
        Check.same("12 worked still needs", desk.pause(0), 1);
        Check.same("12 worked is PAUSED", desk.ticket(0, 0), 2);
        Check.same("12 has no agent", desk.ticket(0, 1), -1);
        Check.same("12 its agent has no ticket", desk.agent(0, 0), -1);
        desk.pass(1);
        Check.same("12 its agent takes another one", desk.agent(0, 0), 1);
        Check.same("12 no work at it", desk.ticket(0, 4), 1);
    }

    private static void pauseThrows() {
        HelpDesk desk = threeTickets();
        for (int ticket : NO_TICKETS) {
            Check.outOfBounds(desk, "12 ticket " + ticket, () -> desk.pause(ticket));
        }
        desk.pause(2);
        Check.illegalState(desk, "12 PAUSED", () -> desk.pause(2));
        desk.pass(2);
        Check.illegalState(desk, "12 SOLVED", () -> desk.pause(0));
        desk.merge(1, 2);
        Check.illegalState(desk, "12 MERGED", () -> desk.pause(1));
    }

    private static void resumeAnswers() {
        HelpDesk desk = threeTickets();
        desk.pass(3);
        desk.pause(2);
        Check.same("13 at once", desk.resume(2), 0);
        Check.same("13 WAITING", desk.ticket(2, 0), 0);
        desk.pause(2);
        desk.pass(7);
        desk.merge(1, 2);
        Check.same("13 merging does not matter", desk.ticket(2, 0), 2);
        desk.pass(10);
        Check.same("13 the latest pause alone", desk.resume(2), 17);
        desk.pass(1);
        Check.same("13 ages again", desk.ticket(2, 3), 11);
        desk.setHours(0, 1);
        desk.pause(2);
        desk.pass(600);
        Check.same("13 minutes outside of service too", desk.resume(2), 600);
    }

    private static void resumeAtTheEnd() {
        HelpDesk desk = threeTickets();
        Check.same("12 in the first minute", desk.pause(2), 600);
        Desks.passTo(desk, Desks.LAST_MINUTE);
        Check.same("13 from the first minute to the last", desk.resume(2), 99999);
        Check.same("13 its age", desk.ticket(2, 3), 0);
    }

    private static void resumeThrows() {
        HelpDesk desk = threeTickets();
        for (int ticket : NO_TICKETS) {
            Check.outOfBounds(desk, "13 ticket " + ticket, () -> desk.resume(ticket));
        }
        Check.illegalState(desk, "13 WAITING", () -> desk.resume(0));
        desk.pass(1);
        Check.illegalState(desk, "13 WORKED", () -> desk.resume(0));
        desk.pass(1);
        Check.illegalState(desk, "13 SOLVED", () -> desk.resume(0));
        desk.pause(1);
        desk.merge(1, 2);
        Check.illegalState(desk, "13 MERGED", () -> desk.resume(1));
    }

    private static void mergeAnswers() {
        HelpDesk desk = threeTickets();
        desk.pass(1);
        desk.pause(2);
        desk.pass(2);
        desk.resume(2);
        desk.open(0, 0, 9, 4);
        Check.same("14 set", desk.merge(1, 2), 4 + 512);
        Check.same("14 MERGED", desk.ticket(1, 0), 4);
        Check.same("14 more urgent priority", desk.ticket(2, 2), 2);
        Check.same("14 greater age", desk.ticket(2, 3), 3);
        Check.same("14 effort stays", desk.ticket(2, 5), 600);
        Check.same("14 done stays", desk.ticket(2, 4), 0);
        Check.same("14 no answer", desk.ticket(2, 6), -1);
        Check.same("14 WAITING stays", desk.ticket(2, 0), 0);
        Check.same("14 its own priority stays", desk.ticket(1, 2), 2);
        Check.same("14 its own age stays", desk.ticket(1, 3), 3);
        Check.same("14 by way of others", desk.merge(2, 3), 4 + 16 + 512);
        Check.same("14 its more urgent priority stays", desk.ticket(3, 2), 0);
        Check.same("14 age from another one", desk.ticket(3, 3), 3);
        desk.open(0, 3, 9, 4);
        Check.same("14 the same customer", desk.merge(4, 3), 4 + 16 + 512);
        Check.same("14 its greater age stays", desk.ticket(3, 3), 3);
        desk.pass(5);
        Check.same("14 a MERGED one does not age", desk.ticket(1, 3), 3);
    }

    private static void mergeTakesFromAgent() {
        HelpDesk desk = threeTickets();
        desk.pass(1);
        desk.merge(0, 1);
        Check.same("14 agent has no ticket", desk.agent(0, 0), -1);
        Check.same("14 ticket has no agent", desk.ticket(0, 1), -1);
        desk.pass(1);
        Check.same("14 agent takes the other one", desk.agent(0, 0), 1);
        desk.merge(2, 1);
        Check.same("14 the other one stays WORKED", desk.ticket(1, 0), 1);
        Check.same("14 the other one keeps its agent", desk.ticket(1, 1), 0);
        Check.same("14 its answer stays", desk.ticket(1, 6), 1);
    }

    private static void mergeOfPaused() {
        HelpDesk desk = threeTickets();
        desk.pause(0);
        desk.pause(1);
        Check.same("14 both PAUSED", desk.merge(0, 1), 6);
        Check.same("14 PAUSED stays", desk.ticket(1, 0), 2);
    }

    /** Priorities and ages of both that are the same, or differ by one. */
    private static void mergeByOne() {
        for (int older = -1; older <= 1; older++) {
            for (int urgent = -1; urgent <= 1; urgent++) {
                HelpDesk desk = new HelpDesk();
                desk.setHours(0, 1440);
                desk.open(0, 1 - urgent, 1, 0);
                desk.open(0, 1, 1, 0);
                desk.pass(1);
                if (older != 0) {
                    desk.pause(older > 0 ? 1 : 0);
                }
                desk.pass(1);
                String what = ", older by " + older + ", more urgent by " + urgent;
                Check.same("14 the same customer" + what, desk.merge(0, 1), 1);
                Check.same("14 priority" + what, desk.ticket(1, 2), urgent > 0 ? 0 : 1);
                Check.same("14 age" + what, desk.ticket(1, 3), 2);
                Check.same("14 its own age" + what, desk.ticket(0, 3), older < 0 ? 1 : 2);
                Check.same("14 its own priority" + what, desk.ticket(0, 2), 1 - urgent);
            }
        }
    }

    private static void mergeLeavesAllElse() {
        HelpDesk desk = threeTickets();
        desk.pass(2);
        desk.reopen(0, 20);
        desk.pass(3);
        desk.pause(0);
        int[] merged = {4, -1, 1, 5, 5, 22, 0, 1};
        int[] other = {0, -1, 1, 5, 0, 600, -1, 0};
        desk.merge(0, 2);
        for (int what = 0; what < 8; what++) {
            Check.same("14 merged one's " + what, desk.ticket(0, what), merged[what]);
            Check.same("14 other one's " + what, desk.ticket(2, what), other[what]);
        }
        HelpDesk back = threeTickets();
        back.pass(2);
        back.reopen(0, 20);
        back.pass(3);
        int[] worked = {1, 0, 1, 5, 5, 22, 0, 1};
        back.merge(2, 0);
        for (int what = 0; what < 8; what++) {
            Check.same("14 WORKED one's " + what, back.ticket(0, what), worked[what]);
        }
        Check.same("14 it is worked at on", back.pass(17), 1);
    }

    private static void mergeLeavesLatestAgent() {
        HelpDesk desk = new HelpDesk();
        desk.addAgent(1, 127, 0, 1440);
        desk.addAgent(2, 127, 0, 1440);
        desk.open(0, 3, 9, 0);
        desk.open(1, 3, 9, 0);
        desk.pass(1);
        desk.open(1, 3, 9, 0);
        desk.open(0, 0, 9, 0);
        desk.merge(1, 2);
        desk.setSkills(0, 3);
        desk.setSkills(1, 3);
        desk.pause(0);
        desk.resume(0);
        Check.same("14 the merged one's agent is not the latest one", desk.next(1), 3);
        desk.merge(2, 0);
        Check.same("14 the other one's latest agent stays", desk.next(0), 0);
        Check.same("14 nor by way of others", desk.next(1), 3);
    }

    private static void mergeThrows() {
        HelpDesk desk = threeTickets();
        for (int ticket : NO_TICKETS) {
            Check.outOfBounds(desk, "14 ticket " + ticket, () -> desk.merge(ticket, 0));
            Check.outOfBounds(desk, "14 into " + ticket, () -> desk.merge(0, ticket));
            Check.outOfBounds(desk, "14 both " + ticket, () -> desk.merge(ticket, ticket));
        }
        Check.illegalArgument(desk, "14 itself", () -> desk.merge(1, 1));
        desk.pass(2);
        Check.illegalState(desk, "14 SOLVED", () -> desk.merge(0, 1));
        Check.illegalState(desk, "14 into a SOLVED one", () -> desk.merge(1, 0));
        Check.illegalArgument(desk, "14 argument first, SOLVED", () -> desk.merge(0, 0));
        desk.open(0, 0, 1, 0);
        desk.merge(1, 2);
        Check.illegalState(desk, "14 MERGED", () -> desk.merge(1, 3));
        Check.illegalState(desk, "14 into a MERGED one", () -> desk.merge(3, 1));
        Check.illegalState(desk, "14 back", () -> desk.merge(2, 1));
        Check.illegalArgument(desk, "14 argument first, MERGED", () -> desk.merge(1, 1));
    }

    private static void reopenAnswers() {
        HelpDesk desk = threeTickets();
        desk.pass(2);
        Check.same("15 effort", desk.reopen(0, 300), 302);
        Check.same("15 WAITING", desk.ticket(0, 0), 0);
        Check.same("15 how often", desk.ticket(0, 7), 1);
        Check.same("15 effort is set", desk.ticket(0, 5), 302);
        Check.same("15 done stays", desk.ticket(0, 4), 2);
        Check.same("15 age stays", desk.ticket(0, 3), 2);
        Check.same("15 answer stays", desk.ticket(0, 6), 0);
        Check.same("15 its latest agent's", desk.next(0), 0);
        Check.same("15 solved again", desk.pass(300), 1);
        Check.same("15 twice", desk.reopen(0, 1), 303);
        Check.same("15 how often then", desk.ticket(0, 7), 2);
        Check.same("15 last minute", desk.pass(1), 1);
        Check.same("15 solved how often", desk.agent(0, 2), 3);
        desk.pass(10);
        Check.same("15 age in all", desk.ticket(0, 3), 303);
    }

    private static void reopenAgainAndAgain() {
        HelpDesk desk = new HelpDesk();
        desk.addAgent(1, 127, 0, 1440);
        desk.open(0, 0, 600, 0);
        Check.same("15 solved at first", desk.pass(600), 1);
        for (int i = 1; i <= 40; i++) {
            Check.same("15 effort beyond 600", desk.reopen(0, 300), 600 + 300 * i);
            Check.same("12 only what is more", desk.pause(0), 300);
            Check.same("13 at once", desk.resume(0), 0);
            Check.same("15 not solved yet", desk.pass(299), 0);
            Check.same("12 one minute more", desk.pause(0), 1);
            desk.resume(0);
            Check.same("15 solved again", desk.pass(1), 1);
            Check.same("15 done", desk.ticket(0, 4), 600 + 300 * i);
            Check.same("15 how often by now", desk.ticket(0, 7), i);
        }
    }

    private static void reopenLimit() {
        HelpDesk desk = threeTickets();
        desk.pass(1);
        desk.pass(1);
        Check.same("15 solved", desk.ticket(0, 0), 3);
        Desks.passTo(desk, 2 + 7199);
        Check.same("15 just in time", desk.reopen(0, 1), 3);
        Check.same("15 solved again", desk.pass(1), 1);
        Desks.passTo(desk, 7202 + 7199);
        Check.same("15 by its latest solution", desk.reopen(0, 1), 4);
        desk.pass(1);
        Desks.passTo(desk, desk.now() + 7200);
        Check.illegalState(desk, "15 too late", () -> desk.reopen(0, 1));
        Check.illegalArgument(desk, "15 argument first, too late", () -> desk.reopen(0, 0));
    }

    private static void reopenThrows() {
        HelpDesk desk = threeTickets();
        for (int ticket : NO_TICKETS) {
            Check.outOfBounds(desk, "15 ticket " + ticket, () -> desk.reopen(ticket, 1));
            Check.outOfBounds(desk, "15 ticket first " + ticket, () -> desk.reopen(ticket, 0));
        }
        for (int more : new int[] {0, -1, 301, MIN, MAX}) {
            Check.illegalArgument(desk, "15 more " + more, () -> desk.reopen(0, more));
        }
        Check.illegalState(desk, "15 WAITING", () -> desk.reopen(0, 1));
        desk.pass(1);
        Check.illegalState(desk, "15 WORKED", () -> desk.reopen(0, 1));
        desk.pause(0);
        Check.illegalState(desk, "15 PAUSED", () -> desk.reopen(0, 1));
        desk.merge(0, 1);
        Check.illegalState(desk, "15 MERGED", () -> desk.reopen(0, 1));
    }

    /** The last one of as many tickets as there may be. */
    private static void twentyTickets() {
        HelpDesk desk = Desks.full();
        Check.same("11 of twenty", desk.setPriority(19, 0), 3);
        Check.same("12 of twenty", desk.pause(19), 600);
        Check.same("13 of twenty", desk.resume(19), 0);
        Check.same("17 of twenty", desk.ticket(19, 5), 600);
        Check.same("18 of twenty", desk.main(19), 19);
        Check.same("19 of twenty", desk.customers(19), 512);
        Check.same("20 of twenty", desk.due(19), 540 + 240);
        Check.same("14 of twenty", desk.merge(18, 19), 256 + 512);
        Check.same("14 of twenty, the other way", desk.merge(19, 0), 1 + 256 + 512);
        Check.same("18 of twenty, MERGED", desk.main(18), 0);
        HelpDesk other = Desks.full();
        other.setSkills(3, 0);
        other.setSkills(0, 8);
        for (int i = 3; i < 19; i += 8) {
            other.pause(i);
        }
        other.pass(600);
        Check.same("21 the last one is SOLVED", other.ticket(19, 0), 3);
        Check.same("15 of twenty", other.reopen(19, 300), 900);
    }

    private static void ticketTells() {
        HelpDesk desk = new HelpDesk();
        desk.setHours(1, 1440);
        desk.addAgent(0, 127, 0, 1440);
        desk.addAgent(1, 127, 3, 1440);
        desk.open(0, 3, 4, 0);
        desk.pass(5);
        int[] worked = {1, 1, 3, 4, 2, 4, 2, 0};
        for (int what = 0; what < 8; what++) {
            Check.same("17 worked " + what, desk.ticket(0, what), worked[what]);
        }
        desk.pass(5);
        desk.reopen(0, 7);
        int[] again = {0, -1, 3, 6, 4, 11, 2, 1};
        for (int what = 0; what < 8; what++) {
            Check.same("17 opened again " + what, desk.ticket(0, what), again[what]);
        }
    }

    private static void ticketThrows() {
        HelpDesk desk = threeTickets();
        for (int ticket : NO_TICKETS) {
            Check.outOfBounds(desk, "17 ticket " + ticket, () -> desk.ticket(ticket, 0));
            Check.outOfBounds(desk, "18 ticket " + ticket, () -> desk.main(ticket));
            Check.outOfBounds(desk, "19 ticket " + ticket, () -> desk.customers(ticket));
        }
        for (int what : new int[] {-1, 8, MIN, MAX}) {
            Check.outOfBounds(desk, "17 what " + what, () -> desk.ticket(0, what));
        }
    }

    private static void mainAndCustomers() {
        HelpDesk desk = threeTickets();
        Check.same("18 itself", desk.main(2), 2);
        Check.same("19 itself", desk.customers(2), 512);
        desk.merge(0, 1);
        Check.same("18 at once", desk.main(0), 1);
        Check.same("18 the other one", desk.main(1), 1);
        Check.same("19 the MERGED one", desk.customers(0), 2);
        Check.same("19 the other one", desk.customers(1), 6);
        desk.merge(1, 2);
        Check.same("18 by way of others", desk.main(0), 2);
        Check.same("18 at once, then", desk.main(1), 2);
        Check.same("18 the last one", desk.main(2), 2);
        Check.same("19 the first one stays", desk.customers(0), 2);
        Check.same("19 the second one stays", desk.customers(1), 6);
        Check.same("19 the last one", desk.customers(2), 518);
        desk.setSkills(0, 128);
        desk.pass(600);
        Check.same("18 SOLVED", desk.main(0), 2);
        Check.same("18 a SOLVED one itself", desk.main(2), 2);
        Check.same("19 a SOLVED one", desk.customers(2), 518);
    }

    private static void longChain() {
        HelpDesk desk = new HelpDesk();
        for (int i = 0; i < 20; i++) {
            desk.open(0, 0, 1, i % 10);
        }
        for (int i = 0; i < 19; i++) {
            desk.merge(i, i + 1);
        }
        for (int i = 0; i < 20; i++) {
            Check.same("18 chain " + i, desk.main(i), 19);
            Check.same("19 chain " + i, desk.customers(i), i < 9 ? (1 << i + 1) - 1 : 1023);
        }
    }

    private static void dueAnswers() {
        HelpDesk desk = new HelpDesk();
        desk.setTargets(0, 1, 10);
        desk.open(0, 0, 600, 0);
        Check.same("20 ahead of opening", desk.due(0), 550);
        desk.pass(545);
        Check.same("20 stays", desk.due(0), 550);
        desk.pass(5);
        Check.same("20 this very minute", desk.due(0), 550);
        Check.same("20 not broken ahead of it", desk.broken(false), 0);
        desk.pass(1);
        Check.same("20 broken already", desk.due(0), -1);
        Check.same("20 broken behind it", desk.broken(false), 1);
        desk.setTargets(0, 1, 490);
        Check.same("20 on the next day", desk.due(0), 1440 + 550);
        desk.setTargets(0, 1, 479);
        Check.same("20 last one of the day", desk.due(0), 1019);
        desk.setTargets(0, 1, 480);
        Check.same("20 first one of the next day", desk.due(0), 1440 + 540);
        desk.setTargets(0, 1, 2400);
        Check.same("20 over the end of the week", desk.due(0), 7 * 1440 + 540);
        desk.setHours(0, 1440);
        desk.setTargets(0, 1, 1440);
        Check.same("20 by the hours that are set", desk.due(0), 551 + 1440 - 11);
    }

    private static void dueOfStates() {
        HelpDesk desk = threeTickets();
        desk.pause(1);
        desk.pass(10);
        Check.same("20 PAUSED", desk.due(1), 10 + 960);
        Check.same("20 SOLVED", desk.due(0), 10 + 480 - 2);
        Check.same("20 WAITING", desk.due(2), 1920);
        desk.resume(1);
        desk.pass(1);
        Check.same("20 WORKED", desk.due(1), 11 + 959);
        desk.merge(1, 2);
        Check.same("20 MERGED", desk.due(1), -1);
        desk.setTargets(1, 1, 1);
        Check.same("20 SOLVED, broken already", desk.due(0), -1);
    }

    private static void dueAtTheEnd() {
        HelpDesk desk = new HelpDesk();
        desk.open(0, 0, 1, 0);
        desk.pause(0);
        // Day 67 is the last day of service that there is.
        desk.setHours(1439, 1440);
        int last = 67 * 1440 + 1439;
        Check.same("20 the desk's last minute of service", desk.service(last, 99999), 1);
        desk.setTargets(0, 1, 49);
        Check.same("20 at it", desk.due(0), last);
        desk.setTargets(0, 1, 50);
        Check.same("20 behind it", desk.due(0), -1);
        Desks.passTo(desk, last);
        desk.setTargets(0, 1, 1);
        Check.same("20 one is not enough", desk.due(0), -1);
        Desks.passTo(desk, 99999);
        Check.same("20 at the end", desk.due(0), -1);
    }

    private static void dueThrows() {
        HelpDesk desk = threeTickets();
        for (int ticket : NO_TICKETS) {
            Check.outOfBounds(desk, "20 ticket " + ticket, () -> desk.due(ticket));
        }
    }
}
