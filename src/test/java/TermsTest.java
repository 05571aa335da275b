import static java.lang.Integer.bitCount;

/**
 * What the document says under "Terms", sentence by sentence, at its boundaries: hours of service,
 * shifts, skills and sets, the order of things within a minute, targets, the first and last minute.
 */
public final class TermsTest {
    private static final int DAY = 1440;
    private static final int DAYS = 70;

    public static void main(String[] args) {
        daysOfService();
        agesOnlyInService(540, 1020);
        agesOnlyInService(0, 1);
        agesOnlyInService(0, 1440);
        agesOnlyInService(1439, 1440);
        hoursSetWithinADay();
        daysOfShift();
        beginAndEndOfShift();
        ticketOverMidnight();
        handsBackBehindItsLastDay();
        skills();
        sets();
        oneTicketAtATime();
        nothingToTake();
        targetsAtFirst();
        leastAndGreatestEffort();
        likingOfOwnTickets();
        likingBySlack();
        likingByNumber();
        takesAheadOfAging();
        solvedAgentTakesInTheNextMinute();
        firstMinute();
        lastMinute();
        Check.finish("TermsTest");
    }

    /** "A minute is one of service if its day of the week is 0 to 4": each day that there is. */
    private static void daysOfService() {
        HelpDesk desk = new HelpDesk();
        for (int day = 0; day < DAYS; day++) {
            int midnight = Math.min((day + 1) * DAY, Desks.LAST_MINUTE);
            Check.same("service on day " + day, desk.service(day * DAY, midnight), day % 7 < 5 ? 480 : 0);
        }
    }

    /** "... its minute of the day is at least the opening, and less than the closing". */
    private static void agesOnlyInService(int opening, int closing) {
        HelpDesk desk = new HelpDesk();
        desk.setHours(opening, closing);
        desk.setTargets(0, 9999, 9999);
        desk.open(0, 0, 1, 0);
        for (int day = 0; day < 9; day++) {
            int[] minutes = {0, opening - 1, opening, closing - 1, closing, DAY - 1};
            for (int minute : minutes) {
                if (minute >= 0 && minute < DAY && day * DAY + minute >= desk.now()) {
                    boolean isService = day % 7 < 5 && minute >= opening && minute < closing;
                    agesInMinute(desk, day * DAY + minute, isService ? 1 : 0);
                }
            }
        }
    }

    private static void agesInMinute(HelpDesk desk, int minute, int due) {
        Desks.passTo(desk, minute);
        int before = desk.ticket(0, 3);
        Check.same("service at " + minute, desk.service(minute, minute + 1), due);
        desk.pass(1);
        Check.same("age in minute " + minute, desk.ticket(0, 3) - before, due);
    }

    /** Hours that are set count from the very next minute on. */
    private static void hoursSetWithinADay() {
        HelpDesk desk = new HelpDesk();
        desk.open(0, 0, 1, 0);
        desk.pass(100);
        desk.setHours(100, 102);
        desk.pass(1);
        Check.same("opened at once", desk.ticket(0, 3), 1);
        desk.setHours(100, 101);
        desk.pass(1);
        Check.same("closed at once", desk.ticket(0, 3), 1);
    }

    /** "at a minute it is there if its day of the week is one of these days": each one by itself. */
    private static void daysOfShift() {
        HelpDesk desk = new HelpDesk();
        HelpDesk rest = new HelpDesk();
        for (int day = 0; day < 6; day++) {
            desk.addAgent(1, 1 << day, 0, DAY);
        }
        rest.addAgent(1, 1 << 6, 0, DAY);
        rest.addAgent(1, 127 - 1, 0, DAY);
        for (int day = 0; day < 15; day++) {
            for (int minute : new int[] {0, DAY - 1}) {
                Desks.passTo(desk, day * DAY + minute);
                Desks.passTo(rest, day * DAY + minute);
                for (int agent = 0; agent < 6; agent++) {
                    Check.same("shift of agent " + agent + " on day " + day, desk.agent(agent, 3),
                            day % 7 == agent ? 1 : 0);
                }
                Check.same("shift on day 6, day " + day, rest.agent(0, 3), day % 7 == 6 ? 1 : 0);
                Check.same("shift on all but day 0, day " + day, rest.agent(1, 3),
                        day % 7 == 0 ? 0 : 1);
            }
        }
    }

    /** "its minute of the day is at least the begin, and less than the end". */
    private static void beginAndEndOfShift() {
        HelpDesk desk = new HelpDesk();
        desk.addAgent(1, 127, 0, 1);
        desk.addAgent(1, 127, 1439, 1440);
        desk.addAgent(1, 127, 540, 1020);
        desk.addAgent(1, 127, 0, 1440);
        int[] minutes = {0, 1, 539, 540, 1019, 1020, 1438, 1439, DAY, DAY + 1};
        int[] there = {1 + 8, 8, 8, 4 + 8, 4 + 8, 8, 8, 2 + 8, 1 + 8, 8};
        for (int i = 0; i < minutes.length; i++) {
            Desks.passTo(desk, minutes[i]);
            for (int agent = 0; agent < 4; agent++) {
                Check.same("agent " + agent + " there at " + minutes[i], desk.agent(agent, 3),
                        there[i] >> agent & 1);
            }
        }
    }

    /** An agent that is there in the last minute of a day and the first of the next one keeps it. */
    private static void ticketOverMidnight() {
        HelpDesk desk = new HelpDesk();
        desk.addAgent(1, 3, 0, DAY);
        desk.pass(600);
        desk.pass(600);
        desk.open(0, 3, 600, 0);
        desk.pass(240);
        desk.open(0, 0, 600, 0);
        desk.pass(1);
        Check.same("kept over midnight", desk.agent(0, 0), 0);
        Check.same("worked over midnight", desk.ticket(0, 4), 241);
    }

    /** "Each agent that is not there and has a ticket hands it back: it is WAITING." */
    private static void handsBackBehindItsLastDay() {
        HelpDesk desk = new HelpDesk();
        desk.addAgent(1, 1, 0, DAY);
        Desks.passTo(desk, DAY - 10);
        desk.open(0, 3, 11, 0);
        desk.pass(10);
        Check.same("not there at midnight", desk.agent(0, 3), 0);
        Check.same("has its ticket at midnight", desk.agent(0, 0), 0);
        Check.same("WORKED at midnight", desk.ticket(0, 0), 1);
        Check.same("no more work", desk.pass(1), 0);
        Check.same("handed back", desk.agent(0, 0), -1);
        Check.same("WAITING", desk.ticket(0, 0), 0);
        Check.same("done stays", desk.ticket(0, 4), 10);
        Check.same("minutes worked stay", desk.agent(0, 1), 10);
        Desks.passTo(desk, 7 * DAY);
        Check.same("last minute of work a week later", desk.pass(1), 1);
    }

    /** "Skills are 0 to 7": one agent has each of them but one, the other one that one alone. */
    private static void skills() {
        for (int skill = 0; skill < 8; skill++) {
            HelpDesk desk = new HelpDesk();
            desk.addAgent(255 - (1 << skill), 127, 0, DAY);
            desk.addAgent(1 << skill, 127, 0, DAY);
            desk.open(skill, 0, 5, 0);
            Check.same("without skill " + skill, desk.next(0), -1);
            Check.same("with skill " + skill, desk.next(1), 0);
            Check.same("somebody has skill " + skill, desk.lacking(), 0);
            desk.pass(1);
            Check.same("takes a ticket for skill " + skill, desk.ticket(0, 1), 1);
            desk.setSkills(1, 0);
            Check.same("hands it back without skill " + skill, desk.ticket(0, 1), -1);
            Check.same("nobody has skill " + skill, desk.lacking(), 1 << skill);
        }
    }

    /** "... are told as the sum of the powers 2^k of their numbers k": the first and the last k. */
    private static void sets() {
        HelpDesk desk = new HelpDesk();
        for (int i = 0; i < 20; i++) {
            desk.open(i == 0 ? 0 : 7, 0, 1, i == 0 ? 0 : 9);
        }
        Check.same("all tickets", desk.all(0), (1 << 20) - 1);
        desk.pause(0);
        Check.same("first ticket", desk.all(2), 1);
        Check.same("all but the first", desk.all(0), (1 << 20) - 2);
        desk.resume(0);
        desk.pause(19);
        Check.same("last ticket", desk.all(2), 1 << 19);
        Check.same("first and last skill", desk.lacking(), 1 + 128);
        Check.same("first and last customer", desk.merge(0, 19), 1 + 512);
        Check.same("nothing is left of the first ticket", desk.all(4), 1);
    }

    /** "It works at one ticket at a time." */
    private static void oneTicketAtATime() {
        HelpDesk desk = new HelpDesk();
        desk.addAgent(255, 127, 0, DAY);
        for (int i = 0; i < 20; i++) {
            desk.open(i % 8, i % 4, 7, 0);
        }
        for (int i = 0; i < 20; i++) {
            desk.pass(6);
            Check.same("one ticket", bitCount(desk.all(1)), 1);
            Check.same("six minutes", desk.ticket(desk.agent(0, 0), 4), 6);
            Check.same("one solved", desk.pass(1), 1);
        }
        Check.same("all solved", desk.all(3), (1 << 20) - 1);
        Check.same("minutes worked", desk.agent(0, 1), 140);
        Check.same("solved how often", desk.agent(0, 2), 20);
    }

    /** "... the first one by its liking, if there is any": nothing there, and nothing for its skill. */
    private static void nothingToTake() {
        HelpDesk desk = new HelpDesk();
        desk.addAgent(254, 127, 0, DAY);
        desk.addAgent(0, 127, 0, DAY);
        desk.pass(1);
        Check.same("no tickets", desk.agent(0, 0), -1);
        desk.open(0, 0, 5, 0);
        desk.pass(1);
        Check.same("no ticket for its skills", desk.agent(0, 0), -1);
        Check.same("no skills", desk.agent(1, 0), -1);
        Check.same("no minutes worked", desk.agent(0, 1), 0);
    }

    /** "at first 60, 120, 240 and 480 for the answer, and four times as many for the solution". */
    private static void targetsAtFirst() {
        int[] answers = {60, 120, 240, 480};
        for (int priority = 0; priority < 4; priority++) {
            HelpDesk desk = new HelpDesk();
            desk.setHours(0, DAY);
            desk.open(0, priority, 1, 0);
            Check.same("due of priority " + priority, desk.due(0), 4 * answers[priority]);
            Desks.passTo(desk, answers[priority]);
            Check.same("answer at the target " + priority, desk.broken(true), 0);
            desk.pass(1);
            Check.same("answer behind the target " + priority, desk.broken(true), 1);
            Desks.passTo(desk, 4 * answers[priority]);
            Check.same("solution at the target " + priority, desk.broken(false), 0);
            Check.same("due at the target " + priority, desk.due(0), desk.now());
            desk.pass(1);
            Check.same("solution behind the target " + priority, desk.broken(false), 1);
            Check.same("due behind the target " + priority, desk.due(0), -1);
        }
    }

    /** "If as many minutes are done as its effort, it is SOLVED": 1 and 600 minutes. */
    private static void leastAndGreatestEffort() {
        HelpDesk desk = new HelpDesk();
        desk.addAgent(1, 127, 0, DAY);
        desk.addAgent(2, 127, 0, DAY);
        desk.open(0, 0, 1, 0);
        desk.open(1, 0, 600, 0);
        Check.same("effort 1", desk.pass(1), 1);
        Check.same("effort 1 done", desk.ticket(0, 4), 1);
        Check.same("effort 600, one minute ahead", desk.pass(598), 0);
        Check.same("effort 600 is WORKED", desk.ticket(1, 0), 1);
        Check.same("effort 600", desk.pass(1), 1);
        Check.same("effort 600 done", desk.ticket(1, 4), 600);
    }

    /** "tickets come first that had an agent before, and whose latest agent it was". */
    private static void likingOfOwnTickets() {
        HelpDesk desk = new HelpDesk();
        desk.setTargets(3, 1, 9999);
        desk.setTargets(0, 1, 1);
        desk.addAgent(1, 127, 0, DAY);
        desk.addAgent(1, 127, 0, DAY);
        desk.open(0, 3, 2, 0);
        desk.pass(1);
        desk.pause(0);
        desk.open(0, 0, 600, 0);
        desk.resume(0);
        Check.same("its own with the most slack", desk.next(0), 0);
        Check.same("not its own with the least slack", desk.next(1), 1);
        desk.pass(1);
        Check.same("takes its own", desk.ticket(0, 0), 3);
        Check.same("takes what is left", desk.agent(1, 0), 1);
        HelpDesk greater = new HelpDesk();
        greater.addAgent(2, 127, 0, DAY);
        greater.open(0, 0, 600, 0);
        greater.open(1, 3, 2, 0);
        greater.pass(1);
        greater.pause(1);
        greater.resume(1);
        greater.setSkills(0, 3);
        Check.same("its own with a greater number, a minute ahead of its end", greater.next(0), 1);
    }

    /** "otherwise those with less slack come first": by one minute, and below 0 too. */
    private static void likingBySlack() {
        HelpDesk desk = new HelpDesk();
        desk.setHours(0, DAY);
        desk.setTargets(0, 1, 3);
        desk.setTargets(1, 1, 2);
        desk.addAgent(1, 1, 1439, 1440);
        desk.open(0, 0, 5, 0);
        desk.open(0, 1, 5, 0);
        Check.same("one minute less", desk.next(0), 1);
        desk.pass(10);
        Check.same("one minute less, below 0", desk.next(0), 1);
        desk.pause(1);
        desk.pass(1);
        desk.resume(1);
        Check.same("the same below 0", desk.next(0), 0);
        desk.pause(1);
        desk.pass(1);
        desk.resume(1);
        Check.same("one minute less the other way", desk.next(0), 0);
        desk.setPriority(0, 2);
        Check.same("below 0 ahead of above 0", desk.next(0), 1);
    }

    /** "of the same slack those with smaller numbers": the first and the last of 20. */
    private static void likingByNumber() {
        HelpDesk desk = new HelpDesk();
        desk.addAgent(1, 127, 0, DAY);
        for (int i = 0; i < 20; i++) {
            desk.open(0, 1, 5, 0);
        }
        for (int i = 0; i < 20; i++) {
            Check.same("smaller number", desk.next(0), i);
            desk.pause(i);
        }
        Check.same("none is left", desk.next(0), -1);
        desk.resume(19);
        Check.same("last one", desk.next(0), 19);
        desk.resume(0);
        Check.same("first one", desk.next(0), 0);
    }

    /** "its age, as it is then, is noted for it": ahead of the minute in which it grows. */
    private static void takesAheadOfAging() {
        HelpDesk desk = new HelpDesk();
        desk.setTargets(0, 1, 9);
        desk.addAgent(1, 127, 541, DAY);
        desk.open(0, 0, 600, 0);
        desk.pass(541);
        Check.same("no answer yet", desk.ticket(0, 6), -1);
        Check.same("no answer yet, at the target", desk.broken(true), 0);
        desk.pass(1);
        Check.same("answer", desk.ticket(0, 6), 1);
        Check.same("age behind it", desk.ticket(0, 3), 2);
        Check.same("answer at the target", desk.broken(true), 0);
        HelpDesk later = new HelpDesk();
        later.setTargets(0, 1, 9);
        later.addAgent(1, 127, 542, DAY);
        later.open(0, 0, 600, 0);
        later.pass(543);
        Check.same("later answer", later.ticket(0, 6), 2);
        Check.same("answer behind the target", later.broken(true), 1);
    }

    /** "it is SOLVED, and the agent has no ticket any more": the next one is taken a minute later. */
    private static void solvedAgentTakesInTheNextMinute() {
        HelpDesk desk = new HelpDesk();
        desk.setHours(0, DAY);
        desk.addAgent(1, 127, 0, DAY);
        desk.open(0, 0, 3, 0);
        desk.open(0, 0, 3, 0);
        desk.pass(3);
        Check.same("no ticket", desk.agent(0, 0), -1);
        Check.same("the next one waits", desk.ticket(1, 0), 0);
        Check.same("the next one comes first", desk.next(0), 1);
        desk.pass(1);
        Check.same("the next one's answer", desk.ticket(1, 6), 3);
    }

    /** "It is some minute, at first 0": minute 0 passes like each other one. */
    private static void firstMinute() {
        HelpDesk desk = new HelpDesk();
        desk.setHours(0, 1);
        desk.addAgent(1, 1, 0, 1);
        desk.open(0, 0, 1, 0);
        desk.open(0, 0, 1, 0);
        Check.same("there at minute 0", desk.agent(0, 3), 1);
        Check.same("minute 0 is one of service", desk.service(0, 1), 1);
        Check.same("solved in minute 0", desk.pass(1), 1);
        Check.same("answer in minute 0", desk.ticket(0, 6), 0);
        Check.same("age behind minute 0", desk.ticket(0, 3), 1);
        Check.same("not there at minute 1", desk.agent(0, 3), 0);
        Check.same("none solved in minute 1", desk.pass(1), 0);
        Check.same("age behind minute 1", desk.ticket(1, 3), 1);
    }

    /** Minute 99998 is the last one that can pass; at 99999 all other calls go on. */
    private static void lastMinute() {
        HelpDesk desk = Desks.nearTheEnd(1);
        // It is a minute of day 69, which is a day 6 of its week.
        desk.addAgent(2, 64, 638, 639);
        desk.addAgent(2, 64, 639, 640);
        int ticket = desk.open(1, 3, 1, 9);
        Check.same("there at the last but one", desk.agent(1, 3), 1);
        Check.same("both solved in the last minute", desk.pass(1), 2);
        Check.same("it is the last minute", desk.now(), Desks.LAST_MINUTE);
        Check.same("SOLVED", desk.all(3), 1 + (1 << ticket));
        Check.same("not there any more", desk.agent(1, 3), 0);
        Check.same("there now", desk.agent(2, 3), 1);
        Check.same("worked until the end", desk.ticket(0, 4), 600);
        Check.same("no service at the end", desk.service(99998, 99999), 0);
        Check.same("opened again at the end", desk.reopen(ticket, 300), 301);
        Check.same("comes first at the end", desk.next(1), ticket);
        Check.same("opened at the end", desk.open(0, 0, 600, 0), 3);
        Check.same("not due any more", desk.due(3), -1);
        Check.same("paused at the end", desk.pause(3), 600);
        Check.same("goes on at the end", desk.resume(3), 0);
    }
}
