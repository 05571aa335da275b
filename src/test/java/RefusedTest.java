import java.util.Arrays;

/**
 * Each refused call: the first value that is not allowed at each end, which refusal comes first where
 * several meet, and that the call changes nothing. As not all that a desk holds is told by digest(),
 * the desk is compared with a twin without the call, also by what later calls answer.
 */
public final class RefusedTest {
    /** What a desk keeps to itself may come to light at once, or only in later minutes. */
    private static final int[] MINUTES_LATER = {0, 1, 600};

    private interface State {
        HelpDesk make();
    }

    private interface Call {
        Object on(HelpDesk desk);
    }

    private final String name;
    private final State state;

    private RefusedTest(String name, State state) {
        this.name = name;
        this.state = state;
    }

    public static void main(String[] args) {
        RefusedTest nothing = new RefusedTest("new desk", HelpDesk::new);
        RefusedTest busy = new RefusedTest("busy desk", Desks::busy);
        RefusedTest full = new RefusedTest("full desk", Desks::full);
        theBusyDesk();
        noAgentYet(nothing);
        noTicketYet(nothing);
        hoursAndTargets(busy);
        agents(busy);
        agentsToAdd(busy);
        ticketsToOpen(busy);
        noSuchTicket(busy, -1);
        noSuchTicket(busy, 7);
        wrongArguments(busy);
        wrongStates(busy);
        whatHappens(busy);
        asManyAsThereMayBe(full);
        theEnd();
        indexComesFirst(busy);
        argumentComesAheadOfState(busy);
        Check.finish("RefusedTest");
    }

    /** Were the busy desk another one than its names say, refusals would be tested on other states. */
    private static void theBusyDesk() {
        HelpDesk desk = Desks.busy();
        int[] states = {3, 3, 1, 2, 4, 0, 0};
        for (int i = 0; i < 7; i++) {
            Check.same("busy desk's ticket " + i, desk.ticket(i, 0), states[i]);
        }
        Check.same("busy desk, latest agent", desk.next(2), Desks.HANDED_BACK);
        Check.same("busy desk, just in time", desk.reopen(Desks.SOLVED_JUST_IN_TIME, 300), 301);
    }

    private static void noAgentYet(RefusedTest nothing) {
        nothing.index("7 setSkills(0, 1)", d -> d.setSkills(0, 1));
        nothing.index("8 agent(0, 0)", d -> d.agent(0, 0));
        nothing.index("9 next(0)", d -> d.next(0));
    }

    private static void noTicketYet(RefusedTest nothing) {
        noSuchTicket(nothing, 0);
        nothing.index("14 merge(0, 1)", d -> d.merge(0, 1));
        nothing.index("14 merge(0, 0)", d -> d.merge(0, 0));
    }

    private static void hoursAndTargets(RefusedTest busy) {
        int[][] hours = {{-1, 5}, {1440, 1441}, {1440, 1440}, {5, 5}, {5, 4}, {5, 1441}};
        for (int[] h : hours) {
            busy.argument("2 setHours " + Arrays.toString(h), d -> d.setHours(h[0], h[1]));
        }
        busy.index("3 setTargets, priority -1", d -> d.setTargets(-1, 1, 1));
        busy.index("3 setTargets, priority 4", d -> d.setTargets(4, 1, 1));
        int[][] targets = {{0, 5}, {0, 0}, {10000, 10000}, {10000, 9999}, {5, 4}, {9999, 9998},
            {5, 10000}, {9999, 10000}};
        for (int[] t : targets) {
            busy.argument("3 setTargets " + Arrays.toString(t), d -> d.setTargets(1, t[0], t[1]));
        }
        int[][] spans = {{-1, 0}, {-1, -1}, {0, -1}, {5, 4}, {99999, 99998}, {99999, 100000},
            {100000, 100000}, {0, 100000}};
        for (int[] s : spans) {
            busy.argument("5 service " + Arrays.toString(s), d -> d.service(s[0], s[1]));
        }
    }

    private static void agents(RefusedTest busy) {
        for (int agent : new int[] {-1, 3, 6, Integer.MIN_VALUE, Integer.MAX_VALUE}) {
            busy.index("7 setSkills, agent " + agent, d -> d.setSkills(agent, 1));
            busy.index("8 agent " + agent, d -> d.agent(agent, 0));
            busy.index("9 next, agent " + agent, d -> d.next(agent));
        }
        busy.index("8 agent, what -1", d -> d.agent(0, -1));
        busy.index("8 agent, what 4", d -> d.agent(0, 4));
        // Agent 0 has a ticket for skill 0, which it would have to hand back with the set 256.
        busy.argument("7 setSkills -1", d -> d.setSkills(0, -1));
        busy.argument("7 setSkills 256", d -> d.setSkills(0, 256));
    }

    private static void agentsToAdd(RefusedTest busy) {
        int[][] wrong = {{-1, 1, 0, 1}, {256, 1, 0, 1}, {1, 0, 0, 1}, {1, 128, 0, 1}, {1, 1, -1, 1},
            {1, 1, 1440, 1441}, {1, 1, 1440, 1440}, {1, 1, 5, 5}, {1, 1, 5, 4}, {1, 1, 5, 1441}};
        for (int[] w : wrong) {
            busy.argument("6 addAgent " + Arrays.toString(w), d -> d.addAgent(w[0], w[1], w[2], w[3]));
        }
    }

    private static void ticketsToOpen(RefusedTest busy) {
        int[][] wrong = {{-1, 0, 1, 0}, {8, 0, 1, 0}, {0, -1, 1, 0}, {0, 4, 1, 0}, {0, 0, 0, 0},
            {0, 0, 601, 0}, {0, 0, 1, -1}, {0, 0, 1, 10}};
        for (int[] w : wrong) {
            busy.argument("10 open " + Arrays.toString(w), d -> d.open(w[0], w[1], w[2], w[3]));
        }
    }

    private static void noSuchTicket(RefusedTest desk, int ticket) {
        desk.index("11 setPriority, ticket " + ticket, d -> d.setPriority(ticket, 0));
        desk.index("12 pause, ticket " + ticket, d -> d.pause(ticket));
        desk.index("13 resume, ticket " + ticket, d -> d.resume(ticket));
        desk.index("14 merge, ticket " + ticket, d -> d.merge(ticket, Desks.WORKED));
        desk.index("14 merge, into " + ticket, d -> d.merge(Desks.WORKED, ticket));
        desk.index("15 reopen, ticket " + ticket, d -> d.reopen(ticket, 1));
        desk.index("17 ticket " + ticket, d -> d.ticket(ticket, 0));
        desk.index("18 main, ticket " + ticket, d -> d.main(ticket));
        desk.index("19 customers, ticket " + ticket, d -> d.customers(ticket));
        desk.index("20 due, ticket " + ticket, d -> d.due(ticket));
    }

    private static void wrongArguments(RefusedTest busy) {
        for (int ticket = 0; ticket < 7; ticket++) {
            int t = ticket;
            busy.argument("11 setPriority -1, ticket " + t, d -> d.setPriority(t, -1));
            busy.argument("11 setPriority 4, ticket " + t, d -> d.setPriority(t, 4));
            busy.argument("14 merge into itself, ticket " + t, d -> d.merge(t, t));
            busy.argument("15 reopen by 0, ticket " + t, d -> d.reopen(t, 0));
            busy.argument("15 reopen by 301, ticket " + t, d -> d.reopen(t, 301));
            busy.index("17 ticket, what -1, ticket " + t, d -> d.ticket(t, -1));
            busy.index("17 ticket, what 8, ticket " + t, d -> d.ticket(t, 8));
        }
    }

    private static void wrongStates(RefusedTest busy) {
        busy.state("11 setPriority, MERGED", d -> d.setPriority(Desks.MERGED, 0));
        for (int ticket : new int[] {Desks.SOLVED_JUST_IN_TIME, Desks.PAUSED, Desks.MERGED}) {
            busy.state("12 pause, ticket " + ticket, d -> d.pause(ticket));
        }
        for (int ticket : new int[] {Desks.SOLVED_JUST_IN_TIME, Desks.WORKED, Desks.MERGED,
                Desks.WAITING, Desks.HANDED_BACK}) {
            busy.state("13 resume, ticket " + ticket, d -> d.resume(ticket));
        }
        int[] open = {Desks.WORKED, Desks.PAUSED, Desks.WAITING};
        for (int ticket : new int[] {Desks.SOLVED_JUST_IN_TIME, Desks.MERGED}) {
            for (int other : open) {
                busy.state("14 merge " + ticket + " into " + other, d -> d.merge(ticket, other));
                busy.state("14 merge " + other + " into " + ticket, d -> d.merge(other, ticket));
            }
        }
        busy.state("14 merge, neither is open", d -> d.merge(Desks.MERGED, Desks.SOLVED_TOO_LONG_AGO));
        for (int ticket : new int[] {Desks.SOLVED_TOO_LONG_AGO, Desks.WORKED, Desks.PAUSED,
                Desks.MERGED, Desks.WAITING, Desks.HANDED_BACK}) {
            busy.state("15 reopen, ticket " + ticket, d -> d.reopen(ticket, 1));
        }
    }

    private static void whatHappens(RefusedTest busy) {
        busy.argument("21 pass(0)", d -> d.pass(0));
        busy.argument("21 pass(-1)", d -> d.pass(-1));
        busy.argument("21 pass(601)", d -> d.pass(601));
        busy.index("22 all(-1)", d -> d.all(-1));
        busy.index("22 all(5)", d -> d.all(5));
    }

    private static void asManyAsThereMayBe(RefusedTest full) {
        full.state("6 a seventh agent", d -> d.addAgent(1, 127, 0, 1440));
        full.argument("6 argument ahead of the number of agents", d -> d.addAgent(256, 127, 0, 1440));
        full.argument("6 days ahead of the number of agents", d -> d.addAgent(1, 0, 0, 1440));
        full.argument("6 end ahead of the number of agents", d -> d.addAgent(1, 1, 5, 5));
        full.state("10 a twenty-first ticket", d -> d.open(0, 0, 1, 0));
        full.argument("10 skill ahead of the number of tickets", d -> d.open(8, 0, 1, 0));
        full.argument("10 effort ahead of the number of tickets", d -> d.open(0, 0, 0, 0));
        full.argument("10 customer ahead of the number of tickets", d -> d.open(0, 0, 1, 10));
        full.index("7 setSkills(6, 1)", d -> d.setSkills(6, 1));
        full.index("8 agent(6, 0)", d -> d.agent(6, 0));
        full.index("9 next(6)", d -> d.next(6));
        noSuchTicket(full, 20);
    }

    private static void theEnd() {
        RefusedTest last = new RefusedTest("last minute", () -> Desks.nearTheEnd(0));
        last.state("21 pass(1)", d -> d.pass(1));
        last.state("21 pass(600)", d -> d.pass(600));
        last.argument("21 argument ahead of the last minute, 0", d -> d.pass(0));
        last.argument("21 argument ahead of the last minute, 601", d -> d.pass(601));
        last.argument("21 argument ahead of the last minute", d -> d.pass(Integer.MAX_VALUE));
        RefusedTest near = new RefusedTest("599 minutes left", () -> Desks.nearTheEnd(599));
        near.state("21 pass(600)", d -> d.pass(600));
    }

    private static void indexComesFirst(RefusedTest busy) {
        busy.index("3 priority ahead of targets", d -> d.setTargets(4, 0, 0));
        busy.index("7 agent ahead of skills", d -> d.setSkills(3, 256));
        busy.index("11 ticket ahead of priority", d -> d.setPriority(7, 4));
        busy.index("14 no such ticket, twice the same", d -> d.merge(7, 7));
        busy.index("14 no such ticket ahead of MERGED", d -> d.merge(7, Desks.MERGED));
        busy.index("14 MERGED behind no such ticket", d -> d.merge(Desks.MERGED, 7));
        busy.index("14 SOLVED behind no such ticket", d -> d.merge(Desks.SOLVED_JUST_IN_TIME, -1));
        busy.index("15 ticket ahead of more", d -> d.reopen(7, 0));
    }

    private static void argumentComesAheadOfState(RefusedTest busy) {
        busy.argument("11 priority ahead of MERGED", d -> d.setPriority(Desks.MERGED, 4));
        busy.argument("14 the same ahead of MERGED", d -> d.merge(Desks.MERGED, Desks.MERGED));
        busy.argument("14 the same ahead of SOLVED",
                d -> d.merge(Desks.SOLVED_JUST_IN_TIME, Desks.SOLVED_JUST_IN_TIME));
        busy.argument("15 more ahead of WAITING", d -> d.reopen(Desks.WAITING, 301));
        busy.argument("15 more ahead of MERGED", d -> d.reopen(Desks.MERGED, 0));
        busy.argument("15 more ahead of too late", d -> d.reopen(Desks.SOLVED_TOO_LONG_AGO, 301));
    }

    private void argument(String what, Call call) {
        refused(IllegalArgumentException.class, what, call);
    }

    private void index(String what, Call call) {
        refused(IndexOutOfBoundsException.class, what, call);
    }

    private void state(String what, Call call) {
        refused(IllegalStateException.class, what, call);
    }

    private void refused(Class<?> due, String what, Call call) {
        for (int minutes : MINUTES_LATER) {
            HelpDesk desk = state.make();
            HelpDesk twin = state.make();
            Check.same(name + ": " + what + " throws " + due.getSimpleName(),
                    thrown(what, desk, call) == due, true);
            Check.same(name + ": " + what + " changes nothing, by what is told " + minutes
                    + " minutes later", told(desk, minutes).equals(told(twin, minutes)), true);
        }
    }

    private static Class<?> thrown(String what, HelpDesk desk, Call call) {
        try {
            call.on(desk);
        } catch (RuntimeException e) {
            Check.byItself(what, e);
            return e.getClass();
        }
        return null;
    }

    private static String told(HelpDesk desk, int minutes) {
        StringBuilder told = new StringBuilder();
        if (minutes > 0) {
            tell(told, desk, d -> d.pass(minutes));
        }
        tellQuestions(told, desk);
        for (int ticket = 0; ticket < desk.ticketCount(); ticket++) {
            letWaitAgain(told, desk, ticket);
        }
        tellQuestions(told, desk);
        for (int i = 0; i < 4; i++) {
            tell(told, desk, d -> d.pass(500));
            tell(told, desk, HelpDesk::digest);
        }
        return told.toString();
    }

    /** Makes no refused calls but the last one: on the twin they might do what they are tested for. */
    private static void letWaitAgain(StringBuilder told, HelpDesk desk, int ticket) {
        int state = desk.ticket(ticket, 0);
        if (state == 0 || state == 1) {
            tell(told, desk, d -> d.pause(ticket));
        }
        if (state <= 2) {
            tell(told, desk, d -> d.resume(ticket));
        } else {
            tell(told, desk, d -> d.reopen(ticket, 1));
        }
    }

    private static void tellQuestions(StringBuilder told, HelpDesk desk) {
        tell(told, desk, HelpDesk::digest);
        tell(told, desk, HelpDesk::lacking);
        tell(told, desk, d -> d.broken(true));
        tell(told, desk, d -> d.broken(false));
        told.append(desk.success()).append(' ');
        for (int i = 0; i < 6; i++) {
            int agent = i;
            tell(told, desk, d -> d.next(agent));
        }
        for (int i = 0; i < desk.ticketCount(); i++) {
            int ticket = i;
            tell(told, desk, d -> d.due(ticket));
        }
    }

    private static void tell(StringBuilder told, HelpDesk desk, Call call) {
        try {
            told.append(call.on(desk)).append(' ');
        } catch (RuntimeException e) {
            told.append(e.getClass().getSimpleName()).append(' ');
        }
    }
}
