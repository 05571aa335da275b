import java.util.ArrayList;

/**
 * A help desk: customers open tickets, agents with shifts take the most pressing ones and work at
 * them minute by minute, and targets count the hours of service until the answer and the solution.
 */
public final class HelpDesk {
    private static final int DAY = 1440;
    private static final int WEEK = 7;
    private static final int SERVICE_DAYS = 5;
    private static final int LAST_MINUTE = 99999;
    private static final int MOST_MINUTES_PASSED = 600;

    private static final int SKILLS = 8;
    private static final int ALL_SKILLS = 255;
    private static final int ALL_DAYS = 127;
    private static final int PRIORITIES = 4;
    private static final int CUSTOMERS = 10;
    private static final int MOST_TARGET = 9999;
    private static final int MOST_EFFORT = 600;
    private static final int MOST_MORE = 300;
    private static final int REOPEN_LIMIT = 7200;
    private static final int MOST_AGENTS = 6;
    private static final int MOST_TICKETS = 20;

    private static final int AGENT_WHATS = 4;
    private static final int TICKET_WHATS = 8;

    private static final int WAITING = 0;
    private static final int WORKED = 1;
    private static final int PAUSED = 2;
    private static final int SOLVED = 3;
    private static final int MERGED = 4;

    private final Hours hours;
    private final int[] answerTargets;
    private final int[] solutionTargets;
    private final ArrayList<Agent> agents;
    private final ArrayList<Ticket> tickets;
    private int minute;

    public HelpDesk() {
        hours = new Hours();
        answerTargets = new int[] {60, 120, 240, 480};
        solutionTargets = new int[] {240, 480, 960, 1920};
        agents = new ArrayList<Agent>();
        tickets = new ArrayList<Ticket>();
        minute = 0;
    }

    // ---- hours and targets

    public boolean setHours(int opening, int closing) throws IllegalArgumentException {
        if (!isSpanOfDay(opening, closing)) {
            throw new IllegalArgumentException("no such hours");
        }
        boolean isOther = opening != hours.opening || closing != hours.closing;
        hours.opening = opening;
        hours.closing = closing;
        return isOther;
    }

    public int setTargets(int priority, int answer, int solution)
            throws IndexOutOfBoundsException, IllegalArgumentException {
        if (!isPriority(priority)) {
            throw new IndexOutOfBoundsException("no such priority");
        }
        if (answer < 1 || answer > MOST_TARGET || solution < answer || solution > MOST_TARGET) {
            throw new IllegalArgumentException("no such targets");
        }
        int before = solutionTargets[priority];
        answerTargets[priority] = answer;
        solutionTargets[priority] = solution;
        return before;
    }

    public int now() {
        return minute;
    }

    public int service(int from, int to) throws IllegalArgumentException {
        if (from < 0 || to < from || to > LAST_MINUTE) {
            throw new IllegalArgumentException("no such span of minutes");
        }
        return hours.minutesBetween(from, to);
    }

    // ---- agents

    public int addAgent(int skills, int days, int begin, int end)
            throws IllegalArgumentException, IllegalStateException {
        if (!isSetOfSkills(skills) || days < 1 || days > ALL_DAYS || !isSpanOfDay(begin, end)) {
            throw new IllegalArgumentException("no such agent can be added");
        }
        if (agents.size() >= MOST_AGENTS) {
            throw new IllegalStateException("there are as many agents as there may be");
        }
        Agent added = new Agent(agents.size(), skills, days, begin, end);
        agents.add(added);
        return added.number;
    }

    public int setSkills(int agent, int skills)
            throws IndexOutOfBoundsException, IllegalArgumentException {
        Agent changed = agentAt(agent);
        if (!isSetOfSkills(skills)) {
            throw new IllegalArgumentException("no such set of skills");
        }
        int before = changed.skills;
        changed.skills = skills;
        Ticket held = changed.held;
        if (held != null && !changed.hasSkill(held.skill)) {
            handBack(held);
        }
        return before;
    }

    public int agent(int agent, int what) throws IndexOutOfBoundsException {
        Agent asked = agentAt(agent);
        if (what < 0 || what >= AGENT_WHATS) {
            throw new IndexOutOfBoundsException("no such thing is told of an agent");
        }
        return toldOfAgent(asked, what);
    }

    public int next(int agent) throws IndexOutOfBoundsException {
        return numberOfTicket(firstByLiking(agentAt(agent)));
    }

    // ---- tickets

    public int open(int skill, int priority, int effort, int customer)
            throws IllegalArgumentException, IllegalStateException {
        if (skill < 0 || skill >= SKILLS || !isPriority(priority)
                || effort < 1 || effort > MOST_EFFORT || customer < 0 || customer >= CUSTOMERS) {
            throw new IllegalArgumentException("no such ticket can be opened");
        }
        if (tickets.size() >= MOST_TICKETS) {
            throw new IllegalStateException("there are as many tickets as there may be");
        }
        Ticket opened = new Ticket(tickets.size(), skill, priority, effort, customer);
        tickets.add(opened);
        return opened.number;
    }

    public int setPriority(int ticket, int priority)
            throws IndexOutOfBoundsException, IllegalArgumentException, IllegalStateException {
        Ticket changed = ticketAt(ticket);
        if (!isPriority(priority)) {
            throw new IllegalArgumentException("no such priority");
        }
        if (changed.state == MERGED) {
            throw new IllegalStateException("the ticket is merged");
        }
        int before = changed.priority;
        changed.priority = priority;
        return before;
    }

    public int pause(int ticket) throws IndexOutOfBoundsException, IllegalStateException {
        Ticket paused = ticketAt(ticket);
        if (paused.state != WAITING && paused.state != WORKED) {
            throw new IllegalStateException("the ticket is neither waiting nor worked at");
        }
        takeFromHolder(paused);
        paused.state = PAUSED;
        paused.pausedAt = minute;
        return paused.effort - paused.done;
    }

    public int resume(int ticket) throws IndexOutOfBoundsException, IllegalStateException {
        Ticket resumed = ticketAt(ticket);
        if (resumed.state != PAUSED) {
            throw new IllegalStateException("the ticket is not paused");
        }
        resumed.state = WAITING;
        return minute - resumed.pausedAt;
    }

    public int merge(int ticket, int into)
            throws IndexOutOfBoundsException, IllegalArgumentException, IllegalStateException {
        Ticket merged = ticketAt(ticket);
        Ticket target = ticketAt(into);
        if (ticket == into) {
            throw new IllegalArgumentException("a ticket is not merged into itself");
        }
        if (!merged.isOpen() || !target.isOpen()) {
            throw new IllegalStateException("one of the tickets is not open");
        }
        takeFromHolder(merged);
        merged.state = MERGED;
        merged.mergedInto = target;
        target.priority = Math.min(target.priority, merged.priority);
        target.age = Math.max(target.age, merged.age);
        // Nothing is merged into a ticket that is MERGED, so a set never grows after it is passed on.
        target.customerSet |= merged.customerSet;
        return target.customerSet;
    }

    public int reopen(int ticket, int more)
            throws IndexOutOfBoundsException, IllegalArgumentException, IllegalStateException {
        Ticket reopened = ticketAt(ticket);
        if (more < 1 || more > MOST_MORE) {
            throw new IllegalArgumentException("no such greater effort");
        }
        if (reopened.state != SOLVED || minute - reopened.solvedAt >= REOPEN_LIMIT) {
            throw new IllegalStateException("the ticket is not solved, or was so long ago");
        }
        reopened.state = WAITING;
        reopened.effort += more;
        reopened.timesReopened++;
        return reopened.effort;
    }

    public int ticketCount() {
        return tickets.size();
    }

    public int ticket(int ticket, int what) throws IndexOutOfBoundsException {
        Ticket asked = ticketAt(ticket);
        if (what < 0 || what >= TICKET_WHATS) {
            throw new IndexOutOfBoundsException("no such thing is told of a ticket");
        }
        return toldOfTicket(asked, what);
    }

    public int main(int ticket) throws IndexOutOfBoundsException {
        return mainOf(ticketAt(ticket)).number;
    }

    public int customers(int ticket) throws IndexOutOfBoundsException {
        return ticketAt(ticket).customerSet;
    }

    public int due(int ticket) throws IndexOutOfBoundsException {
        Ticket asked = ticketAt(ticket);
        int slack = slackOf(asked);
        if (asked.state == MERGED || slack < 0) {
            return -1;
        }
        return hours.minuteOfService(minute, slack + 1);
    }

    // ---- what happens

    public int pass(int minutes) throws IllegalArgumentException, IllegalStateException {
        if (minutes < 1 || minutes > MOST_MINUTES_PASSED) {
            throw new IllegalArgumentException("no such number of minutes");
        }
        if (minutes > LAST_MINUTE - minute) {
            throw new IllegalStateException("it would be later than the last minute");
        }
        int solved = 0;
        for (int i = 0; i < minutes; i++) {
            solved += passMinute();
        }
        return solved;
    }

    public int all(int state) throws IndexOutOfBoundsException {
        if (state < WAITING || state > MERGED) {
            throw new IndexOutOfBoundsException("no such state");
        }
        int set = 0;
        for (int i = 0; i < tickets.size(); i++) {
            if (tickets.get(i).state == state) {
                set |= 1 << i;
            }
        }
        return set;
    }

    public int broken(boolean isAnswer) {
        int set = 0;
        for (int i = 0; i < tickets.size(); i++) {
            Ticket looked = tickets.get(i);
            if (isAnswer ? breaksAnswer(looked) : breaksSolution(looked)) {
                set |= 1 << i;
            }
        }
        return set;
    }

    public int lacking() {
        int needed = 0;
        for (int i = 0; i < tickets.size(); i++) {
            Ticket looked = tickets.get(i);
            if (looked.isOpen()) {
                needed |= 1 << looked.skill;
            }
        }
        int had = 0;
        for (int i = 0; i < agents.size(); i++) {
            had |= agents.get(i).skills;
        }
        return needed & ~had;
    }

    public double success() {
        int solved = 0;
        int inTime = 0;
        for (int i = 0; i < tickets.size(); i++) {
            Ticket looked = tickets.get(i);
            if (looked.state == SOLVED) {
                solved++;
                if (!breaksSolution(looked)) {
                    inTime++;
                }
            }
        }
        return solved == 0 ? 1.0 : (double) inTime / (double) solved;
    }

    public long digest() {
        long d = 193L;
        d = digested(d, minute);
        d = digested(d, hours.opening);
        d = digested(d, hours.closing);
        for (int i = 0; i < PRIORITIES; i++) {
            d = digested(d, answerTargets[i]);
            d = digested(d, solutionTargets[i]);
        }
        d = digested(d, agents.size());
        for (int i = 0; i < agents.size(); i++) {
            d = digestedAgent(d, agents.get(i));
        }
        d = digested(d, tickets.size());
        for (int i = 0; i < tickets.size(); i++) {
            d = digestedTicket(d, tickets.get(i));
        }
        return d;
    }

    // ---- one minute

    private int passMinute() {
        sendHomeAgents();
        giveOutTickets();
        if (hours.isService(minute)) {
            ageTickets();
        }
        int solved = work();
        minute++;
        return solved;
    }

    private void sendHomeAgents() {
        for (int i = 0; i < agents.size(); i++) {
            Agent agent = agents.get(i);
            Ticket held = agent.held;
            if (held != null && !agent.isThere(minute)) {
                handBack(held);
            }
        }
    }

    private void giveOutTickets() {
        for (int i = 0; i < agents.size(); i++) {
            Agent agent = agents.get(i);
            if (agent.held == null && agent.isThere(minute)) {
                Ticket first = firstByLiking(agent);
                if (first != null) {
                    give(first, agent);
                }
            }
        }
    }

    private void ageTickets() {
        for (int i = 0; i < tickets.size(); i++) {
            Ticket ticket = tickets.get(i);
            if (ticket.state == WAITING || ticket.state == WORKED) {
                ticket.age++;
            }
        }
    }

    /** Lets each agent work for one minute, and returns how many tickets were solved. */
    private int work() {
        int solved = 0;
        for (int i = 0; i < agents.size(); i++) {
            Agent agent = agents.get(i);
            Ticket held = agent.held;
            if (held != null) {
                agent.minutesWorked++;
                held.done++;
                if (held.done == held.effort) {
                    solve(held, agent);
                    solved++;
                }
            }
        }
        return solved;
    }

    private void solve(Ticket ticket, Agent agent) {
        takeFromHolder(ticket);
        ticket.state = SOLVED;
        // The limit for opening it again counts from the minute behind this one.
        ticket.solvedAt = minute + 1;
        agent.timesSolved++;
    }

    private static void give(Ticket ticket, Agent agent) {
        agent.held = ticket;
        ticket.holder = agent;
        ticket.latestHolder = agent;
        ticket.state = WORKED;
        if (ticket.answerAge < 0) {
            ticket.answerAge = ticket.age;
        }
    }

    private static void handBack(Ticket ticket) {
        takeFromHolder(ticket);
        ticket.state = WAITING;
    }

    private static void takeFromHolder(Ticket ticket) {
        Agent holder = ticket.holder;
        if (holder != null) {
            holder.held = null;
            ticket.holder = null;
        }
    }

    // ---- which ticket comes first

    /** Returns null if no ticket WAITING needs a skill of the agent. */
    private Ticket firstByLiking(Agent agent) {
        Ticket first = null;
        for (int i = 0; i < tickets.size(); i++) {
            Ticket ticket = tickets.get(i);
            if (ticket.state == WAITING && agent.hasSkill(ticket.skill)
                    && (first == null || isLikedMore(agent, ticket, first))) {
                first = ticket;
            }
        }
        return first;
    }

    /** Of equals none is liked more: the one with the smaller number, found before, stays first. */
    private boolean isLikedMore(Agent agent, Ticket one, Ticket other) {
        boolean isOwn = one.latestHolder == agent;
        boolean isOtherOwn = other.latestHolder == agent;
        if (isOwn != isOtherOwn) {
            return isOwn;
        }
        return slackOf(one) < slackOf(other);
    }

    private int slackOf(Ticket ticket) {
        return solutionTargets[ticket.priority] - ticket.age;
    }

    // ---- targets

    private boolean breaksAnswer(Ticket ticket) {
        int age = ticket.answerAge < 0 ? ticket.age : ticket.answerAge;
        return ticket.state != MERGED && age > answerTargets[ticket.priority];
    }

    private boolean breaksSolution(Ticket ticket) {
        return ticket.state != MERGED && slackOf(ticket) < 0;
    }

    // ---- what is told

    private int toldOfAgent(Agent agent, int what) {
        switch (what) {
            case 0:
                return numberOfTicket(agent.held);
            case 1:
                return agent.minutesWorked;
            case 2:
                return agent.timesSolved;
            default:
                return agent.isThere(minute) ? 1 : 0;
        }
    }

    private static int toldOfTicket(Ticket ticket, int what) {
        switch (what) {
            case 0:
                return ticket.state;
            case 1:
                return numberOfAgent(ticket.holder);
            case 2:
                return ticket.priority;
            case 3:
                return ticket.age;
            case 4:
                return ticket.done;
            case 5:
                return ticket.effort;
            case 6:
                return ticket.answerAge;
            default:
                return ticket.timesReopened;
        }
    }

    private static int numberOfAgent(Agent agent) {
        return agent == null ? -1 : agent.number;
    }

    private static int numberOfTicket(Ticket ticket) {
        return ticket == null ? -1 : ticket.number;
    }

    private static Ticket mainOf(Ticket ticket) {
        Ticket last = ticket;
        Ticket following = last.mergedInto;
        // Only open tickets are merged into, so the chain is shorter than the number of tickets.
        for (int i = 0; i < MOST_TICKETS && following != null; i++) {
            last = following;
            following = last.mergedInto;
        }
        return last;
    }

    private static long digested(long d, int x) {
        return d * 31L + x;
    }

    private long digestedAgent(long before, Agent agent) {
        long d = digested(before, agent.skills);
        for (int what = 0; what < AGENT_WHATS; what++) {
            d = digested(d, toldOfAgent(agent, what));
        }
        return d;
    }

    private static long digestedTicket(long before, Ticket ticket) {
        long d = digested(before, ticket.skill);
        for (int what = 0; what < TICKET_WHATS; what++) {
            d = digested(d, toldOfTicket(ticket, what));
        }
        d = digested(d, mainOf(ticket).number);
        return digested(d, ticket.customerSet);
    }

    // ---- what is looked at before it is used

    private Agent agentAt(int number) {
        if (number < 0 || number >= agents.size()) {
            throw new IndexOutOfBoundsException("no such agent");
        }
        return agents.get(number);
    }

    private Ticket ticketAt(int number) {
        if (number < 0 || number >= tickets.size()) {
            throw new IndexOutOfBoundsException("no such ticket");
        }
        return tickets.get(number);
    }

    private static boolean isPriority(int priority) {
        return priority >= 0 && priority < PRIORITIES;
    }

    private static boolean isSetOfSkills(int skills) {
        return skills >= 0 && skills <= ALL_SKILLS;
    }

    private static boolean isSpanOfDay(int begin, int end) {
        return begin >= 0 && begin < DAY && end > begin && end <= DAY;
    }

    private static int dayOfWeek(int minute) {
        return minute / DAY % WEEK;
    }

    /** The hours of service. */
    private static final class Hours {
        int opening;
        int closing;

        Hours() {
            opening = 540;
            closing = 1020;
        }

        boolean isService(int minute) {
            int minuteOfDay = minute % DAY;
            return dayOfWeek(minute) < SERVICE_DAYS
                    && minuteOfDay >= opening && minuteOfDay < closing;
        }

        int minutesBetween(int from, int to) {
            int minutes = 0;
            for (int midnight = from - from % DAY; midnight < to; midnight += DAY) {
                minutes += minutesOfDay(midnight, from, to);
            }
            return minutes;
        }

        /** Returns the minute of service that comes as the count-th one from a minute on, or -1. */
        int minuteOfService(int from, int count) {
            int left = count;
            for (int midnight = from - from % DAY; midnight <= LAST_MINUTE; midnight += DAY) {
                int minutes = minutesOfDay(midnight, from, LAST_MINUTE + 1);
                if (minutes >= left) {
                    return Math.max(from, midnight + opening) + left - 1;
                }
                left -= minutes;
            }
            return -1;
        }

        /** Returns how many minutes of service the day has from one minute on, ahead of another. */
        private int minutesOfDay(int midnight, int from, int to) {
            if (dayOfWeek(midnight) >= SERVICE_DAYS) {
                return 0;
            }
            int first = Math.max(from, midnight + opening);
            int behind = Math.min(to, midnight + closing);
            return Math.max(0, behind - first);
        }
    }

    /** An agent: its skills, its shift and the ticket that it works at. */
    private static final class Agent {
        final int number;
        final int days;
        final int begin;
        final int end;
        int skills;
        Ticket held;
        int minutesWorked;
        int timesSolved;

        Agent(int number, int skills, int days, int begin, int end) {
            this.number = number;
            this.skills = skills;
            this.days = days;
            this.begin = begin;
            this.end = end;
        }

        boolean hasSkill(int skill) {
            return (skills & 1 << skill) != 0;
        }

        boolean isThere(int minute) {
            int minuteOfDay = minute % DAY;
            return (days & 1 << dayOfWeek(minute)) != 0
                    && minuteOfDay >= begin && minuteOfDay < end;
        }
    }

    /** A ticket: what it needs, how far it is, and where it has gone. */
    private static final class Ticket {
        final int number;
        final int skill;
        int priority;
        int effort;
        int state;
        int age;
        int done;
        int answerAge;
        int timesReopened;
        int pausedAt;
        int solvedAt;
        int customerSet;
        Agent holder;
        Agent latestHolder;
        Ticket mergedInto;

        Ticket(int number, int skill, int priority, int effort, int customer) {
            this.number = number;
            this.skill = skill;
            this.priority = priority;
            this.effort = effort;
            state = WAITING;
            // As long as it has no answer, its age then is told as -1.
            answerAge = -1;
            customerSet = 1 << customer;
        }

        boolean isOpen() {
            return state == WAITING || state == WORKED || state == PAUSED;
        }
    }
}
