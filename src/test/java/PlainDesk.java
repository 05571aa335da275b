import java.util.ArrayList;
import java.util.List;

/**
 * The document once more, in its plainest words: every minute is looked at by itself, and nothing is
 * kept that could be counted anew. RunsTest compares the program with it.
 */
final class PlainDesk {
    private static final int WAITING = 0;
    private static final int WORKED = 1;
    private static final int PAUSED = 2;
    private static final int SOLVED = 3;
    private static final int MERGED = 4;

    private static final class Agent {
        int skills;
        int days;
        int begin;
        int end;
        int ticket = -1;
        int worked;
        int solved;
    }

    private static final class Ticket {
        int skill;
        int priority;
        int effort;
        int customer;
        int age;
        int done;
        int state = WAITING;
        int latest = -1;
        int answer = -1;
        int opened;
        int pausedAt;
        int solvedIn;
        int into = -1;
    }

    private final List<Agent> agents = new ArrayList<>();
    private final List<Ticket> tickets = new ArrayList<>();
    private final int[] answers = {60, 120, 240, 480};
    private final int[] solutions = {240, 480, 960, 1920};
    private int opening = 540;
    private int closing = 1020;
    private int minute;

    private static void argument(boolean isFine) {
        if (!isFine) {
            throw new IllegalArgumentException();
        }
    }

    private static void state(boolean isFine) {
        if (!isFine) {
            throw new IllegalStateException();
        }
    }

    private static void index(boolean isFine) {
        if (!isFine) {
            throw new IndexOutOfBoundsException();
        }
    }

    private static boolean within(int x, int low, int high) {
        return low <= x && x <= high;
    }

    private static boolean in(int set, int k) {
        return (set >> k) % 2 == 1;
    }

    private boolean isAgent(int a) {
        return within(a, 0, agents.size() - 1);
    }

    private boolean isTicket(int t) {
        return within(t, 0, tickets.size() - 1);
    }

    private boolean isService(int m) {
        return within(m / 1440 % 7, 0, 4) && within(m % 1440, opening, closing - 1);
    }

    private boolean isThere(Agent a) {
        return in(a.days, minute / 1440 % 7) && within(minute % 1440, a.begin, a.end - 1);
    }

    private int agentOf(int ticket) {
        for (int a = 0; a < agents.size(); a++) {
            if (agents.get(a).ticket == ticket) {
                return a;
            }
        }
        return -1;
    }

    private void free(int ticket) {
        int a = agentOf(ticket);
        if (a >= 0) {
            agents.get(a).ticket = -1;
        }
    }

    private int slack(Ticket t) {
        return solutions[t.priority] - t.age;
    }

    private boolean isOpen(int t) {
        return within(tickets.get(t).state, WAITING, PAUSED);
    }

    public boolean setHours(int opening, int closing) {
        argument(within(opening, 0, 1439) && closing > opening && closing <= 1440);
        boolean isOther = this.opening != opening || this.closing != closing;
        this.opening = opening;
        this.closing = closing;
        return isOther;
    }

    public int setTargets(int priority, int answer, int solution) {
        index(within(priority, 0, 3));
        argument(within(answer, 1, 9999) && within(solution, answer, 9999));
        int before = solutions[priority];
        answers[priority] = answer;
        solutions[priority] = solution;
        return before;
    }

    public int now() {
        return minute;
    }

    public int service(int from, int to) {
        argument(from >= 0 && to >= from && to <= 99999);
        int count = 0;
        for (int m = from; m < to; m++) {
            count += isService(m) ? 1 : 0;
        }
        return count;
    }

    public int addAgent(int skills, int days, int begin, int end) {
        argument(within(skills, 0, 255) && within(days, 1, 127) && within(begin, 0, 1439)
                && end > begin && end <= 1440);
        state(agents.size() < 6);
        Agent a = new Agent();
        a.skills = skills;
        a.days = days;
        a.begin = begin;
        a.end = end;
        agents.add(a);
        return agents.size() - 1;
    }

    public int setSkills(int agent, int skills) {
        index(isAgent(agent));
        argument(within(skills, 0, 255));
        Agent a = agents.get(agent);
        int before = a.skills;
        a.skills = skills;
        if (a.ticket >= 0 && !in(skills, tickets.get(a.ticket).skill)) {
            tickets.get(a.ticket).state = WAITING;
            a.ticket = -1;
        }
        return before;
    }

    public int agent(int agent, int what) {
        index(isAgent(agent) && within(what, 0, 3));
        Agent a = agents.get(agent);
        return new int[] {a.ticket, a.worked, a.solved, isThere(a) ? 1 : 0}[what];
    }

    public int next(int agent) {
        index(isAgent(agent));
        List<Integer> liked = new ArrayList<>();
        for (int t = 0; t < tickets.size(); t++) {
            if (tickets.get(t).state == WAITING && in(agents.get(agent).skills, tickets.get(t).skill)) {
                liked.add(t);
            }
        }
        liked.sort((one, other) -> {
            Ticket s = tickets.get(one);
            Ticket t = tickets.get(other);
            int byLatest = Boolean.compare(t.latest == agent, s.latest == agent);
            int bySlack = Integer.compare(slack(s), slack(t));
            return byLatest != 0 ? byLatest : bySlack != 0 ? bySlack : Integer.compare(one, other);
        });
        return liked.isEmpty() ? -1 : liked.get(0);
    }

    public int open(int skill, int priority, int effort, int customer) {
        argument(within(skill, 0, 7) && within(priority, 0, 3) && within(effort, 1, 600)
                && within(customer, 0, 9));
        state(tickets.size() < 20);
        Ticket t = new Ticket();
        t.skill = skill;
        t.priority = priority;
        t.effort = effort;
        t.customer = customer;
        tickets.add(t);
        return tickets.size() - 1;
    }

    public int setPriority(int ticket, int priority) {
        index(isTicket(ticket));
        argument(within(priority, 0, 3));
        Ticket t = tickets.get(ticket);
        state(t.state != MERGED);
        int before = t.priority;
        t.priority = priority;
        return before;
    }

    public int pause(int ticket) {
        index(isTicket(ticket));
        Ticket t = tickets.get(ticket);
        state(t.state == WAITING || t.state == WORKED);
        free(ticket);
        t.state = PAUSED;
        t.pausedAt = minute;
        return t.effort - t.done;
    }

    public int resume(int ticket) {
        index(isTicket(ticket));
        Ticket t = tickets.get(ticket);
        state(t.state == PAUSED);
        t.state = WAITING;
        return minute - t.pausedAt;
    }

    public int merge(int ticket, int into) {
        index(isTicket(ticket) && isTicket(into));
        argument(ticket != into);
        state(isOpen(ticket) && isOpen(into));
        free(ticket);
        Ticket s = tickets.get(ticket);
        Ticket t = tickets.get(into);
        s.state = MERGED;
        s.into = into;
        if (s.priority < t.priority) {
            t.priority = s.priority;
        }
        if (s.age > t.age) {
            t.age = s.age;
        }
        return customers(into);
    }

    public int reopen(int ticket, int more) {
        index(isTicket(ticket));
        argument(within(more, 1, 300));
        Ticket t = tickets.get(ticket);
        state(t.state == SOLVED && minute - (t.solvedIn + 1) < 7200);
        t.state = WAITING;
        t.effort += more;
        t.opened++;
        return t.effort;
    }

    public int ticketCount() {
        return tickets.size();
    }

    public int ticket(int ticket, int what) {
        index(isTicket(ticket) && within(what, 0, 7));
        Ticket t = tickets.get(ticket);
        return new int[] {t.state, agentOf(ticket), t.priority, t.age, t.done, t.effort, t.answer,
            t.opened}[what];
    }

    public int main(int ticket) {
        index(isTicket(ticket));
        int into = tickets.get(ticket).into;
        return into < 0 ? ticket : main(into);
    }

    public int customers(int ticket) {
        index(isTicket(ticket));
        int set = 1 << tickets.get(ticket).customer;
        for (int t = 0; t < tickets.size(); t++) {
            if (tickets.get(t).into == ticket) {
                set |= customers(t);
            }
        }
        return set;
    }

    public int due(int ticket) {
        index(isTicket(ticket));
        Ticket t = tickets.get(ticket);
        if (t.state == MERGED || t.age > solutions[t.priority]) {
            return -1;
        }
        int age = t.age;
        for (int m = minute; m <= 99999; m++) {
            age += isService(m) ? 1 : 0;
            if (age > solutions[t.priority]) {
                return m;
            }
        }
        return -1;
    }

    public int pass(int minutes) {
        argument(within(minutes, 1, 600));
        state(minute + minutes <= 99999);
        int solved = 0;
        for (int i = 0; i < minutes; i++) {
            for (Agent a : agents) {
                if (!isThere(a) && a.ticket >= 0) {
                    tickets.get(a.ticket).state = WAITING;
                    a.ticket = -1;
                }
            }
            for (int a = 0; a < agents.size(); a++) {
                if (isThere(agents.get(a)) && agents.get(a).ticket < 0 && next(a) >= 0) {
                    agents.get(a).ticket = next(a);
                    Ticket t = tickets.get(agents.get(a).ticket);
                    t.state = WORKED;
                    t.latest = a;
                    t.answer = t.answer < 0 ? t.age : t.answer;
                }
            }
            for (Ticket t : tickets) {
                t.age += isService(minute) && (t.state == WAITING || t.state == WORKED) ? 1 : 0;
            }
            for (Agent a : agents) {
                if (a.ticket >= 0) {
                    Ticket t = tickets.get(a.ticket);
                    a.worked++;
                    t.done++;
                    if (t.done == t.effort) {
                        t.state = SOLVED;
                        t.solvedIn = minute;
                        a.ticket = -1;
                        a.solved++;
                        solved++;
                    }
                }
            }
            minute++;
        }
        return solved;
    }

    public int all(int state) {
        index(within(state, 0, 4));
        int set = 0;
        for (int t = 0; t < tickets.size(); t++) {
            set += tickets.get(t).state == state ? 1 << t : 0;
        }
        return set;
    }

    public int broken(boolean isAnswer) {
        int set = 0;
        for (int t = 0; t < tickets.size(); t++) {
            Ticket s = tickets.get(t);
            int age = isAnswer && s.answer >= 0 ? s.answer : s.age;
            int target = isAnswer ? answers[s.priority] : solutions[s.priority];
            set += s.state != MERGED && age > target ? 1 << t : 0;
        }
        return set;
    }

    public int lacking() {
        int set = 0;
        for (int skill = 0; skill < 8; skill++) {
            boolean isNeeded = false;
            for (int t = 0; t < tickets.size(); t++) {
                isNeeded |= isOpen(t) && tickets.get(t).skill == skill;
            }
            for (Agent a : agents) {
                isNeeded &= !in(a.skills, skill);
            }
            set += isNeeded ? 1 << skill : 0;
        }
        return set;
    }

    public double success() {
        int solved = all(SOLVED);
        int good = solved & ~broken(false);
        return solved == 0 ? 1 : (double) Integer.bitCount(good) / Integer.bitCount(solved);
    }

    public long digest() {
        List<Integer> numbers = new ArrayList<>(List.of(minute, opening, closing));
        for (int priority = 0; priority < 4; priority++) {
            numbers.add(answers[priority]);
            numbers.add(solutions[priority]);
        }
        numbers.add(agents.size());
        for (int a = 0; a < agents.size(); a++) {
            numbers.add(agents.get(a).skills);
            for (int what = 0; what < 4; what++) {
                numbers.add(agent(a, what));
            }
        }
        numbers.add(tickets.size());
        for (int t = 0; t < tickets.size(); t++) {
            numbers.add(tickets.get(t).skill);
            for (int what = 0; what < 8; what++) {
                numbers.add(ticket(t, what));
            }
            numbers.add(main(t));
            numbers.add(customers(t));
        }
        long d = 193;
        for (int x : numbers) {
            d = d * 31 + x;
        }
        return d;
    }
}
