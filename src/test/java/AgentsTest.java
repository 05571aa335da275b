/** Promises 6 to 9: agents. */
public final class AgentsTest {
    private static final int MIN = Integer.MIN_VALUE;
    private static final int MAX = Integer.MAX_VALUE;

    public static void main(String[] args) {
        addAgentNumbers();
        addAgentEdges();
        addAgentThrows();
        shiftRules();
        setSkillsAnswers();
        setSkillsHandsBack();
        setSkillsThrows();
        sixAgents();
        agentTells();
        agentThrows();
        nextBySlack();
        nextByLatestAgent();
        nextLooksOnlyAtWaiting();
        nextThrows();
        Check.finish("AgentsTest");
    }

    private static void addAgentNumbers() {
        HelpDesk desk = new HelpDesk();
        for (int i = 0; i < 6; i++) {
            Check.same("6 number", desk.addAgent(i, 127, 0, 1440), i);
        }
        Check.illegalState(desk, "6 seventh", () -> desk.addAgent(1, 127, 0, 1440));
        Check.illegalArgument(desk, "6 argument first", () -> desk.addAgent(-1, 127, 0, 1440));
        for (int i = 0; i < 6; i++) {
            Check.same("6 skills", desk.setSkills(i, 0), i);
        }
    }

    private static void addAgentEdges() {
        HelpDesk desk = new HelpDesk();
        Check.same("6 least", desk.addAgent(0, 1, 0, 1), 0);
        Check.same("6 greatest", desk.addAgent(255, 127, 1439, 1440), 1);
    }

    private static void addAgentThrows() {
        HelpDesk desk = new HelpDesk();
        int[][] wrong = {{-1, 1, 0, 1}, {256, 1, 0, 1}, {1, 0, 0, 1}, {1, -1, 0, 1}, {1, 128, 0, 1},
            {1, 1, -1, 1}, {1, 1, 1440, 1441}, {1, 1, 5, 5}, {1, 1, 5, 4}, {1, 1, 5, 1441},
            {MIN, 1, 0, 1}, {MAX, 1, 0, 1}, {1, MIN, 0, 1}, {1, MAX, 0, 1}, {1, 1, MIN, 1},
            {1, 1, MAX, MAX}, {1, 1, 0, MAX}, {1, 1, 0, MIN}};
        for (int[] w : wrong) {
            Check.illegalArgument(desk, "6 addAgent " + w[0] + " " + w[1] + " " + w[2] + " " + w[3],
                    () -> desk.addAgent(w[0], w[1], w[2], w[3]));
        }
        Check.same("6 none was added", desk.addAgent(1, 1, 0, 1), 0);
    }

    private static void shiftRules() {
        HelpDesk desk = new HelpDesk();
        desk.addAgent(1, 2 + 64, 10, 20);
        Check.same("6 other day", desk.agent(0, 3), 0);
        desk.pass(15);
        Check.same("6 other day, its time", desk.agent(0, 3), 0);
        Desks.passTo(desk, 1440 + 9);
        Check.same("6 ahead of begin", desk.agent(0, 3), 0);
        desk.pass(1);
        Check.same("6 begin", desk.agent(0, 3), 1);
        desk.pass(9);
        Check.same("6 last minute", desk.agent(0, 3), 1);
        desk.pass(1);
        Check.same("6 end", desk.agent(0, 3), 0);
        Desks.passTo(desk, 6 * 1440 + 10);
        Check.same("6 last day of the week", desk.agent(0, 3), 1);
        Desks.passTo(desk, 7 * 1440 + 10);
        Check.same("6 first day of the next week", desk.agent(0, 3), 0);
        Desks.passTo(desk, 8 * 1440 + 10);
        Check.same("6 its day of the next week", desk.agent(0, 3), 1);
    }

    private static void setSkillsAnswers() {
        HelpDesk desk = new HelpDesk();
        desk.addAgent(5, 127, 0, 1440);
        desk.open(1, 0, 5, 0);
        Check.same("7 before", desk.setSkills(0, 2), 5);
        Check.same("7 before again", desk.setSkills(0, 0), 2);
        Check.same("7 none", desk.setSkills(0, 255), 0);
        Check.same("7 all", desk.setSkills(0, 2), 255);
        desk.pass(1);
        Check.same("7 new skill is used", desk.agent(0, 0), 0);
    }

    private static void setSkillsHandsBack() {
        HelpDesk desk = new HelpDesk();
        desk.addAgent(3, 127, 0, 1440);
        desk.open(1, 0, 5, 0);
        desk.pass(2);
        desk.setSkills(0, 2);
        Check.same("7 keeps its ticket", desk.agent(0, 0), 0);
        Check.same("7 is still worked", desk.ticket(0, 0), 1);
        desk.setSkills(0, 1);
        Check.same("7 hands back", desk.agent(0, 0), -1);
        Check.same("7 waits", desk.ticket(0, 0), 0);
        Check.same("7 has no agent", desk.ticket(0, 1), -1);
        Check.same("7 work stays", desk.ticket(0, 4), 2);
        desk.setSkills(0, 3);
        desk.open(0, 0, 5, 0);
        desk.setPriority(0, 3);
        Check.same("7 it stays the latest agent", desk.next(0), 0);
    }

    private static void setSkillsThrows() {
        HelpDesk desk = new HelpDesk();
        Check.outOfBounds(desk, "7 no agents", () -> desk.setSkills(0, 1));
        desk.addAgent(1, 127, 0, 1440);
        for (int agent : new int[] {-1, 1, MIN, MAX}) {
            Check.outOfBounds(desk, "7 agent " + agent, () -> desk.setSkills(agent, 1));
            Check.outOfBounds(desk, "7 agent first " + agent, () -> desk.setSkills(agent, 256));
        }
        for (int skills : new int[] {-1, 256, MIN, MAX}) {
            Check.illegalArgument(desk, "7 skills " + skills, () -> desk.setSkills(0, skills));
        }
    }

    private static void sixAgents() {
        HelpDesk desk = Desks.full();
        for (int agent = 0; agent < 6; agent++) {
            Check.same("9 of six", desk.next(agent), agent);
            Check.same("8 of six", desk.agent(agent, 0), -1);
        }
        desk.pass(1);
        for (int agent = 0; agent < 6; agent++) {
            Check.same("8 each has its ticket", desk.ticket(desk.agent(agent, 0), 1), agent);
        }
        Check.same("7 of six", desk.setSkills(5, 255), 32);
        Check.same("8 the last one keeps its ticket", desk.agent(5, 0), 5);
        Check.same("7 of six again", desk.setSkills(5, 0), 255);
        Check.same("8 the last one has handed it back", desk.agent(5, 0), -1);
        Check.same("9 without skills", desk.next(5), -1);
        Check.same("8 the last but one keeps its own", desk.agent(4, 0), 4);
    }

    private static void agentTells() {
        HelpDesk desk = new HelpDesk();
        desk.addAgent(1, 127, 2, 10);
        desk.open(0, 0, 3, 0);
        desk.open(0, 0, 100, 0);
        tells(desk, "8 at first", -1, 0, 0, 0);
        desk.pass(2);
        tells(desk, "8 there, without a ticket yet", -1, 0, 0, 1);
        desk.pass(1);
        tells(desk, "8 works", 0, 1, 0, 1);
        desk.pass(2);
        tells(desk, "8 solved", -1, 3, 1, 1);
        desk.pass(5);
        tells(desk, "8 not there, with its ticket still", 1, 8, 1, 0);
        desk.pass(1);
        tells(desk, "8 gone home", -1, 8, 1, 0);
        Check.same("8 handed back", desk.ticket(1, 0), 0);
        Check.same("8 handed back, its agent", desk.ticket(1, 1), -1);
        desk.reopen(0, 1);
        Desks.passTo(desk, 1440 + 3);
        tells(desk, "8 solved again", -1, 9, 2, 1);
    }

    private static void tells(HelpDesk desk, String what, int held, int worked, int solved, int there) {
        Check.same(what + ": ticket", desk.agent(0, 0), held);
        Check.same(what + ": minutes", desk.agent(0, 1), worked);
        Check.same(what + ": solved", desk.agent(0, 2), solved);
        Check.same(what + ": there", desk.agent(0, 3), there);
    }

    private static void agentThrows() {
        HelpDesk desk = new HelpDesk();
        desk.addAgent(1, 127, 0, 1440);
        for (int agent : new int[] {-1, 1, 6, MIN, MAX}) {
            Check.outOfBounds(desk, "8 agent " + agent, () -> desk.agent(agent, 0));
        }
        for (int what : new int[] {-1, 4, MIN, MAX}) {
            Check.outOfBounds(desk, "8 what " + what, () -> desk.agent(0, what));
        }
    }

    private static void nextBySlack() {
        HelpDesk desk = new HelpDesk();
        desk.addAgent(3, 64, 0, 1);
        desk.addAgent(128, 127, 0, 1440);
        Check.same("9 no tickets", desk.next(0), -1);
        desk.open(2, 0, 5, 0);
        Check.same("9 another skill", desk.next(0), -1);
        desk.open(0, 3, 5, 0);
        Check.same("9 the only one, though it is not there", desk.next(0), 1);
        desk.open(1, 2, 5, 0);
        Check.same("9 less slack", desk.next(0), 2);
        desk.open(0, 2, 5, 0);
        Check.same("9 the same slack", desk.next(0), 2);
        desk.setTargets(3, 1, 959);
        Check.same("9 less slack by targets", desk.next(0), 1);
        desk.setTargets(3, 1, 961);
        Check.same("9 more slack by targets", desk.next(0), 2);
        desk.setHours(0, 1440);
        desk.pause(2);
        desk.pause(3);
        desk.pass(2);
        desk.resume(2);
        desk.resume(3);
        Check.same("9 less slack by age", desk.next(0), 1);
        Check.same("9 no ticket for its skill", desk.next(1), -1);
        Check.same("9 another agent", desk.setSkills(1, 4), 128);
        Check.same("9 another agent's", desk.next(1), 0);
    }

    private static void nextByLatestAgent() {
        HelpDesk desk = new HelpDesk();
        desk.addAgent(1, 127, 0, 1440);
        desk.addAgent(1, 127, 1, 1440);
        desk.open(0, 3, 50, 0);
        desk.pass(1);
        desk.open(0, 3, 50, 0);
        desk.pass(1);
        Check.same("9 both work", desk.all(1), 3);
        desk.pause(0);
        desk.pause(1);
        desk.resume(0);
        desk.resume(1);
        desk.open(0, 0, 50, 0);
        Check.same("9 its own first", desk.next(0), 0);
        Check.same("9 its own first, of the other one", desk.next(1), 1);
        desk.pause(1);
        Check.same("9 by slack, not another agent's", desk.next(1), 2);
        desk.resume(1);
        desk.setPriority(1, 2);
        Check.same("9 another one's with less slack", desk.next(0), 0);
        desk.pass(1);
        desk.setSkills(0, 0);
        desk.pause(1);
        desk.pass(1);
        Check.same("9 own one goes on", desk.agent(1, 0), 2);
        desk.pause(2);
        desk.pass(1);
        Check.same("9 takes the first one's", desk.agent(1, 0), 0);
        desk.pause(0);
        desk.resume(0);
        desk.resume(1);
        desk.resume(2);
        Check.same("9 of several own ones less slack", desk.next(1), 2);
        desk.setSkills(0, 1);
        Check.same("9 only the latest agent counts", desk.next(0), 2);
        desk.setPriority(2, 3);
        desk.setPriority(1, 3);
        desk.setPriority(0, 3);
        Check.same("9 of own ones of the same slack the smaller number", desk.next(1), 0);
    }

    private static void nextLooksOnlyAtWaiting() {
        HelpDesk desk = new HelpDesk();
        desk.addAgent(1, 127, 0, 1440);
        desk.open(0, 0, 5, 0);
        desk.pass(1);
        Check.same("9 not its WORKED one", desk.next(0), -1);
        desk.open(0, 3, 5, 0);
        Check.same("9 though it has a ticket", desk.next(0), 1);
        desk.pause(1);
        Check.same("9 not a PAUSED one", desk.next(0), -1);
        desk.merge(1, 0);
        Check.same("9 not a MERGED one", desk.next(0), -1);
        desk.pass(4);
        Check.same("9 solved", desk.ticket(0, 0), 3);
        Check.same("9 not a SOLVED one", desk.next(0), -1);
    }

    private static void nextThrows() {
        HelpDesk desk = new HelpDesk();
        Check.outOfBounds(desk, "9 no agents", () -> desk.next(0));
        desk.addAgent(1, 127, 0, 1440);
        for (int agent : new int[] {-1, 1, MIN, MAX}) {
            Check.outOfBounds(desk, "9 agent " + agent, () -> desk.next(agent));
        }
    }
}
