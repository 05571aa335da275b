/** Desks in the states that several tests begin with. */
final class Desks {
    static final int LAST_MINUTE = 99999;

    /** What the tickets of a busy desk are. */
    static final int SOLVED_TOO_LONG_AGO = 0;
    static final int SOLVED_JUST_IN_TIME = 1;
    static final int WORKED = 2;
    static final int PAUSED = 3;
    static final int MERGED = 4;
    static final int WAITING = 5;
    static final int HANDED_BACK = 6;

    private Desks() {
    }

    static void passTo(HelpDesk desk, int minute) {
        while (desk.now() < minute) {
            desk.pass(Math.min(600, minute - desk.now()));
        }
    }

    /** Three agents, of which only the first one is there, and seven tickets, as they are named above. */
    static HelpDesk busy() {
        HelpDesk desk = new HelpDesk();
        desk.setHours(0, 1380);
        desk.setTargets(1, 30, 300);
        desk.addAgent(3, 127, 0, 1440);
        desk.addAgent(1, 31, 540, 1020);
        desk.addAgent(4, 126, 0, 1440);
        passTo(desk, 2880);
        desk.open(0, 1, 1, 0);
        desk.open(0, 1, 1, 1);
        desk.pass(2);
        passTo(desk, 10060);
        desk.open(0, 3, 600, 2);
        desk.open(2, 0, 90, 3);
        desk.open(7, 2, 5, 4);
        desk.open(7, 2, 5, 5);
        desk.open(2, 3, 40, 6);
        desk.pass(10);
        desk.pause(PAUSED);
        desk.merge(MERGED, WAITING);
        // Behind minute 2881, in which ticket 1 was solved, 7199 minutes have passed then.
        passTo(desk, 2882 + 7199);
        // By slack alone agents 0 and 2 would take ticket 5 ahead of those whose latest agent they are.
        desk.setSkills(0, 3 + 128);
        desk.setSkills(2, 4 + 128);
        return desk;
    }

    /** As many agents and tickets as there may be; no minute has passed. */
    static HelpDesk full() {
        HelpDesk desk = new HelpDesk();
        for (int i = 0; i < 6; i++) {
            desk.addAgent(1 << i, 127, 0, 1440);
        }
        for (int i = 0; i < 20; i++) {
            desk.open(i % 8, i % 4, 30 * (i + 1), i % 10);
        }
        return desk;
    }

    /** At most 600 minutes ahead of the last one: a ticket, SOLVED at the end, and a PAUSED one. */
    static HelpDesk nearTheEnd(int minutes) {
        HelpDesk desk = new HelpDesk();
        passTo(desk, LAST_MINUTE - 600);
        desk.addAgent(1, 127, 0, 1440);
        desk.open(0, 0, 600, 0);
        desk.open(0, 0, 600, 0);
        desk.pause(1);
        passTo(desk, LAST_MINUTE - minutes);
        return desk;
    }
}
