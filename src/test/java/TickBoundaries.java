/** Ticks at the edges: one and a hundred of them, the last tick of an offer, a lease, a stay, and the one behind. */
final class TickBoundaries {
    private static final String TICKS = "With each tick the time becomes 1 more; then the rooms whose offer, lease or"
        + " shutting is until this time are free; then, by their numbers, each guest who has a room whose ticks are"
        + " over loses it, and rests, and each other one who has one asks for more time, if it is time for that.";
    private static final String ASKS = "A guest who has a room asks for more time by itself, by a message that wants"
        + " the room, in the tick in which as many ticks are over since these began as half of them (rounded down),"
        + " and in the one in which as many are over as seven eighths of them (rounded down).";

    private TickBoundaries() {
    }

    static void all() {
        oneAndAHundred();
        aHundredAsOneByOne();
        roomsAreFreeAtTheirTime();
        guestsByTheirNumbers();
        oneLosesAsAnotherAsks();
        guestsWhoLoseTheirRooms();
        inTheFirstAndTheLastTick();
        asksInEachLease();
        divisionsAreRoundedDown();
        asksByTheTicksThatBeganAnew();
        yesComesAsItIsTimeToAsk();
        evicted();
        time();
    }

    private static void oneAndAHundred() {
        Doc.says(15, "- `ticks`: 1 to 100");
        Doc.says(Doc.TERMS, TICKS);
        KeyLeases x = new KeyLeases();
        Check.due("tick(1)", x.tick(1), 0);
        Check.due("time", x.time(), 1);
        Check.due("tick(100)", x.tick(100), 0);
        Check.due("time", x.time(), 101);
        Check.due("tick(2)", x.tick(2), 0);
        Check.due("tick(99)", x.tick(99), 0);
        Check.due("time", x.time(), 202);
    }

    // In busy() six states are saved, so the calls of the two inns leave as many.
    private static void aHundredAsOneByOne() {
        Doc.says(Doc.TERMS, TICKS);
        for (Inns.Maker maker : new Inns.Maker[] {Inns::busy, Inns::crowded, Inns::booked}) {
            KeyLeases x = maker.make();
            KeyLeases twin = maker.make();
            int losing = 0;
            for (int i = 0; i < 100; i++) {
                losing += twin.tick(1);
            }
            Check.due("tick(100)", x.tick(100), losing);
            Check.due("digest", x.digest(), twin.digest());
        }
    }

    private static void roomsAreFreeAtTheirTime() {
        Doc.says(Doc.TERMS, TICKS);
        KeyLeases x = new KeyLeases();
        x.changeLease(8);
        x.changeHold(7);
        x.changeShut(6);
        Inns.house(x, 0);
        x.seek(1);
        x.deliver(0);
        x.reserve(2, 9);
        x.seek(2);
        for (int i = 0; i < 5; i++) {
            x.deliver(1);
        }
        for (int ticks = 0; ticks <= 9; ticks++) {
            Check.due("leased for 8: behind " + ticks, x.stateOf(0), ticks < 8 ? Inns.LEASED : Inns.FREE);
            Check.due("offered for 7: behind " + ticks, x.stateOf(1), ticks < 7 ? Inns.OFFERED : Inns.FREE);
            Check.due("shut for 6: behind " + ticks, x.stateOf(9), ticks < 6 ? Inns.SHUT : Inns.FREE);
            Check.due("freeRooms: behind " + ticks, x.freeRooms(),
                13 + (ticks < 8 ? 0 : 1) + (ticks < 7 ? 0 : 1) + (ticks < 6 ? 0 : 1));
            x.tick(1);
        }
    }

    private static void guestsByTheirNumbers() {
        Doc.says(Doc.TERMS, TICKS);
        KeyLeases x = new KeyLeases();
        x.turnGhost(9);
        for (int guest = 11; guest >= 0; guest--) {
            Check.due("the rooms are in another order", Inns.house(x, guest), 11 - guest);
        }
        x.tick(29);
        Check.due("nobody asks", x.messages(), 0);
        x.tick(1);
        Check.due("all ask", x.messages(), 12);
        for (int guest = 0; guest < 12; guest++) {
            Check.due("kindAt", x.kindAt(guest), Inns.WANTS);
            Check.due("guestAt", x.guestAt(guest), guest);
            Check.due("roomAt", x.roomAt(guest), 11 - guest);
        }
    }

    private static void oneLosesAsAnotherAsks() {
        Doc.says(Doc.TERMS, TICKS);
        KeyLeases x = Inns.withLease(8);
        x.changeLease(16);
        Inns.house(x, 1);
        x.tick(7);
        Inns.loseAll(x);
        Check.due("one loses its room", x.tick(1), 1);
        Check.due("the guest 0 rests", x.doingOf(0), 0);
        Check.due("and does not ask", x.messages(), 1);
        Check.due("the guest 1 asks", x.guestAt(0), 1);
        Check.due("and has its room yet", x.ticksLeft(1), 8);
    }

    private static void guestsWhoLoseTheirRooms() {
        Doc.says(15, "Returns how many guests lose their rooms in them.");
        KeyLeases x = Inns.booked();
        Check.due("none: in the last tick", x.tick(59), 0);
        Check.due("all", x.tick(1), 12);
        Check.due("none: all rest", x.tick(100), 0);
        KeyLeases oneByOne = new KeyLeases();
        oneByOne.turnGhost(9);
        for (int guest = 0; guest < 12; guest++) {
            Inns.house(oneByOne, guest);
            oneByOne.tick(1);
        }
        oneByOne.tick(47);
        Check.due("the first one", oneByOne.tick(1), 1);
        Check.due("the others, tick by tick", oneByOne.tick(100), 11);
    }

    private static void inTheFirstAndTheLastTick() {
        Doc.says(15, "Returns how many guests lose their rooms in them.");
        for (int lease : new int[] {101, 100, 99}) {
            KeyLeases x = Inns.withLease(lease);
            Check.due("in 100 ticks, a lease of " + lease, x.tick(100), lease <= 100 ? 1 : 0);
            Check.due("in the next one", x.tick(1), lease <= 100 ? 0 : 1);
        }
    }

    // ---- more time

    private static void asksInEachLease() {
        Doc.says(Doc.TERMS, ASKS);
        for (int lease = 8; lease <= 200; lease++) {
            KeyLeases x = new KeyLeases();
            x.changeLease(lease);
            x.tick(1 + lease % 100);
            Inns.house(x, 0);
            int early = lease / 2;
            int late = lease - 1 - (lease - 1) / 8;
            dueAsks(x, lease, early - 1, 0);
            dueAsks(x, lease, 1, 1);
            dueAsks(x, lease, late - early - 1, 1);
            dueAsks(x, lease, 1, 2);
            dueAsks(x, lease, lease - late - 1, 2);
            Check.due("a lease of " + lease + " is over", x.tick(1), 1);
            Check.due("nobody asks then", x.sent(Inns.WANTS), 3);
        }
    }

    private static void dueAsks(KeyLeases x, int lease, int ticks, int asked) {
        for (int i = 0; i < ticks; i++) {
            x.tick(1);
        }
        Check.due("a lease of " + lease + ", at " + x.time() + ": asked", x.sent(Inns.WANTS) - 1, asked);
        Check.due("a lease of " + lease + ", at " + x.time() + ": wait", x.messages(), asked);
        Check.due("a lease of " + lease + ", at " + x.time() + ": has", x.doingOf(0), 3);
    }

    private static void divisionsAreRoundedDown() {
        Doc.says(Doc.TERMS, "All numbers are integers, but for a share; divisions are rounded down.");
        int[][] due = {{8, 4, 7}, {9, 4, 7}, {10, 5, 8}, {11, 5, 9}, {15, 7, 13}, {16, 8, 14}, {17, 8, 14},
            {60, 30, 52}, {199, 99, 174}, {200, 100, 175}};
        for (int[] each : due) {
            KeyLeases x = Inns.withLease(each[0]);
            Check.due("half of " + each[0], x.ticksToRenewal(0), each[1]);
            x.tick(each[1]);
            Check.due("seven eighths of " + each[0], x.ticksToRenewal(0), each[2] - each[1]);
        }
    }

    // A yes that counts starts the ticks anew; one that does not leaves them as they are.
    private static void asksByTheTicksThatBeganAnew() {
        Doc.says(Doc.TERMS, ASKS);
        KeyLeases x = Inns.withGuest();
        x.tick(29);
        x.renew(0);
        Check.due("asked, but not answered", x.ticksToRenewal(0), 1);
        x.tick(1);
        Check.due("it asks once more", x.messages(), 2);
        x.lose(1);
        x.deliver(0);
        x.deliver(0);
        Check.due("the answer to the older one does not count", x.ticksToRenewal(0), 22);
        x.tick(22);
        Check.due("it asks at seven eighths", x.messages(), 1);
        x.tick(7);
        x.deliverAll();
        Check.due("the ticks began as it asked", x.ticksLeft(0), 53);
        Check.due("half of them", x.ticksToRenewal(0), 23);
    }

    private static void yesComesAsItIsTimeToAsk() {
        Doc.says(Doc.TERMS, ASKS);
        int[][] due = {{28, 2}, {29, 1}, {30, 22}, {51, 1}, {52, 0}, {59, 0}};
        for (int[] each : due) {
            KeyLeases x = Inns.withWant();
            x.deliver(0);
            x.tick(each[0]);
            x.deliver(0);
            Check.due("a yes behind " + each[0] + ": it asks not at once", x.messages(), 0);
            if (each[1] > 0) {
                Check.due("a yes behind " + each[0], x.ticksToRenewal(0), each[1]);
                x.tick(each[1]);
                Check.due("a yes behind " + each[0] + ": it asks", x.messages(), 1);
            } else {
                Check.dueThrows("a yes behind " + each[0], Check.NOT_NOW, x, () -> x.ticksToRenewal(0));
                x.tick(60 - each[0]);
                Check.due("a yes behind " + each[0] + ": it asks no more", x.messages(), 0);
            }
        }
    }

    // ---- promises 49 and 54

    private static void evicted() {
        Doc.says(54, "Returns how many guests lost their rooms so far, as their time was over in a tick.");
        KeyLeases x = Inns.booked();
        Check.due("none", x.evicted(), 0);
        x.leave(11);
        x.tick(59);
        Check.due("none in the last tick", x.evicted(), 0);
        x.tick(1);
        Check.due("all but the one who left", x.evicted(), 11);
        KeyLeases late = Inns.withWant();
        late.deliver(0);
        late.tick(60);
        late.deliver(0);
        Check.due("not one whose yes is over as it comes", late.evicted(), 0);
    }

    private static void time() {
        Doc.says(49, "Returns the time.");
        KeyLeases x = new KeyLeases();
        Check.due("at first", x.time(), 0);
        for (int i = 0; i < 510; i++) {
            x.tick(100);
        }
        Check.due("behind 510 times 100 ticks", x.time(), 51_000);
    }
}
