/** Rooms at the edges: the first and the last of them, all free and none, the least and the greatest lengths. */
final class RoomBoundaries {
    private static final String GUEST = "- `guest`: 0 to 11";
    private static final String ROOM = "- `room`: 0 to 15";
    private static final String SEEKS = "- seeks: if some room can be offered, it is offered to the guest (anew, if it"
        + " is offered already) until the time and the hold, together, and an offer is sent; otherwise nothing"
        + " happens.";
    private static final String CHOICE = "Otherwise it is, of rooms that are free, and not reserved for others: the"
        + " room that is reserved for the guest; if there is none such, the one that was leased to the guest last; if"
        + " that cannot be, the lowest one.";
    private static final String LENGTHS = "The lease has 8 to 200 ticks, at first 60; the hold 1 to 50, at first 10;"
        + " the shutting time 1 to 200, at first 50.";
    private static final int[] GUESTS = {0, 11};
    private static final int[] ROOMS = {0, 15};

    private RoomBoundaries() {
    }

    static void all() {
        numbers();
        allAreFreeAtFirst();
        oneReservationAtTheMost();
        ghosts();
        lengthsAtFirst();
        leastAndGreatestLengths();
        reserve();
        unreserve();
        turnGhost();
        changeLease();
        changeHold();
        changeShut();
        offeredUntilTheHoldIsOver();
        offeredAnew();
        noRoomToOffer();
        onlyRoomsForOthersAreFree();
        offeredAlready();
        theReservedOne();
        theOneLeasedLast();
        theOneLeasedLastCannotBe();
        theLowestOne();
        looksAtRooms();
        ticksOf();
        roomFor();
        countsOfNoneAndAll();
        nextFree();
        lengthsAsTheyAre();
    }

    // ---- terms

    private static void numbers() {
        Doc.says(Doc.TERMS, "There are 12 guests and 16 rooms, numbered from 0.");
        KeyLeases x = Inns.booked();
        for (int room = 0; room < 16; room++) {
            Check.due("stateOf(" + room + ")", x.stateOf(room), Inns.LEASED);
        }
    }

    private static void allAreFreeAtFirst() {
        Doc.says(Doc.TERMS, "For the inn a room is free, as at first, offered to a guest, leased to a guest, or shut,"
            + " each of the latter three until some time.");
        KeyLeases x = new KeyLeases();
        for (int room = 0; room < 16; room++) {
            Check.due("stateOf(" + room + ")", x.stateOf(room), Inns.FREE);
        }
        Check.due("freeRooms", x.freeRooms(), 16);
    }

    private static void oneReservationAtTheMost() {
        Doc.says(Doc.TERMS,
            "A guest has one room reserved at the most, a room is reserved for one guest at the most.");
        KeyLeases x = new KeyLeases();
        for (int guest = 0; guest < 12; guest++) {
            x.reserve(guest, guest);
        }
        for (int guest = 0; guest < 12; guest++) {
            x.reserve(guest, guest < 4 ? guest + 12 : guest - 4);
        }
        for (int room = 0; room < 16; room++) {
            boolean reserved = room < 8 || room >= 12;
            if (reserved) {
                Check.due("reservedFor(" + room + ")", x.reservedFor(room), room < 8 ? room + 4 : room - 12);
            } else {
                int free = room;
                Check.dueThrows("reservedFor(" + room + ")", Check.NOT_NOW, x, () -> x.reservedFor(free));
            }
        }
    }

    private static void ghosts() {
        Doc.says(Doc.TERMS, "In a room there can be a ghost; at first there is one in the room 9.");
        KeyLeases x = new KeyLeases();
        for (int room = 0; room < 16; room++) {
            Check.due("at first: hasGhost(" + room + ")", x.hasGhost(room), room == 9);
            if (room != 9) {
                x.turnGhost(room);
            }
        }
        for (int room = 0; room < 16; room++) {
            Check.due("in all rooms: hasGhost(" + room + ")", x.hasGhost(room), true);
            x.turnGhost(room);
        }
        for (int room = 0; room < 16; room++) {
            Check.due("in none: hasGhost(" + room + ")", x.hasGhost(room), false);
        }
    }

    private static void lengthsAtFirst() {
        Doc.says(Doc.TERMS, LENGTHS);
        KeyLeases x = new KeyLeases();
        Check.due("leaseTicks", x.leaseTicks(), 60);
        Check.due("holdTicks", x.holdTicks(), 10);
        Check.due("shutTicks", x.shutTicks(), 50);
        x.seek(0);
        x.deliver(0);
        Check.due("the hold", x.ticksOf(0), 10);
        x.deliver(0);
        x.deliver(0);
        Check.due("the lease", x.ticksOf(0), 60);
        x.turnGhost(0);
        x.deliver(0);
        Check.due("the guest rests, as there is a ghost", x.doingOf(0), 0);
        x.deliver(0);
        Check.due("the shutting time", x.ticksOf(0), 50);
    }

    private static void leastAndGreatestLengths() {
        Doc.says(Doc.TERMS, LENGTHS);
        for (int hold : new int[] {1, 50}) {
            KeyLeases x = new KeyLeases();
            x.changeHold(hold);
            x.seek(0);
            x.deliver(0);
            dueUntil("a hold of " + hold, x, Inns.OFFERED, hold);
        }
        for (int lease : new int[] {8, 200}) {
            dueUntil("a lease of " + lease, Inns.withLease(lease), Inns.LEASED, lease);
        }
        for (int shutting : new int[] {1, 200}) {
            KeyLeases x = Inns.withRefusal();
            x.changeShut(shutting);
            x.deliver(0);
            dueUntil("a shutting time of " + shutting, x, Inns.SHUT, shutting);
        }
    }

    /** The room 0 is in this state for so many ticks, and free then. */
    private static void dueUntil(String what, KeyLeases x, int state, int ticks) {
        Check.due(what + ": stateOf", x.stateOf(0), state);
        Check.due(what + ": ticksOf", x.ticksOf(0), ticks);
        for (int i = 1; i < ticks; i++) {
            x.tick(1);
        }
        Check.due(what + ": stateOf in the last tick", x.stateOf(0), state);
        Check.due(what + ": ticksOf in the last tick", x.ticksOf(0), 1);
        x.tick(1);
        Check.due(what + ": stateOf then", x.stateOf(0), Inns.FREE);
        Check.dueThrows(what + ": ticksOf then", Check.NOT_NOW, x, () -> x.ticksOf(0));
    }

    // ---- promises 6 to 11

    private static void reserve() {
        Doc.says(6, GUEST);
        Doc.says(6, ROOM);
        for (int guest : GUESTS) {
            for (int room : ROOMS) {
                KeyLeases x = new KeyLeases();
                x.reserve(guest, room);
                Check.due("reserve(" + guest + ", " + room + "): reservedFor", x.reservedFor(room), guest);
                Check.due("roomFor", x.roomFor(guest), room);
                x.reserve(guest, 15 - room);
                Check.due("in its place: reservedFor", x.reservedFor(15 - room), guest);
                Check.dueThrows("in its place: the first one", Check.NOT_NOW, x, () -> x.reservedFor(room));
                x.reserve(11 - guest, room);
                Check.due("for the other: reservedFor", x.reservedFor(room), 11 - guest);
            }
        }
    }

    private static void unreserve() {
        Doc.says(7, GUEST);
        for (int guest : GUESTS) {
            for (int room : ROOMS) {
                KeyLeases x = new KeyLeases();
                x.reserve(guest, room);
                x.reserve(11 - guest, 15 - room);
                Check.due("unreserve(" + guest + "): the room", x.unreserve(guest), room);
                Check.dueThrows("reservedFor", Check.NOT_NOW, x, () -> x.reservedFor(room));
                Check.due("the other stays", x.reservedFor(15 - room), 11 - guest);
            }
        }
    }

    private static void turnGhost() {
        Doc.says(8, ROOM);
        for (int room = 0; room < 16; room++) {
            KeyLeases x = new KeyLeases();
            Check.due("turnGhost(" + room + ")", x.turnGhost(room), room != 9);
            for (int other = 0; other < 16; other++) {
                Check.due("hasGhost(" + other + ")", x.hasGhost(other), (other == 9) != (other == room));
            }
            Check.due("turnGhost(" + room + ") again", x.turnGhost(room), room == 9);
        }
    }

    private static void changeLease() {
        Doc.says(9, "- `ticks`: 8 to 200");
        KeyLeases x = Inns.withGuest();
        Check.due("changeLease(8)", x.changeLease(8), 60);
        Check.due("leaseTicks", x.leaseTicks(), 8);
        Check.due("changeLease(200)", x.changeLease(200), 8);
        Check.due("leaseTicks", x.leaseTicks(), 200);
        Check.due("changeLease(8) again", x.changeLease(8), 200);
        Check.due("a lease that goes on", x.ticksOf(0), 60);
        Check.due("a lease that goes on, for the guest", x.ticksLeft(0), 60);
        Check.due("holdTicks", x.holdTicks(), 10);
        Check.due("shutTicks", x.shutTicks(), 50);
    }

    private static void changeHold() {
        Doc.says(10, "- `ticks`: 1 to 50");
        KeyLeases x = new KeyLeases();
        x.seek(0);
        x.deliver(0);
        Check.due("changeHold(1)", x.changeHold(1), 10);
        Check.due("holdTicks", x.holdTicks(), 1);
        Check.due("changeHold(50)", x.changeHold(50), 1);
        Check.due("holdTicks", x.holdTicks(), 50);
        Check.due("changeHold(1) again", x.changeHold(1), 50);
        Check.due("an offer that is held", x.ticksOf(0), 10);
        Check.due("leaseTicks", x.leaseTicks(), 60);
        Check.due("shutTicks", x.shutTicks(), 50);
    }

    private static void changeShut() {
        Doc.says(11, "- `ticks`: 1 to 200");
        KeyLeases x = Inns.withRefusal();
        x.deliver(0);
        Check.due("changeShut(1)", x.changeShut(1), 50);
        Check.due("shutTicks", x.shutTicks(), 1);
        Check.due("changeShut(200)", x.changeShut(200), 1);
        Check.due("shutTicks", x.shutTicks(), 200);
        Check.due("changeShut(1) again", x.changeShut(1), 200);
        Check.due("a room that is shut", x.ticksOf(0), 50);
        Check.due("leaseTicks", x.leaseTicks(), 60);
        Check.due("holdTicks", x.holdTicks(), 10);
    }

    // ---- what the inn offers

    private static void offeredUntilTheHoldIsOver() {
        Doc.says(Doc.TERMS, SEEKS);
        for (int ticks : new int[] {9, 10}) {
            KeyLeases x = new KeyLeases();
            x.tick(100);
            x.seek(0);
            x.deliver(0);
            x.tick(ticks);
            Check.due("stateOf behind " + ticks + " ticks", x.stateOf(0), ticks < 10 ? Inns.OFFERED : Inns.FREE);
            Check.due("roomFor another", x.roomFor(1), ticks < 10 ? 1 : 0);
        }
    }

    private static void offeredAnew() {
        Doc.says(Doc.TERMS, SEEKS);
        KeyLeases x = new KeyLeases();
        x.seek(0);
        x.deliver(0);
        x.tick(9);
        x.giveUp(0);
        x.seek(0);
        Check.due("in the last tick of the offer", x.ticksOf(0), 1);
        x.deliver(1);
        Check.due("it is offered anew", x.ticksOf(0), 10);
        Check.due("an offer is sent", x.sent(Inns.OFFERS), 2);
        x.tick(9);
        Check.due("in the last tick of the second one", x.stateOf(0), Inns.OFFERED);
        x.tick(1);
        Check.due("free then", x.stateOf(0), Inns.FREE);
        x.seek(1);
        x.deliver(2);
        Check.due("offered to another then", x.guestOf(0), 1);
    }

    private static void noRoomToOffer() {
        Doc.says(Doc.TERMS, SEEKS);
        KeyLeases x = Inns.booked();
        x.leave(11);
        x.lose(0);
        x.seek(11);
        int offers = x.sent(Inns.OFFERS);
        Check.due("deliver", x.deliver(0), Inns.SEEKS);
        Check.due("nothing is sent", x.sent(Inns.OFFERS), offers);
        Check.due("no message waits", x.messages(), 0);
        Check.due("the guest seeks on", x.doingOf(11), 1);
        Check.due("no room is free", x.freeRooms(), 0);
        x.leave(3);
        x.deliver(0);
        Check.due("one room is free", x.freeRooms(), 1);
        Check.due("it is the last one", x.roomFor(11), 15);
        x.giveUp(11);
        x.seek(11);
        x.deliver(0);
        Check.due("it is offered", x.guestOf(15), 11);
        Check.due("an offer waits", x.roomAt(0), 15);
    }

    // The rooms 0 to 10 are reserved for the guests 1 to 11, the others are leased to the guest 0.
    private static KeyLeases withFreeRoomsForOthers() {
        KeyLeases x = new KeyLeases();
        for (int guest = 1; guest < 12; guest++) {
            x.reserve(guest, guest - 1);
        }
        for (int room = 11; room < 16; room++) {
            Check.due("the next room of the guest 0", Inns.house(x, 0), room);
            x.leave(0);
            x.lose(0);
        }
        return x;
    }

    private static void onlyRoomsForOthersAreFree() {
        Doc.says(Doc.TERMS, SEEKS);
        KeyLeases x = withFreeRoomsForOthers();
        Check.due("freeRooms", x.freeRooms(), 11);
        Check.dueThrows("roomFor(0)", Check.NOT_NOW, x, () -> x.roomFor(0));
        Check.due("roomFor(1)", x.roomFor(1), 0);
        Check.due("roomFor(11)", x.roomFor(11), 10);
        int offers = x.sent(Inns.OFFERS);
        x.seek(0);
        x.deliver(0);
        Check.due("nothing is offered", x.sent(Inns.OFFERS), offers);
        x.unreserve(11);
        Check.due("roomFor(0): one that is reserved no more", x.roomFor(0), 10);
        Check.due("roomFor(11): the same", x.roomFor(11), 10);
    }

    private static void offeredAlready() {
        Doc.says(Doc.TERMS, "If a room is offered to this guest already, it is that room.");
        KeyLeases x = Inns.withGuest();
        x.reserve(11, 15);
        x.seek(11);
        x.deliver(0);
        x.unreserve(11);
        Check.due("not the lowest", x.roomFor(11), 15);
        x.reserve(11, 3);
        Check.due("not the one reserved for it", x.roomFor(11), 15);
        x.reserve(0, 15);
        Check.due("though it is reserved for another by now", x.roomFor(11), 15);
        x.tick(9);
        Check.due("in its last tick", x.roomFor(11), 15);
        x.tick(1);
        Check.due("no more", x.roomFor(11), 3);
        Check.due("a room that is offered to another is none", x.roomFor(5), 1);
    }

    private static void theReservedOne() {
        Doc.says(Doc.TERMS, CHOICE);
        for (int guest : GUESTS) {
            for (int room : ROOMS) {
                KeyLeases x = new KeyLeases();
                Inns.houseIn(x, guest, 7);
                x.leave(guest);
                x.deliverAll();
                x.reserve(guest, room);
                Check.due("reserved, not leased last", x.roomFor(guest), room);
                Check.due("for the other guest: not the reserved one", x.roomFor(11 - guest), room == 0 ? 1 : 0);
                Inns.house(x, guest);
                Check.due("reserved, but leased", x.roomFor(guest), room == 0 ? 1 : 0);
            }
        }
    }

    private static void theOneLeasedLast() {
        Doc.says(Doc.TERMS, CHOICE);
        for (int guest : GUESTS) {
            for (int room : ROOMS) {
                KeyLeases x = new KeyLeases();
                Inns.houseIn(x, guest, 15 - room);
                x.leave(guest);
                x.deliverAll();
                Inns.houseIn(x, guest, room);
                Check.due("leased yet: the lowest free one", x.roomFor(guest), room == 0 ? 1 : 0);
                x.tick(60);
                Check.due("leased last, and free", x.roomFor(guest), room);
                Check.due("the other guest had none", x.roomFor(11 - guest), 0);
            }
        }
    }

    private static void theOneLeasedLastCannotBe() {
        Doc.says(Doc.TERMS, CHOICE);
        KeyLeases x = new KeyLeases();
        Inns.houseIn(x, 0, 8);
        x.leave(0);
        x.deliverAll();
        Check.due("it can be", x.roomFor(0), 8);
        x.reserve(1, 8);
        Check.due("reserved for another", x.roomFor(0), 0);
        x.seek(1);
        x.deliver(0);
        x.unreserve(1);
        Check.due("offered to another", x.roomFor(0), 0);
        x.deliver(0);
        x.deliver(0);
        Check.due("leased to another", x.stateOf(8) == Inns.LEASED && x.roomFor(0) == 0, true);
        x.turnGhost(8);
        x.deliver(0);
        x.deliver(0);
        Check.due("shut", x.stateOf(8) == Inns.SHUT && x.roomFor(0) == 0, true);
        x.tick(50);
        Check.due("it can be again", x.roomFor(0), 8);
    }

    private static void theLowestOne() {
        Doc.says(Doc.TERMS, CHOICE);
        KeyLeases x = new KeyLeases();
        x.turnGhost(9);
        for (int room = 0; room < 16; room++) {
            Check.due("roomFor(" + room % 12 + ")", x.roomFor(room % 12), room);
            if (room >= 12) {
                x.leave(room % 12);
                x.lose(0);
            }
            Check.due("it gets the room", Inns.house(x, room % 12), room);
        }
    }

    // ---- promises 31 to 44

    private static void looksAtRooms() {
        Doc.says(31, ROOM);
        Doc.says(31, "Returns 0 free, 1 offered, 2 leased, 3 shut.");
        Doc.says(32, ROOM);
        Doc.says(34, ROOM);
        Doc.says(35, ROOM);
        for (int guest : GUESTS) {
            for (int room : ROOMS) {
                KeyLeases x = new KeyLeases();
                Check.due("free: stateOf", x.stateOf(room), 0);
                x.reserve(guest, room);
                Check.due("reservedFor", x.reservedFor(room), guest);
                x.seek(guest);
                x.deliver(0);
                Check.due("offered: stateOf", x.stateOf(room), 1);
                Check.due("offered: guestOf", x.guestOf(room), guest);
                x.deliver(0);
                x.deliver(0);
                Check.due("leased: stateOf", x.stateOf(room), 2);
                Check.due("leased: guestOf", x.guestOf(room), guest);
                Check.due("hasGhost", x.hasGhost(room), false);
                x.turnGhost(room);
                Check.due("hasGhost", x.hasGhost(room), true);
                Check.due("the last one's neighbour", x.hasGhost(room == 0 ? 1 : 14), false);
                x.deliverAll();
                Check.due("shut: stateOf", x.stateOf(room), 3);
                Check.due("the other end: stateOf", x.stateOf(15 - room), 0);
            }
        }
    }

    private static void ticksOf() {
        Doc.says(33, ROOM);
        Doc.says(33, "Returns the ticks, 1 or more.");
        for (int room : ROOMS) {
            KeyLeases x = new KeyLeases();
            x.changeLease(200);
            Inns.houseIn(x, 0, room);
            Check.due("the greatest", x.ticksOf(room), 200);
            x.tick(100);
            x.tick(99);
            Check.due("the least", x.ticksOf(room), 1);
            x.tick(1);
            Check.dueThrows("free", Check.NOT_NOW, x, () -> x.ticksOf(room));
        }
    }

    private static void roomFor() {
        Doc.says(36, GUEST);
        for (int guest : GUESTS) {
            KeyLeases x = new KeyLeases();
            Check.due("the first room", x.roomFor(guest), 0);
            x.reserve(guest, 15);
            Check.due("the last room", x.roomFor(guest), 15);
            Check.due("of the other", x.roomFor(11 - guest), 0);
        }
    }

    private static void countsOfNoneAndAll() {
        KeyLeases none = new KeyLeases();
        KeyLeases all = Inns.booked();
        Doc.says(37, "Tells how many rooms are leased, room by room.");
        Check.due("none", none.leasedByRooms(), 0);
        Check.due("all", all.leasedByRooms(), 16);
        Doc.says(38, "Returns the rooms, as many as by leasedByRooms().");
        Check.due("none", none.leasedByGuests(), 0);
        Check.due("all", all.leasedByGuests(), 16);
        Doc.says(39, "Returns how many rooms are free.");
        Check.due("all", none.freeRooms(), 16);
        Check.due("none", all.freeRooms(), 0);
        all.tick(60);
        Check.due("all again", all.freeRooms(), 16);
        Check.due("none is leased, room by room", all.leasedByRooms(), 0);
        Check.due("none is leased, by guests", all.leasedByGuests(), 0);
    }

    private static void nextFree() {
        KeyLeases x = Inns.withLease(200);
        dueNextFree("the greatest", x, 200);
        x.seek(1);
        x.deliver(0);
        dueNextFree("an offer, sooner", x, 10);
        x.tick(9);
        dueNextFree("the least", x, 1);
        x.tick(1);
        dueNextFree("the lease again", x, 190);
        x.changeHold(1);
        x.seek(2);
        x.deliver(1);
        dueNextFree("a hold of 1", x, 1);
        KeyLeases shut = Inns.withRefusal();
        shut.changeShut(200);
        shut.deliver(0);
        dueNextFree("the longest shutting time", shut, 200);
        dueNextFree("no room is free", Inns.booked(), 60);
    }

    private static void dueNextFree(String what, KeyLeases x, int ticks) {
        Doc.says(40, "Tells in how many ticks the next room becomes free, by looking at all rooms.");
        Check.dueStill(what, x, () -> x.nextFreeByRooms(), ticks);
        Doc.says(41, "Tells the same by letting ticks go by on a copy, without messages.");
        Check.dueStill(what, x, () -> x.nextFreeByTicks(), ticks);
    }

    private static void lengthsAsTheyAre() {
        KeyLeases x = new KeyLeases();
        int[][] lengths = {{8, 1, 1}, {200, 50, 200}, {9, 2, 2}, {199, 49, 199}};
        for (int[] each : lengths) {
            x.changeLease(each[0]);
            x.changeHold(each[1]);
            x.changeShut(each[2]);
            Doc.says(42, "Returns how many ticks a lease has.");
            Check.due("leaseTicks", x.leaseTicks(), each[0]);
            Doc.says(43, "Returns how many ticks an offer is held.");
            Check.due("holdTicks", x.holdTicks(), each[1]);
            Doc.says(44, "Returns how many ticks a room is shut.");
            Check.due("shutTicks", x.shutTicks(), each[2]);
        }
    }
}
