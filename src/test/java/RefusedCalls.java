/** Each refused call of the document: it throws the exception that is named first, and changes nothing. */
final class RefusedCalls {
    private static final String NO_GUEST = "Throws `IndexOutOfBoundsException` if there is no such guest";
    private static final String NO_ROOM = "Throws `IndexOutOfBoundsException` if there is no such room";
    private static final String NO_PLACE =
        "Throws `IndexOutOfBoundsException` if there are not so many messages, or place is below 0";
    private static final String BAD_TICKS = "Throws `IllegalArgumentException` if ticks is out of range";
    private static final String BAD_SLOT = "Throws `IllegalArgumentException` if slot is out of range";
    private static final String HAS_NO_ROOM = "Throws `IllegalStateException` if the guest has no room";
    private static final String ALL_FREE = "Throws `IllegalStateException` if no room is offered, leased or shut";

    private static final Inns.Maker[] INNS = {KeyLeases::new, Inns::busy, Inns::crowded, Inns::booked};
    private static final Inns.Maker[] WITH_ALL_DOINGS = {Inns::busy, Inns::crowded};

    private RefusedCalls() {
    }

    private interface CallOf {
        long on(KeyLeases x, int number);
    }

    static void all() {
        innsAreAsTheTestsNeedThem();
        noSuchGuest();
        noSuchRoom();
        noSuchMessage();
        outOfRange();
        guestDoesSomethingElse();
        guestHasNoRoom();
        willNotAskAnyMore();
        reservations();
        roomIsInAnotherState();
        noRoomCanBeOffered();
        noRoomEnds();
        aMessageThatSeeks();
        bufferIsFull();
        bufferTellsNoCourse();
        aPartCannotBePlayed();
        slotIsEmpty();
        noStateIsSaved();
        theExceptionThatIsNamedFirst();
        theBufferStaysToo();
    }

    private static void innsAreAsTheTestsNeedThem() {
        Check.about("the inns of the tests");
        for (Inns.Maker maker : WITH_ALL_DOINGS) {
            KeyLeases x = maker.make();
            Check.due("one has a room", x.doingOf(Inns.HAVING), 3);
            Check.due("one seeks", x.doingOf(Inns.SEEKING), 1);
            Check.due("one wants", x.doingOf(Inns.WANTING), 2);
            Check.due("one rests", x.doingOf(Inns.RESTING), 0);
            Check.due("saved states", x.savedStates(), 6);
        }
        Check.due("crowded", Inns.crowded().messages(), 60);
        Check.due("booked: no room is free", Inns.booked().freeRooms(), 0);
        Check.due("booked: all have rooms", Inns.booked().housed(), 12);
        Check.due("calm: two states are saved", Inns.calm().savedStates(), 2);
    }

    private static void refused(String what, Class<? extends RuntimeException> want, Inns.Maker maker, CallOf call,
        int number) {
        Aftermath.dueRefused(what + " of " + number, want, maker, x -> call.on(x, number));
    }

    private static void refusedInAllInns(String what, Class<? extends RuntimeException> want, int least, int greatest,
        CallOf call) {
        for (Inns.Maker maker : INNS) {
            for (int number : new int[] {least - 1, greatest + 1, Integer.MIN_VALUE, Integer.MAX_VALUE}) {
                refused(what, want, maker, call, number);
            }
        }
    }

    // ---- numbers that are too small or too large

    private static void noSuchGuest() {
        noSuchGuest(2, "seek", NO_GUEST, (x, guest) -> x.seek(guest));
        noSuchGuest(3, "leave", NO_GUEST, (x, guest) -> x.leave(guest));
        noSuchGuest(4, "giveUp", NO_GUEST, (x, guest) -> x.giveUp(guest));
        noSuchGuest(5, "renew", NO_GUEST, (x, guest) -> x.renew(guest));
        noSuchGuest(6, "reserve", NO_GUEST + " or room", (x, guest) -> Calls.reserve(x, guest, 3));
        noSuchGuest(7, "unreserve", NO_GUEST, (x, guest) -> x.unreserve(guest));
        noSuchGuest(24, "doingOf", NO_GUEST, (x, guest) -> x.doingOf(guest));
        noSuchGuest(25, "roomOf", NO_GUEST, (x, guest) -> x.roomOf(guest));
        noSuchGuest(26, "ticksLeft", NO_GUEST, (x, guest) -> x.ticksLeft(guest));
        noSuchGuest(27, "ticksToRenewal", NO_GUEST, (x, guest) -> x.ticksToRenewal(guest));
        noSuchGuest(28, "isHaunted", NO_GUEST, (x, guest) -> x.isHaunted(guest) ? 1 : 0);
        noSuchGuest(29, "staysOf", NO_GUEST, (x, guest) -> x.staysOf(guest));
        noSuchGuest(36, "roomFor", NO_GUEST, (x, guest) -> x.roomFor(guest));
    }

    private static void noSuchGuest(int promise, String what, String sentence, CallOf call) {
        Doc.says(promise, sentence);
        refusedInAllInns(what, Check.NO_SUCH, 0, 11, call);
    }

    private static void noSuchRoom() {
        noSuchRoom(6, "reserve", NO_GUEST + " or room", (x, room) -> Calls.reserve(x, 3, room));
        noSuchRoom(8, "turnGhost", NO_ROOM, (x, room) -> x.turnGhost(room) ? 1 : 0);
        noSuchRoom(31, "stateOf", NO_ROOM, (x, room) -> x.stateOf(room));
        noSuchRoom(32, "guestOf", NO_ROOM, (x, room) -> x.guestOf(room));
        noSuchRoom(33, "ticksOf", NO_ROOM, (x, room) -> x.ticksOf(room));
        noSuchRoom(34, "reservedFor", NO_ROOM, (x, room) -> x.reservedFor(room));
        noSuchRoom(35, "hasGhost", NO_ROOM, (x, room) -> x.hasGhost(room) ? 1 : 0);
    }

    private static void noSuchRoom(int promise, String what, String sentence, CallOf call) {
        Doc.says(promise, sentence);
        refusedInAllInns(what, Check.NO_SUCH, 0, 15, call);
        // Shifts and bits wrap around at these.
        refused(what, Check.NO_SUCH, Inns::busy, call, 32 + 9);
        refused(what, Check.NO_SUCH, Inns::busy, call, 64 + 9);
    }

    private static void noSuchMessage() {
        noSuchMessage(12, "deliver", (x, place) -> x.deliver(place));
        noSuchMessage(13, "lose", (x, place) -> x.lose(place));
        noSuchMessage(46, "kindAt", (x, place) -> x.kindAt(place));
        noSuchMessage(47, "guestAt", (x, place) -> x.guestAt(place));
        noSuchMessage(48, "roomAt", (x, place) -> x.roomAt(place));
    }

    private static void noSuchMessage(int promise, String what, CallOf call) {
        Doc.says(promise, NO_PLACE);
        for (Inns.Maker maker : INNS) {
            refused(what, Check.NO_SUCH, maker, call, maker.make().messages());
        }
        refusedInAllInns(what, Check.NO_SUCH, 0, 59, call);
        refused(what, Check.NO_SUCH, KeyLeases::new, call, 0);
        refused(what, Check.NO_SUCH, RefusedCalls::whereAllAreLost, call, 0);
    }

    private static KeyLeases whereAllAreLost() {
        KeyLeases x = Inns.busy();
        Inns.loseAll(x);
        return x;
    }

    private static void outOfRange() {
        outOfRange(9, "changeLease", BAD_TICKS, 8, 200, (x, ticks) -> x.changeLease(ticks));
        outOfRange(10, "changeHold", BAD_TICKS, 1, 50, (x, ticks) -> x.changeHold(ticks));
        outOfRange(11, "changeShut", BAD_TICKS, 1, 200, (x, ticks) -> x.changeShut(ticks));
        outOfRange(15, "tick", BAD_TICKS, 1, 100, (x, ticks) -> x.tick(ticks));
        outOfRange(20, "keep", BAD_SLOT, 0, 1, (x, slot) -> Calls.keep(x, slot));
        outOfRange(21, "goBack", BAD_SLOT, 0, 1, (x, slot) -> Calls.goBack(x, slot));
        outOfRange(50, "sent", "Throws `IllegalArgumentException` if kind is out of range", 0, 6,
            (x, kind) -> x.sent(kind));
        outOfRange(16, "append", "Throws `IllegalArgumentException` if code is not 33 to 126", 33, 126,
            (x, code) -> x.append(code));
        for (int code : new int[] {0, 10, 's' + 128, 's' + 256, 's' + 65536, 's' - 65536, 255}) {
            refused("append", Check.BAD, Inns::busy, (x, each) -> x.append(each), code);
        }
    }

    private static void outOfRange(int promise, String what, String sentence, int least, int greatest, CallOf call) {
        Doc.says(promise, sentence);
        refusedInAllInns(what, Check.BAD, least, greatest, call);
    }

    // ---- what cannot be done now

    private static void refusedNow(int promise, String what, String sentence, CallOf call, int... guests) {
        Doc.says(promise, sentence);
        for (Inns.Maker maker : WITH_ALL_DOINGS) {
            for (int guest : guests) {
                refused(what, Check.NOT_NOW, maker, call, guest);
            }
        }
    }

    private static void guestDoesSomethingElse() {
        refusedNow(2, "seek", "Throws `IllegalStateException` if the guest does anything but rest",
            (x, guest) -> x.seek(guest), Inns.SEEKING, Inns.WANTING, Inns.HAVING);
        refusedNow(4, "giveUp", "Throws `IllegalStateException` if the guest does neither",
            (x, guest) -> x.giveUp(guest), Inns.RESTING, Inns.HAVING);
        refusedNow(25, "roomOf", "Throws `IllegalStateException` if the guest neither wants one nor has one",
            (x, guest) -> x.roomOf(guest), Inns.RESTING, Inns.SEEKING, 11);
        KeyLeases x = Inns.busy();
        Check.due("11 had a room, and left it", x.staysOf(11) == 1 && x.doingOf(11) == 0, true);
    }

    private static void guestHasNoRoom() {
        int[] withoutRoom = {Inns.RESTING, Inns.SEEKING, Inns.WANTING, 11};
        refusedNow(3, "leave", HAS_NO_ROOM, (x, guest) -> x.leave(guest), withoutRoom);
        refusedNow(5, "renew", HAS_NO_ROOM, (x, guest) -> x.renew(guest), withoutRoom);
        refusedNow(26, "ticksLeft", HAS_NO_ROOM, (x, guest) -> x.ticksLeft(guest), withoutRoom);
        refusedNow(27, "ticksToRenewal", HAS_NO_ROOM + ", or will not ask any more",
            (x, guest) -> x.ticksToRenewal(guest), withoutRoom);
    }

    // At seven eighths of 8 ticks, and in the tick behind.
    private static void willNotAskAnyMore() {
        Doc.says(27, HAS_NO_ROOM + ", or will not ask any more");
        KeyLeases before = Inns.withLease(8);
        before.tick(6);
        Check.due("at 6 of 8", before.ticksToRenewal(0), 1);
        CallOf call = (x, guest) -> x.ticksToRenewal(guest);
        refused("ticksToRenewal at 7 of 8", Check.NOT_NOW, () -> ticked(Inns.withLease(8), 7), call, 0);
        refused("ticksToRenewal at 52 of 60", Check.NOT_NOW, () -> ticked(Inns.withGuest(), 52), call, 0);
        refused("ticksToRenewal at 59 of 60", Check.NOT_NOW, () -> ticked(Inns.withGuest(), 59), call, 0);
    }

    private static KeyLeases ticked(KeyLeases x, int ticks) {
        x.tick(ticks);
        return x;
    }

    private static void reservations() {
        Doc.says(6, "Throws `IllegalStateException` if the room is reserved");
        for (int guest : new int[] {0, 4, 6, 11}) {
            refused("reserve a room that is reserved for 6", Check.NOT_NOW, Inns::busy,
                (x, each) -> Calls.reserve(x, each, 12), guest);
        }
        Doc.says(7, "Throws `IllegalStateException` if none is reserved for the guest");
        for (Inns.Maker maker : INNS) {
            refused("unreserve", Check.NOT_NOW, maker, (x, guest) -> x.unreserve(guest), 0);
            refused("unreserve", Check.NOT_NOW, maker, (x, guest) -> x.unreserve(guest), 11);
        }
        refused("unreserve twice", Check.NOT_NOW, RefusedCalls::unreserved, (x, guest) -> x.unreserve(guest), 6);
        Doc.says(34, "Throws `IllegalStateException` if it is not");
        refused("reservedFor", Check.NOT_NOW, KeyLeases::new, (x, room) -> x.reservedFor(room), 0);
        refused("reservedFor", Check.NOT_NOW, Inns::busy, (x, room) -> x.reservedFor(room), 15);
        refused("reservedFor once", Check.NOT_NOW, RefusedCalls::unreserved, (x, room) -> x.reservedFor(room), 12);
    }

    private static KeyLeases unreserved() {
        KeyLeases x = Inns.busy();
        x.unreserve(6);
        return x;
    }

    private static void roomIsInAnotherState() {
        Doc.says(32, "Throws `IllegalStateException` if it is neither");
        CallOf guestOf = (x, room) -> x.guestOf(room);
        refused("guestOf: free", Check.NOT_NOW, KeyLeases::new, guestOf, 0);
        refused("guestOf: free", Check.NOT_NOW, Inns::busy, guestOf, 15);
        refused("guestOf: shut", Check.NOT_NOW, RefusedCalls::shut, guestOf, 0);
        refused("guestOf: free again", Check.NOT_NOW, () -> ticked(Inns.withGuest(), 60), guestOf, 0);
        Doc.says(33, "Throws `IllegalStateException` if it is free");
        CallOf ticksOf = (x, room) -> x.ticksOf(room);
        refused("ticksOf: free", Check.NOT_NOW, KeyLeases::new, ticksOf, 0);
        refused("ticksOf: free", Check.NOT_NOW, Inns::busy, ticksOf, 15);
        refused("ticksOf: leased no more", Check.NOT_NOW, () -> ticked(Inns.withGuest(), 60), ticksOf, 0);
        refused("ticksOf: offered no more", Check.NOT_NOW, () -> ticked(Inns.withWant(), 10), ticksOf, 0);
        refused("ticksOf: shut no more", Check.NOT_NOW, () -> ticked(shut(), 50), ticksOf, 0);
    }

    private static KeyLeases shut() {
        KeyLeases x = Inns.withRefusal();
        x.deliver(0);
        return x;
    }

    private static void noRoomCanBeOffered() {
        Doc.says(36, "Throws `IllegalStateException` if none can be");
        for (int guest = 0; guest < 12; guest++) {
            refused("roomFor: no room is free", Check.NOT_NOW, Inns::booked, (x, each) -> x.roomFor(each), guest);
        }
    }

    private static void noRoomEnds() {
        CallOf byRooms = (x, none) -> x.nextFreeByRooms();
        CallOf byTicks = (x, none) -> x.nextFreeByTicks();
        Inns.Maker[] allFree = {KeyLeases::new, Inns::withFullRow, () -> ticked(Inns.withGuest(), 60),
            () -> ticked(Inns.withWant(), 10), () -> ticked(shut(), 50)};
        for (Inns.Maker maker : allFree) {
            Doc.says(40, ALL_FREE);
            refused("nextFreeByRooms", Check.NOT_NOW, maker, byRooms, 0);
            Doc.says(41, ALL_FREE);
            refused("nextFreeByTicks", Check.NOT_NOW, maker, byTicks, 0);
        }
    }

    private static void aMessageThatSeeks() {
        Doc.says(48, "Throws `IllegalStateException` if it seeks");
        CallOf roomAt = (x, place) -> x.roomAt(place);
        refused("roomAt", Check.NOT_NOW, Inns::withFullRow, roomAt, 0);
        refused("roomAt", Check.NOT_NOW, Inns::withFullRow, roomAt, 59);
        int last = Inns.busy().messages() - 1;
        Check.due("busy: the last one seeks", Inns.busy().kindAt(last), Inns.SEEKS);
        refused("roomAt", Check.NOT_NOW, Inns::busy, roomAt, last);
    }

    // ---- texts

    private static void bufferIsFull() {
        Doc.says(16, "Throws `IllegalStateException` if the buffer has 60 characters");
        for (int code : new int[] {33, 126, 's', ';', '0'}) {
            refused("append", Check.NOT_NOW, () -> Inns.typed(Inns.LONGEST), (x, each) -> x.append(each), code);
        }
    }

    private static void bufferTellsNoCourse() {
        Doc.says(19, "Throws `IllegalArgumentException` if the buffer does not tell a course as a text");
        String[] texts = {"", "s", "g", "r", "d", "x", "t", ";", "0", "s0;", ";s0", "s0;;s1", "s0;t", "s12", "g12",
            "r12", "d60", "x60", "t0", "t101", "s00", "d00", "d01", "t01", "t1;a", "S0", "s0!", "s0~", "ss0",
            "s-1", "t1000", Inns.LONGEST, Inns.LONGEST.substring(0, 59) + "s"};
        for (String text : texts) {
            Aftermath.dueRefused("play of '" + text + "'", Check.BAD, () -> Inns.typed(text), x -> x.play());
        }
    }

    private static void aPartCannotBePlayed() {
        Doc.says(19, "Throws `IllegalStateException` if one of these methods would throw any exception, when its turn"
            + " comes");
        // By parts: the guest 0 has a room, 1 seeks, 2 wants, 3 rests, three messages wait.
        String[] texts = {"s0", "s1", "s2", "g1", "g2", "g3", "r1", "r2", "r3", "d3", "x3", "d59", "x59", "s3;s3",
            "g0;g0", "g0;r0", "x0;x0;x0;x0", "t100;g0", "t1;t1;s3;t1;s11;d0;s10;x2;t100;d7",
            "x0;x0;x0;d0", "t10;s0", "g3;t1", "d3;s3", "t1;r3;t1", "t1;x3;t1", "s3;s3;t1;t1"};
        for (String text : texts) {
            Aftermath.dueRefused("play of " + text, Check.NOT_NOW, () -> calmWith(text), x -> x.play());
        }
        Aftermath.dueRefused("play of d59 as 59 wait", Check.NOT_NOW, () -> with59("d59"), x -> x.play());
        Aftermath.dueRefused("play of x59 as 59 wait", Check.NOT_NOW, () -> with59("x59"), x -> x.play());
    }

    private static KeyLeases calmWith(String text) {
        KeyLeases x = Inns.calm();
        Inns.type(x, text);
        return x;
    }

    private static KeyLeases with59(String text) {
        KeyLeases x = Inns.typed(text);
        Inns.fillTo(x, 0, 59);
        return x;
    }

    // ---- slots and saved states

    private static void slotIsEmpty() {
        Doc.says(21, "Throws `IllegalStateException` if there is no snapshot in it");
        for (Inns.Maker maker : new Inns.Maker[] {KeyLeases::new, Inns::crowded, Inns::booked}) {
            refused("goBack", Check.NOT_NOW, maker, Calls::goBack, 0);
            refused("goBack", Check.NOT_NOW, maker, Calls::goBack, 1);
        }
        refused("goBack: the other slot has one", Check.NOT_NOW, Inns::busy, Calls::goBack, 1);
        Aftermath.dueRefused("goBack(0): the slot 1 has one", Check.NOT_NOW, () -> keptIn1(), x -> Calls.goBack(x, 0));
    }

    private static KeyLeases keptIn1() {
        KeyLeases x = Inns.crowded();
        x.keep(1);
        return x;
    }

    private static void noStateIsSaved() {
        Doc.says(22, "Throws `IllegalStateException` if there is none");
        Aftermath.dueRefused("undo of a new object", Check.NOT_NOW, KeyLeases::new, Calls::undo);
        Aftermath.dueRefused("undo: nothing undoable was called", Check.NOT_NOW, RefusedCalls::typedAndKept,
            Calls::undo);
        Aftermath.dueRefused("undo: the seventh in a row", Check.NOT_NOW, () -> undone(6), Calls::undo);
    }

    private static KeyLeases typedAndKept() {
        KeyLeases x = Inns.typed("t5");
        x.keep(0);
        x.clearBuffer();
        return x;
    }

    private static KeyLeases undone(int times) {
        KeyLeases x = Inns.busy();
        for (int i = 0; i < times; i++) {
            x.undo();
        }
        return x;
    }

    // ---- several exceptions apply

    private static void theExceptionThatIsNamedFirst() {
        Doc.says(Doc.TERMS,
            "If several exceptions apply, the one that is named first in the throws clause is thrown.");
        Aftermath.dueRefused("reserve: no guest, and the room is reserved", Check.NO_SUCH, Inns::busy,
            x -> Calls.reserve(x, 12, 12));
        Aftermath.dueRefused("reserve: guest -1, and the room is reserved", Check.NO_SUCH, Inns::busy,
            x -> Calls.reserve(x, -1, 12));
        Aftermath.dueRefused("append: a bad code, and the buffer is full", Check.BAD,
            () -> Inns.typed(Inns.LONGEST), x -> x.append(127));
        Aftermath.dueRefused("append: a bad code below, and the buffer is full", Check.BAD,
            () -> Inns.typed(Inns.LONGEST), x -> x.append(32));
        Aftermath.dueRefused("play: a part cannot be played, and then no course goes on", Check.BAD,
            () -> Inns.typed("g0;d0;;"), x -> x.play());
        Aftermath.dueRefused("play: a part cannot be played, and the last is not complete", Check.BAD,
            () -> Inns.typed("g0;t"), x -> x.play());
        Aftermath.dueRefused("goBack: no slot, and no snapshot anywhere", Check.BAD, KeyLeases::new,
            x -> Calls.goBack(x, 2));
        Aftermath.dueRefused("roomFor: no guest, and no room can be offered", Check.NO_SUCH, Inns::booked,
            x -> x.roomFor(12));
        Aftermath.dueRefused("roomAt: no place, and all others seek", Check.NO_SUCH, Inns::withFullRow,
            x -> x.roomAt(60));
        Aftermath.dueRefused("unreserve: no guest, and nothing is reserved", Check.NO_SUCH, KeyLeases::new,
            x -> x.unreserve(12));
        Aftermath.dueRefused("reservedFor: no room, and nothing is reserved", Check.NO_SUCH, KeyLeases::new,
            x -> x.reservedFor(16));
        Aftermath.dueRefused("ticksOf: no room, and all are free", Check.NO_SUCH, KeyLeases::new,
            x -> x.ticksOf(16));
    }

    private static void theBufferStaysToo() {
        Doc.says(Doc.TERMS,
            "A call that throws an exception changes nothing (the buffer stays as it is, too).");
        for (String text : new String[] {"g0", "s0;s0", "s0;;", "t", Inns.LONGEST}) {
            KeyLeases x = Inns.typed(text);
            boolean thrown = false;
            try {
                x.play();
            } catch (IllegalStateException | IllegalArgumentException refused) {
                thrown = true;
            }
            Check.due("play of " + text + " throws", thrown, true);
            Check.due("the buffer behind play of " + text, x.digest(), Inns.typed(text).digest());
            Check.due("its length", x.clearBuffer(), text.length());
        }
    }
}
