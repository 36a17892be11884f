/** Snapshots and undo at the edges: no saved state, six of them, one more; a slot that is empty, one that is not. */
final class UndoBoundaries {
    private static final String SLOT = "- `slot`: 0 or 1";
    private static final String SAVES = "Each method that is marked \"undoable\" and does not throw an exception saves"
        + " the state from before it, also if it changes nothing: all but the buffer, the slots and the saved states.";
    private static final String SIX = "At most 6 states are saved; the oldest one is dropped first.";
    private static final String SLOTS =
        "There are two slots; a snapshot is all but the buffer, the slots and the saved states.";

    private UndoBoundaries() {
    }

    static void all() {
        undoable();
        notUndoable();
        looksChangeNothing();
        savesWhatChangesNothing();
        refusedCallsSaveNothing();
        noneToSix();
        theOldestIsDropped();
        manyTimesSix();
        savedStates();
        undoToTheFirst();
        undoOfAccounts();
        undoOfNumbers();
        undoOfTheLatestWant();
        undoLeavesTheRest();
        keepFirstAndLast();
        keepInPlaceOfAnother();
        twoSlots();
        aSnapshotStays();
        goBackLeavesTheRest();
        snapshotOfANewObject();
    }

    // ---- what is undoable

    private static void undoable() {
        dueUndoable(2, "A guest seeks a room: a message is sent. Undoable.", x -> x.seek(3));
        dueUndoable(3, "a message is sent, and the guest rests then. Undoable.", x -> x.leave(0));
        dueUndoable(4, "nothing is sent. Undoable.", x -> x.giveUp(2));
        dueUndoable(5, "A guest who has a room asks for more time: a message is sent. Undoable.", x -> x.renew(0));
        dueUndoable(6, "in place of a room that was reserved for that guest. Undoable.", x -> Calls.reserve(x, 6, 15));
        dueUndoable(7, "Takes a reservation back. Undoable.", x -> x.unreserve(6));
        dueUndoable(8, "Lets a ghost come to a room, or go, if it is there. Undoable.", x -> x.turnGhost(0) ? 1 : 0);
        dueUndoable(9, "leases that go on stay as they are. Undoable.", x -> x.changeLease(8));
        dueUndoable(10, "those that are held stay as they are. Undoable.", x -> x.changeHold(1));
        dueUndoable(11, "rooms that are shut stay as they are. Undoable.", x -> x.changeShut(200));
        dueUndoable(12, "and perhaps another one is sent. Undoable.", x -> x.deliver(0));
        dueUndoable(13, "Loses a message. Undoable.", x -> x.lose(0));
        dueUndoable(14, "Delivers the first message, as long as there is one. Undoable.", x -> x.deliverAll());
        dueUndoable(15, "Lets ticks go by. Undoable.", x -> x.tick(100));
        dueUndoable(19, "and clears the buffer. Undoable, as one call.", x -> x.play());
        dueUndoable(21, "Goes back to a snapshot, which stays. Undoable.", x -> Calls.goBack(x, 0));
    }

    private static void dueUndoable(int promise, String sentence, Aftermath.Call call) {
        Doc.says(promise, sentence);
        KeyLeases x = calmAndLater();
        long before = x.digest();
        call.on(x);
        Check.due("a fourth state is saved", x.savedStates(), 4);
        Check.due("something is changed", x.digest() != before, true);
        // The buffer is no part of a state, and play() clears it.
        Aftermath.dueSame("undone", UndoBoundaries::calmAndLater, y -> {
            call.on(y);
            return Calls.undo(y) + y.clearBuffer();
        }, y -> y.clearBuffer());
        KeyLeases full = calmAndLater();
        for (int i = 0; i < 3; i++) {
            full.turnGhost(9);
        }
        Check.due("six are saved", full.savedStates(), 6);
        call.on(full);
        Check.due("six are saved, the oldest is dropped", full.savedStates(), 6);
    }

    // As calm(), but not as in its snapshot.
    private static KeyLeases calmAndLater() {
        KeyLeases x = Inns.calm();
        x.changeHold(9);
        return x;
    }

    private static void notUndoable() {
        Doc.says(Doc.TERMS, SAVES);
        dueNotSaved("append", x -> x.append('t'));
        dueNotSaved("clearBuffer", x -> x.clearBuffer());
        dueNotSaved("firstError", x -> x.firstError());
        dueNotSaved("keep(0)", x -> Calls.keep(x, 0));
        dueNotSaved("keep(1)", x -> Calls.keep(x, 1));
        dueNotSaved("savedStates", x -> x.savedStates());
    }

    private static void dueNotSaved(String what, Aftermath.Call call) {
        KeyLeases none = new KeyLeases();
        call.on(none);
        Check.due(what + ": none is saved", none.savedStates(), 0);
        KeyLeases two = Inns.calm();
        call.on(two);
        Check.due(what + ": two are saved", two.savedStates(), 2);
        KeyLeases six = Inns.busy();
        call.on(six);
        Check.due(what + ": six are saved", six.savedStates(), 6);
        two.undo();
        Check.dueThrows(what + ": undo takes back the reservation", Check.NOT_NOW, two, () -> two.unreserve(6));
    }

    private static void looksChangeNothing() {
        Doc.says(Doc.TERMS, "nothing is changed.");
        Inns.Maker[] inns = {KeyLeases::new, Inns::busy, Inns::calm, Inns::crowded, Inns::booked};
        for (Inns.Maker maker : inns) {
            Aftermath.dueSame("looks", maker, UndoBoundaries::lookAtAll, x -> 0);
        }
    }

    private static long lookAtAll(KeyLeases x) {
        long told = x.savedStates() + x.housed() + x.leasedByRooms() + x.leasedByGuests() + x.freeRooms()
            + x.leaseTicks() + x.holdTicks() + x.shutTicks() + x.messages() + x.time() + x.lost() + x.delivered()
            + x.leases() + x.evicted() + x.shutSoFar() + x.wouldDeliver() + x.wouldHouse() + (long) x.leasedShare()
            + x.digest() + x.firstError();
        if (x.freeRooms() < 16) {
            told += x.nextFreeByRooms() + x.nextFreeByTicks();
        }
        for (int guest = 0; guest < 12; guest++) {
            told += x.doingOf(guest) + x.staysOf(guest) + (x.isHaunted(guest) ? 1 : 0);
            told += x.freeRooms() > 0 ? x.roomFor(guest) : 0;
            if (x.doingOf(guest) == 3) {
                told += x.roomOf(guest) + x.ticksLeft(guest) + x.ticksToRenewal(guest);
            }
        }
        for (int room = 0; room < 16; room++) {
            told += x.stateOf(room) + (x.hasGhost(room) ? 1 : 0);
            told += x.stateOf(room) == 0 ? 0 : x.ticksOf(room);
            told += x.stateOf(room) == 0 || x.stateOf(room) == 3 ? 0 : x.guestOf(room);
            told += reservedFor(x, room);
        }
        for (int place = 0; place < x.messages(); place++) {
            told += x.kindAt(place) + x.guestAt(place) + (x.kindAt(place) == 0 ? 0 : x.roomAt(place));
        }
        for (int kind = 0; kind < 7; kind++) {
            told += x.sent(kind);
        }
        return told;
    }

    private static long reservedFor(KeyLeases x, int room) {
        try {
            return x.reservedFor(room);
        } catch (IllegalStateException notReserved) {
            return 0;
        }
    }

    private static void savesWhatChangesNothing() {
        Doc.says(Doc.TERMS, SAVES);
        dueSavedAsBefore("deliverAll: no messages", x -> x.deliverAll());
        dueSavedAsBefore("changeLease to the same", x -> x.changeLease(60));
        dueSavedAsBefore("changeHold to the same", x -> x.changeHold(10));
        dueSavedAsBefore("changeShut to the same", x -> x.changeShut(50));
        dueSavedAsBefore("goBack to the same", x -> Calls.goBack(x, 1));
    }

    private static void dueSavedAsBefore(String what, Aftermath.Call call) {
        KeyLeases x = new KeyLeases();
        x.keep(1);
        long before = x.digest();
        for (int saved = 1; saved <= 6; saved++) {
            call.on(x);
            Check.due(what + ": savedStates", x.savedStates(), saved);
        }
        call.on(x);
        Check.due(what + ": six at most", x.savedStates(), 6);
        for (int saved = 5; saved >= 0; saved--) {
            x.undo();
            Check.due(what + ": undone", x.savedStates(), saved);
        }
        Check.due(what + ": nothing is changed", x.digest(), before);
    }

    private static void refusedCallsSaveNothing() {
        Doc.says(Doc.TERMS, SAVES);
        KeyLeases x = new KeyLeases();
        Check.dueThrows("leave", Check.NOT_NOW, x, () -> x.leave(0));
        Check.dueThrows("tick", Check.BAD, x, () -> x.tick(0));
        Check.dueThrows("play", Check.BAD, x, () -> x.play());
        Check.dueThrows("goBack", Check.NOT_NOW, x, () -> Calls.goBack(x, 0));
        Check.due("savedStates", x.savedStates(), 0);
    }

    // ---- none, six, one more

    private static void noneToSix() {
        Doc.says(Doc.TERMS, SIX);
        KeyLeases x = new KeyLeases();
        Check.due("none", x.savedStates(), 0);
        for (int i = 1; i <= 9; i++) {
            x.tick(1);
            Check.due("savedStates", x.savedStates(), Math.min(6, i));
        }
    }

    private static void theOldestIsDropped() {
        Doc.says(Doc.TERMS, SIX);
        for (int calls = 5; calls <= 8; calls++) {
            KeyLeases x = new KeyLeases();
            for (int i = 0; i < calls; i++) {
                x.tick(1);
            }
            for (int undone = 1; undone <= Math.min(6, calls); undone++) {
                x.undo();
                Check.due(calls + " calls, " + undone + " undone: time", x.time(), calls - undone);
            }
            Check.due(calls + " calls: none is left", x.savedStates(), 0);
        }
    }

    private static void manyTimesSix() {
        Doc.says(Doc.TERMS, SIX);
        KeyLeases x = new KeyLeases();
        int time = 0;
        for (int round = 0; round < 20; round++) {
            for (int i = 0; i < 13; i++) {
                x.tick(1);
            }
            time += 13;
            for (int i = 0; i < 4; i++) {
                x.undo();
            }
            time -= 4;
            Check.due("round " + round + ": time", x.time(), time);
            Check.due("round " + round + ": savedStates", x.savedStates(), 2);
        }
        x.undo();
        x.undo();
        Check.due("time", x.time(), time - 2);
        Check.dueThrows("none is left", Check.NOT_NOW, x, () -> x.undo());
    }

    private static void savedStates() {
        Doc.says(23, "Returns 0 to 6.");
        KeyLeases x = new KeyLeases();
        Check.due("the least", x.savedStates(), 0);
        for (int i = 0; i < 300; i++) {
            x.turnGhost(i % 16);
        }
        Check.due("the greatest", x.savedStates(), 6);
    }

    private static void undoToTheFirst() {
        Doc.says(22, "Restores the latest saved state, and drops it.");
        KeyLeases x = new KeyLeases();
        long first = x.digest();
        x.seek(0);
        x.deliverAll();
        x.reserve(11, 15);
        x.turnGhost(15);
        x.changeShut(200);
        x.tick(59);
        for (int saved = 5; saved >= 0; saved--) {
            x.undo();
            Check.due("savedStates", x.savedStates(), saved);
        }
        Check.due("as a new one", x.digest(), first);
        x.tick(1);
        Check.due("one is saved anew", x.savedStates(), 1);
        x.undo();
        Check.due("as a new one again", x.digest(), first);
    }

    private static void undoOfAccounts() {
        Doc.says(22, "Restores the latest saved state, and drops it.");
        KeyLeases x = Inns.withRefusal();
        x.seek(1);
        dueUndone("delivered", x, y -> y.delivered(), y -> y.deliver(0));
        dueUndone("shutSoFar", x, y -> y.shutSoFar(), y -> y.deliver(0));
        dueUndone("sent", x, y -> y.sent(Inns.OFFERS), y -> y.deliver(1));
        dueUndone("lost", x, y -> y.lost(), y -> y.lose(0));
        dueUndone("leases", x, y -> y.leases(), y -> y.deliverAll());
        dueUndone("staysOf", x, y -> y.staysOf(1), y -> y.deliverAll());
        dueUndone("time", x, y -> y.time(), y -> y.tick(100));
        KeyLeases having = Inns.withGuest();
        dueUndone("evicted", having, y -> y.evicted(), y -> y.tick(60));
        dueUndone("leasedByGuests", having, y -> y.leasedByGuests(), y -> y.tick(60));
    }

    private static void dueUndone(String what, KeyLeases x, Aftermath.Call look, Aftermath.Call call) {
        long before = look.on(x);
        x.keep(0);
        call.on(x);
        Check.due(what + ": is changed", look.on(x) != before, true);
        x.undo();
        Check.due(what + ": undone", look.on(x), before);
        call.on(x);
        x.goBack(0);
        Check.due(what + ": gone back", look.on(x), before);
        x.undo();
        x.undo();
        Check.due(what + ": undone twice", look.on(x), before);
    }

    // Which message is the later one is seen only as the leaving is delivered.
    private static void undoOfNumbers() {
        Doc.says(22, "Restores the latest saved state, and drops it.");
        KeyLeases x = Inns.withGuest();
        x.renew(0);
        x.keep(0);
        x.deliver(0);
        x.undo();
        x.leave(0);
        x.deliver(1);
        Check.due("the yes that was undone is not the latest", x.stateOf(0), Inns.FREE);
        x.goBack(0);
        x.deliver(0);
        x.goBack(0);
        x.leave(0);
        x.deliver(1);
        Check.due("nor is the one that was gone back from", x.stateOf(0), Inns.FREE);
    }

    private static void undoOfTheLatestWant() {
        Doc.says(22, "Restores the latest saved state, and drops it.");
        KeyLeases x = Inns.withGuest();
        x.tick(5);
        x.renew(0);
        x.tick(1);
        x.keep(0);
        x.renew(0);
        x.undo();
        x.deliverAll();
        Check.due("the want that was undone is not the latest", x.ticksLeft(0), 59);
        x.goBack(0);
        x.renew(0);
        x.goBack(0);
        x.deliverAll();
        Check.due("nor is the one that was gone back from", x.ticksLeft(0), 59);
    }

    private static void undoLeavesTheRest() {
        Doc.says(Doc.TERMS, SAVES);
        KeyLeases x = new KeyLeases();
        x.tick(1);
        Inns.type(x, Inns.LONGEST);
        x.keep(1);
        x.undo();
        Check.due("time", x.time(), 0);
        x.goBack(1);
        Check.due("the slot holds its snapshot", x.time(), 1);
        Check.due("the buffer stays", x.clearBuffer(), 60);
    }

    // ---- slots

    private static void keepFirstAndLast() {
        Doc.says(20, SLOT);
        Doc.says(21, SLOT);
        for (int slot : new int[] {0, 1}) {
            KeyLeases x = new KeyLeases();
            x.tick(3);
            x.keep(slot);
            x.tick(5);
            x.goBack(slot);
            Check.due("time", x.time(), 3);
            Check.dueThrows("the other slot is empty", Check.NOT_NOW, x, () -> x.goBack(1 - slot));
        }
    }

    private static void keepInPlaceOfAnother() {
        Doc.says(20, "Takes a snapshot, in place of the one in the slot.");
        KeyLeases x = new KeyLeases();
        x.keep(0);
        long once = x.digest();
        x.keep(0);
        Check.due("the same once more", x.digest(), once);
        x.tick(7);
        x.keep(0);
        x.tick(1);
        x.goBack(0);
        Check.due("the later one", x.time(), 7);
    }

    private static void twoSlots() {
        Doc.says(Doc.TERMS, SLOTS);
        KeyLeases x = new KeyLeases();
        x.keep(0);
        x.tick(1);
        x.keep(1);
        x.tick(1);
        x.goBack(1);
        Check.due("the slot 1", x.time(), 1);
        x.goBack(0);
        Check.due("the slot 0", x.time(), 0);
        x.keep(1);
        x.goBack(1);
        Check.due("the slot 1, taken from the slot 0", x.time(), 0);
    }

    private static void aSnapshotStays() {
        Doc.says(21, "Goes back to a snapshot, which stays.");
        KeyLeases x = Inns.withGuest();
        x.keep(0);
        for (int i = 0; i < 20; i++) {
            x.tick(100);
            x.changeLease(8 + i);
            x.seek(1);
            x.deliverAll();
            x.goBack(0);
            Check.due("time", x.time(), 0);
            Check.due("leaseTicks", x.leaseTicks(), 60);
            Check.due("ticksLeft", x.ticksLeft(0), 60);
            Check.due("staysOf", x.staysOf(1), 0);
        }
    }

    private static void goBackLeavesTheRest() {
        Doc.says(Doc.TERMS, SLOTS);
        KeyLeases x = new KeyLeases();
        x.keep(0);
        x.tick(1);
        x.keep(1);
        Inns.type(x, Inns.LONGEST);
        x.goBack(0);
        Check.due("one more state is saved", x.savedStates(), 2);
        x.goBack(1);
        Check.due("the slot 1 was empty as the slot 0 was taken, and is not", x.time(), 1);
        Check.due("the buffer stays", x.clearBuffer(), 60);
        x.undo();
        x.undo();
        x.undo();
        Check.due("the saved states stay", x.savedStates(), 0);
        Check.due("and are undone", x.time(), 0);
    }

    private static void snapshotOfANewObject() {
        Doc.says(1, "with empty slots and an empty buffer.");
        Aftermath.dueSame("a snapshot of a new object", KeyLeases::new, x -> {
            x.keep(0);
            x.keep(1);
            return 0;
        }, x -> {
            x.tick(5);
            Inns.house(x, 4);
            x.undo();
            x.undo();
            x.undo();
            x.keep(0);
            x.keep(1);
            return 0;
        });
        KeyLeases x = new KeyLeases();
        Check.dueThrows("the slot 0 is empty", Check.NOT_NOW, x, () -> x.goBack(0));
        Check.dueThrows("the slot 1 is empty", Check.NOT_NOW, x, () -> x.goBack(1));
        Check.due("the buffer is empty", x.clearBuffer(), 0);
    }
}
