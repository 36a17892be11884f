/** For each promise its ordinary inputs, the edges that the document names, and wrong inputs; all due by hand. */
public final class PromiseTest {
    public static void main(String[] args) {
        newObject();
        seek();
        leave();
        giveUp();
        renew();
        reserve();
        unreserve();
        turnGhost();
        changeLease();
        changeHold();
        changeShut();
        deliverSeeks();
        deliverOffers();
        deliverWants();
        deliverYes();
        deliverNo();
        deliverRefuses();
        deliverLeaves();
        deliverPlaces();
        lose();
        deliverAll();
        tick();
        asksForMoreTime();
        append();
        clearBuffer();
        firstError();
        play();
        keepAndGoBack();
        undo();
        doingOf();
        roomOf();
        ticksLeft();
        ticksToRenewal();
        isHaunted();
        staysOf();
        housed();
        stateOf();
        guestOf();
        ticksOf();
        reservedFor();
        hasGhost();
        roomFor();
        leasedByRoomsAndGuests();
        freeRooms();
        nextFree();
        lengths();
        messagesAsTheyAre();
        time();
        sent();
        lost();
        delivered();
        leases();
        evicted();
        shutSoFar();
        wouldDeliver();
        wouldHouse();
        leasedShare();
        digest();
        Check.finish("PromiseTest");
    }

    // ---- helpers

    private static void dueMessage(String what, KeyLeases x, int place, int kind, int guest, int room) {
        Check.due(what + ": kindAt", x.kindAt(place), kind);
        Check.due(what + ": guestAt", x.guestAt(place), guest);
        Check.due(what + ": roomAt", x.roomAt(place), room);
    }

    private static void dueRoom(String what, KeyLeases x, int room, int state, int guest, int ticks) {
        Check.due(what + ": stateOf", x.stateOf(room), state);
        if (state == 1 || state == 2) {
            Check.due(what + ": guestOf", x.guestOf(room), guest);
        } else {
            Check.dueThrows(what + ": guestOf", Check.NOT_NOW, x, () -> x.guestOf(room));
        }
        if (state == 0) {
            Check.dueThrows(what + ": ticksOf", Check.NOT_NOW, x, () -> x.ticksOf(room));
        } else {
            Check.due(what + ": ticksOf", x.ticksOf(room), ticks);
        }
    }

    // ---- promise 1

    private static void newObject() {
        KeyLeases x = new KeyLeases();
        for (int guest = 0; guest < 12; guest++) {
            Check.due("new: doingOf", x.doingOf(guest), 0);
            Check.due("new: staysOf", x.staysOf(guest), 0);
            Check.due("new: roomFor", x.roomFor(guest), 0);
        }
        for (int room = 0; room < 16; room++) {
            dueRoom("new", x, room, 0, 0, 0);
            Check.due("new: hasGhost", x.hasGhost(room), room == 9);
        }
        Check.due("new: leaseTicks", x.leaseTicks(), 60);
        Check.due("new: holdTicks", x.holdTicks(), 10);
        Check.due("new: shutTicks", x.shutTicks(), 50);
        Check.due("new: messages", x.messages(), 0);
        Check.due("new: time", x.time(), 0);
        Check.due("new: savedStates", x.savedStates(), 0);
        Check.due("new: clearBuffer", x.clearBuffer(), 0);
        Check.dueThrows("new: goBack", Check.NOT_NOW, x, () -> x.goBack(0));
        Check.dueThrows("new: goBack", Check.NOT_NOW, x, () -> x.goBack(1));
        Check.due("new objects are alike", x.digest(), new KeyLeases().digest());
    }

    // ---- promises 2 to 5

    private static void seek() {
        KeyLeases x = new KeyLeases();
        Check.dueUndoable("seek(0)", x, () -> x.seek(0), 1);
        Check.dueUndoable("seek(11)", x, () -> x.seek(11), 2);
        Check.due("seek: doingOf", x.doingOf(11), 1);
        Check.due("seek: kindAt", x.kindAt(1), Inns.SEEKS);
        Check.due("seek: guestAt", x.guestAt(1), 11);
        Check.dueThrows("seek: a guest who seeks", Check.NOT_NOW, x, () -> x.seek(0));
        Check.dueThrows("seek(12)", Check.NO_SUCH, x, () -> x.seek(12));
        Check.dueThrows("seek(-1)", Check.NO_SUCH, x, () -> x.seek(-1));
        Check.dueThrows("seek(least)", Check.NO_SUCH, x, () -> x.seek(Integer.MIN_VALUE));
        Check.dueThrows("seek(most)", Check.NO_SUCH, x, () -> x.seek(Integer.MAX_VALUE));
        KeyLeases wanting = Inns.withWant();
        Check.dueThrows("seek: a guest who wants", Check.NOT_NOW, wanting, () -> wanting.seek(0));
        KeyLeases having = Inns.withGuest();
        Check.dueThrows("seek: a guest who has", Check.NOT_NOW, having, () -> having.seek(0));
        KeyLeases full = Inns.withFullRow();
        int lostBefore = full.lost();
        Check.dueUndoable("seek: 60 wait", full, () -> full.seek(1), 60);
        Check.due("seek: 60 wait: doingOf", full.doingOf(1), 1);
        Check.due("seek: 60 wait: lost", full.lost(), lostBefore + 1);
        Check.due("seek: 60 wait: sent", full.sent(Inns.SEEKS), 61);
        Check.due("seek: 60 wait: the last is an old one", full.guestAt(59), 0);
    }

    private static void leave() {
        KeyLeases x = Inns.withGuest();
        Inns.house(x, 3);
        Check.dueUndoable("leave(3)", x, () -> x.leave(3), 1);
        Check.due("leave: doingOf", x.doingOf(3), 0);
        dueMessage("leave", x, 0, Inns.LEAVES, 3, 1);
        dueRoom("leave: for the inn", x, 1, 2, 3, 60);
        Check.dueThrows("leave: a guest who rests", Check.NOT_NOW, x, () -> x.leave(3));
        Check.dueThrows("leave(12)", Check.NO_SUCH, x, () -> x.leave(12));
        Check.dueThrows("leave(-1)", Check.NO_SUCH, x, () -> x.leave(-1));
        x.seek(4);
        Check.dueThrows("leave: a guest who seeks", Check.NOT_NOW, x, () -> x.leave(4));
        KeyLeases wanting = Inns.withWant();
        Check.dueThrows("leave: a guest who wants", Check.NOT_NOW, wanting, () -> wanting.leave(0));
        KeyLeases full = Inns.withGuest();
        Inns.fill(full, 1);
        Check.due("leave: 60 wait", full.leave(0), 0);
        Check.due("leave: 60 wait: doingOf", full.doingOf(0), 0);
        Check.due("leave: 60 wait: lost", full.lost(), 1);
        Check.due("leave: 60 wait: sent", full.sent(Inns.LEAVES), 1);
    }

    private static void giveUp() {
        KeyLeases x = new KeyLeases();
        x.seek(5);
        Check.dueUndoable("giveUp: seeks", x, () -> x.giveUp(5), 1);
        Check.due("giveUp: doingOf", x.doingOf(5), 0);
        Check.due("giveUp: messages", x.messages(), 1);
        Check.dueThrows("giveUp: rests", Check.NOT_NOW, x, () -> x.giveUp(5));
        Check.dueThrows("giveUp(12)", Check.NO_SUCH, x, () -> x.giveUp(12));
        Check.dueThrows("giveUp(-1)", Check.NO_SUCH, x, () -> x.giveUp(-1));
        KeyLeases wanting = Inns.withWant();
        Check.dueUndoable("giveUp: wants", wanting, () -> wanting.giveUp(0), 2);
        Check.dueThrows("giveUp: roomOf", Check.NOT_NOW, wanting, () -> wanting.roomOf(0));
        Check.due("giveUp: the want still waits", wanting.kindAt(0), Inns.WANTS);
        KeyLeases having = Inns.withGuest();
        Check.dueThrows("giveUp: has", Check.NOT_NOW, having, () -> having.giveUp(0));
    }

    private static void renew() {
        KeyLeases x = Inns.withGuest();
        x.tick(5);
        Check.dueUndoable("renew(0)", x, () -> x.renew(0), 1);
        Check.due("renew again", x.renew(0), 2);
        dueMessage("renew", x, 1, Inns.WANTS, 0, 0);
        Check.due("renew: doingOf", x.doingOf(0), 3);
        Check.due("renew: ticksLeft as before", x.ticksLeft(0), 55);
        x.deliverAll();
        Check.due("renew: ticksLeft behind the answer", x.ticksLeft(0), 60);
        Check.due("renew: staysOf", x.staysOf(0), 1);
        Check.dueThrows("renew: rests", Check.NOT_NOW, x, () -> x.renew(1));
        Check.dueThrows("renew(12)", Check.NO_SUCH, x, () -> x.renew(12));
        Check.dueThrows("renew(-1)", Check.NO_SUCH, x, () -> x.renew(-1));
        x.seek(2);
        Check.dueThrows("renew: seeks", Check.NOT_NOW, x, () -> x.renew(2));
        KeyLeases wanting = Inns.withWant();
        Check.dueThrows("renew: wants", Check.NOT_NOW, wanting, () -> wanting.renew(0));
        renewIntoFullRow();
    }

    // A message that is lost for want of a place is the latest one all the same.
    private static void renewIntoFullRow() {
        KeyLeases x = Inns.withGuest();
        x.renew(0);
        x.tick(3);
        Inns.fill(x, 1);
        Check.due("renew: 60 wait", x.renew(0), 60);
        Check.due("renew: 60 wait: lost", x.lost(), 1);
        x.deliver(0);
        Check.due("renew: the yes of the older message waits", x.kindAt(59), Inns.YES);
        x.deliver(59);
        Check.due("renew: it does not count", x.ticksLeft(0), 57);
    }

    // ---- promises 6 to 8

    private static void reserve() {
        KeyLeases x = new KeyLeases();
        Check.dueUndoable("reserve(2, 15)", x, () -> { x.reserve(2, 15); return x.reservedFor(15); }, 2);
        Check.dueThrows("reserve: for the same", Check.NOT_NOW, x, () -> x.reserve(2, 15));
        Check.dueThrows("reserve: for another", Check.NOT_NOW, x, () -> x.reserve(3, 15));
        Check.dueUndoable("reserve(2, 4)", x, () -> { x.reserve(2, 4); return x.reservedFor(4); }, 2);
        Check.dueThrows("reserve: in place of the first", Check.NOT_NOW, x, () -> x.reservedFor(15));
        Check.dueThrows("reserve(12, 0)", Check.NO_SUCH, x, () -> x.reserve(12, 0));
        Check.dueThrows("reserve(-1, 0)", Check.NO_SUCH, x, () -> x.reserve(-1, 0));
        Check.dueThrows("reserve(0, 16)", Check.NO_SUCH, x, () -> x.reserve(0, 16));
        Check.dueThrows("reserve(0, -1)", Check.NO_SUCH, x, () -> x.reserve(0, -1));
        Check.dueThrows("reserve(12, 4): the first exception", Check.NO_SUCH, x, () -> x.reserve(12, 4));
        KeyLeases leased = Inns.withGuest();
        leased.reserve(1, 0);
        Check.due("reserve: a leased room", leased.reservedFor(0), 1);
        dueRoom("reserve: a leased room", leased, 0, 2, 0, 60);
    }

    private static void unreserve() {
        KeyLeases x = new KeyLeases();
        x.reserve(0, 7);
        x.reserve(11, 15);
        Check.dueUndoable("unreserve(11)", x, () -> x.unreserve(11), 15);
        Check.dueThrows("unreserve: none is left", Check.NOT_NOW, x, () -> x.unreserve(11));
        Check.dueThrows("unreserve: reservedFor", Check.NOT_NOW, x, () -> x.reservedFor(15));
        Check.due("unreserve: the other stays", x.reservedFor(7), 0);
        x.reserve(5, 0);
        Check.due("unreserve(5)", x.unreserve(5), 0);
        Check.dueThrows("unreserve(12)", Check.NO_SUCH, x, () -> x.unreserve(12));
        Check.dueThrows("unreserve(-1)", Check.NO_SUCH, x, () -> x.unreserve(-1));
    }

    private static void turnGhost() {
        KeyLeases x = new KeyLeases();
        Check.dueUndoable("turnGhost(9)", x, () -> x.turnGhost(9) ? 1 : 0, 0);
        Check.dueUndoable("turnGhost(15)", x, () -> x.turnGhost(15) ? 1 : 0, 1);
        Check.due("turnGhost(0)", x.turnGhost(0), true);
        Check.due("turnGhost: 9", x.hasGhost(9), false);
        Check.due("turnGhost: 15", x.hasGhost(15), true);
        Check.due("turnGhost: 1", x.hasGhost(1), false);
        Check.due("turnGhost(15) again", x.turnGhost(15), false);
        Check.dueThrows("turnGhost(16)", Check.NO_SUCH, x, () -> x.turnGhost(16));
        Check.dueThrows("turnGhost(-1)", Check.NO_SUCH, x, () -> x.turnGhost(-1));
        Check.dueThrows("turnGhost(32)", Check.NO_SUCH, x, () -> x.turnGhost(32));
    }

    // ---- promises 9 to 11

    private static void changeLease() {
        KeyLeases x = Inns.withGuest();
        Check.dueUndoable("changeLease(8)", x, () -> x.changeLease(8), 60);
        Check.dueUndoable("changeLease(200)", x, () -> x.changeLease(200), 8);
        Check.due("changeLease: leaseTicks", x.leaseTicks(), 200);
        dueRoom("changeLease: one that goes on", x, 0, 2, 0, 60);
        Check.due("changeLease: ticksLeft", x.ticksLeft(0), 60);
        Inns.house(x, 1);
        dueRoom("changeLease: a new one", x, 1, 2, 1, 200);
        Check.due("changeLease: ticksLeft of a new one", x.ticksLeft(1), 200);
        Check.dueThrows("changeLease(7)", Check.BAD, x, () -> x.changeLease(7));
        Check.dueThrows("changeLease(201)", Check.BAD, x, () -> x.changeLease(201));
        Check.dueThrows("changeLease(-60)", Check.BAD, x, () -> x.changeLease(-60));
    }

    private static void changeHold() {
        KeyLeases x = new KeyLeases();
        x.seek(0);
        x.deliver(0);
        Check.dueUndoable("changeHold(1)", x, () -> x.changeHold(1), 10);
        Check.dueUndoable("changeHold(50)", x, () -> x.changeHold(50), 1);
        dueRoom("changeHold: one that is held", x, 0, 1, 0, 10);
        x.seek(1);
        x.deliver(1);
        dueRoom("changeHold: a new one", x, 1, 1, 1, 50);
        Check.due("changeHold: holdTicks", x.holdTicks(), 50);
        Check.dueThrows("changeHold(0)", Check.BAD, x, () -> x.changeHold(0));
        Check.dueThrows("changeHold(51)", Check.BAD, x, () -> x.changeHold(51));
    }

    private static void changeShut() {
        KeyLeases x = new KeyLeases();
        x.turnGhost(0);
        x.turnGhost(1);
        x.seek(0);
        x.deliverAll();
        Check.dueUndoable("changeShut(1)", x, () -> x.changeShut(1), 50);
        Check.dueUndoable("changeShut(200)", x, () -> x.changeShut(200), 1);
        dueRoom("changeShut: one that is shut", x, 0, 3, 0, 50);
        x.seek(1);
        x.deliverAll();
        dueRoom("changeShut: a new one", x, 1, 3, 0, 200);
        Check.due("changeShut: shutTicks", x.shutTicks(), 200);
        Check.dueThrows("changeShut(0)", Check.BAD, x, () -> x.changeShut(0));
        Check.dueThrows("changeShut(201)", Check.BAD, x, () -> x.changeShut(201));
    }

    // ---- promise 12: what each message does

    private static void deliverSeeks() {
        KeyLeases x = new KeyLeases();
        x.seek(4);
        Check.dueUndoable("deliver seeks", x, () -> x.deliver(0), Inns.SEEKS);
        dueRoom("seeks: the lowest room", x, 0, 1, 4, 10);
        dueMessage("seeks: an offer", x, 0, Inns.OFFERS, 4, 0);
        Check.due("seeks: the guest seeks yet", x.doingOf(4), 1);
        x.tick(6);
        x.changeHold(2);
        x.giveUp(4);
        x.seek(4);
        Check.due("seeks anew", x.deliver(1), Inns.SEEKS);
        dueRoom("seeks anew: the same room, held anew", x, 0, 1, 4, 2);
        Check.due("seeks anew: a second offer", x.messages(), 2);
        Check.due("seeks anew: free rooms", x.freeRooms(), 15);
        noRoomToOffer();
        whichRoomIsOffered();
    }

    private static void noRoomToOffer() {
        KeyLeases x = new KeyLeases();
        x.turnGhost(9);
        x.changeHold(50);
        for (int guest = 0; guest < 12; guest++) {
            x.seek(guest);
        }
        x.deliverAll();
        for (int guest = 0; guest < 4; guest++) {
            x.leave(guest);
            x.lose(0);
            Inns.house(x, guest);
        }
        Check.due("no room is free", x.freeRooms(), 0);
        x.leave(3);
        x.lose(0);
        x.seek(3);
        Check.due("seeks: no room", x.deliver(0), Inns.SEEKS);
        Check.due("seeks: nothing happens", x.messages(), 0);
        Check.due("seeks: the guest seeks on", x.doingOf(3), 1);
        Check.dueThrows("roomFor: none", Check.NOT_NOW, x, () -> x.roomFor(3));
    }

    private static void whichRoomIsOffered() {
        KeyLeases x = new KeyLeases();
        x.reserve(1, 0);
        x.reserve(2, 5);
        Check.due("roomFor: not one reserved for others", x.roomFor(0), 1);
        Check.due("roomFor: the lowest, reserved for it", x.roomFor(1), 0);
        Check.due("roomFor: reserved, not the lowest", x.roomFor(2), 5);
        Inns.house(x, 0);
        Inns.house(x, 3);
        x.leave(3);
        x.leave(0);
        x.deliverAll();
        Check.due("roomFor: the one leased last", x.roomFor(3), 2);
        x.reserve(3, 8);
        Check.due("roomFor: reserved before leased last", x.roomFor(3), 8);
        x.unreserve(3);
        x.reserve(4, 2);
        Check.due("roomFor: leased last, but reserved for another", x.roomFor(3), 1);
        Check.due("roomFor: reserved for it, leased last to another", x.roomFor(4), 2);
        Inns.house(x, 4);
        Check.due("roomFor: reserved, but leased already", x.roomFor(4), 1);
        KeyLeases y = new KeyLeases();
        y.seek(0);
        y.deliver(0);
        y.reserve(0, 6);
        Check.due("roomFor: offered before reserved", y.roomFor(0), 0);
        y.unreserve(0);
        y.reserve(1, 0);
        Check.due("roomFor: offered, though reserved for another", y.roomFor(0), 0);
        y.tick(10);
        Check.due("roomFor: the offer is over", y.roomFor(0), 1);
    }

    private static void deliverOffers() {
        KeyLeases x = new KeyLeases();
        x.seek(0);
        x.giveUp(0);
        x.seek(0);
        x.deliver(0);
        x.deliver(0);
        Check.dueUndoable("deliver offers", x, () -> x.deliver(0), Inns.OFFERS);
        Check.due("offers: doingOf", x.doingOf(0), 2);
        Check.due("offers: roomOf", x.roomOf(0), 0);
        dueMessage("offers: a want", x, 1, Inns.WANTS, 0, 0);
        Check.dueUndoable("deliver a second offer", x, () -> x.deliver(0), Inns.OFFERS);
        Check.due("offers: nothing to one who wants", x.messages(), 1);
        KeyLeases resting = new KeyLeases();
        resting.seek(0);
        resting.deliver(0);
        resting.giveUp(0);
        resting.deliver(0);
        Check.due("offers: nothing to one who rests", resting.messages(), 0);
        Check.due("offers: it rests on", resting.doingOf(0), 0);
    }

    private static void deliverWants() {
        KeyLeases x = Inns.withWant();
        x.tick(4);
        x.changeLease(20);
        Check.dueUndoable("deliver wants", x, () -> x.deliver(0), Inns.WANTS);
        dueRoom("wants: leased from its delivery on", x, 0, 2, 0, 20);
        dueMessage("wants: a yes", x, 0, Inns.YES, 0, 0);
        x.deliver(0);
        Check.due("wants: for the guest from its sending on", x.ticksLeft(0), 16);
        x.changeLease(8);
        x.renew(0);
        x.deliver(0);
        dueRoom("wants: not less long than already", x, 0, 2, 0, 20);
        Check.due("wants: yes once more", x.deliver(0), Inns.YES);
        Check.due("wants: for the guest it is sooner", x.ticksLeft(0), 8);
        KeyLeases late = Inns.withWant();
        late.tick(10);
        Check.due("wants: the offer is over", late.stateOf(0), 0);
        late.deliver(0);
        dueMessage("wants: a no", late, 0, Inns.NO, 0, 0);
        Check.due("wants: not leased", late.stateOf(0), 0);
        KeyLeases taken = Inns.withWant();
        taken.tick(10);
        Inns.house1WhileAMessageWaits(taken);
        taken.deliver(0);
        dueMessage("wants: leased to another", taken, 0, Inns.NO, 0, 0);
        dueRoom("wants: leased to another", taken, 0, 2, 1, 60);
    }

    private static void deliverYes() {
        KeyLeases x = Inns.withWant();
        x.deliver(0);
        Check.dueUndoable("deliver yes", x, () -> x.deliver(0), Inns.YES);
        Check.due("yes: doingOf", x.doingOf(0), 3);
        Check.due("yes: nothing is sent", x.messages(), 0);
        KeyLeases givenUp = Inns.withWant();
        givenUp.deliver(0);
        givenUp.giveUp(0);
        givenUp.deliver(0);
        Check.due("yes: not to one who rests", givenUp.doingOf(0), 0);
        yesToAnOlderWant();
        yesThatIsOver();
        yesInHauntedRoom();
        yesThatIsSooner();
    }

    private static void yesToAnOlderWant() {
        KeyLeases x = Inns.withWant();
        x.deliver(0);
        x.giveUp(0);
        x.seek(0);
        x.reserve(0, 0);
        x.deliver(1);
        dueMessage("an offer of another room, as 0 is leased", x, 1, Inns.OFFERS, 0, 1);
        x.deliver(1);
        x.deliver(0);
        Check.due("yes: to an older want", x.doingOf(0), 2);
        Check.due("yes: to an older want, roomOf", x.roomOf(0), 1);
        x.deliver(0);
        x.deliver(0);
        Check.due("yes: to the latest want", x.doingOf(0), 3);
        x.tick(2);
        x.renew(0);
        x.tick(2);
        x.renew(0);
        x.deliver(0);
        x.deliver(1);
        Check.due("yes: to an older renewal", x.ticksLeft(0), 56);
        x.deliver(0);
        x.deliver(0);
        Check.due("yes: to the latest renewal", x.ticksLeft(0), 60);
    }

    private static void yesThatIsOver() {
        KeyLeases x = Inns.withWant();
        x.changeLease(8);
        x.deliver(0);
        x.tick(7);
        x.keep(0);
        x.deliver(0);
        Check.due("yes: a tick is left", x.ticksLeft(0), 1);
        x.goBack(0);
        x.tick(1);
        x.turnGhost(0);
        x.deliver(0);
        Check.due("yes: over already", x.doingOf(0), 0);
        Check.due("yes: over already, not refused", x.messages(), 0);
        Check.due("yes: over already, no stay", x.staysOf(0), 0);
        Check.due("yes: over already, not evicted", x.evicted(), 0);
        KeyLeases renewed = Inns.withGuest();
        renewed.changeLease(8);
        renewed.renew(0);
        renewed.deliver(0);
        renewed.tick(8);
        renewed.deliver(0);
        Check.due("yes: over already, for one who has the room", renewed.doingOf(0), 0);
        Check.due("yes: over already, for one who has the room, not evicted", renewed.evicted(), 0);
    }

    private static void yesInHauntedRoom() {
        KeyLeases x = Inns.withWant();
        x.deliver(0);
        x.turnGhost(0);
        x.deliver(0);
        Check.due("yes: haunted", x.doingOf(0), 0);
        Check.due("yes: haunted, staysOf", x.staysOf(0), 0);
        dueMessage("yes: haunted, refused", x, 0, Inns.REFUSES, 0, 0);
        KeyLeases having = Inns.withGuest();
        having.turnGhost(0);
        having.tick(3);
        having.renew(0);
        having.deliverAll();
        Check.due("yes: haunted, but had already", having.ticksLeft(0), 60);
        Check.due("yes: haunted, but had already, nothing sent", having.sent(Inns.REFUSES), 0);
    }

    private static void yesThatIsSooner() {
        KeyLeases x = Inns.withGuest();
        x.changeLease(9);
        x.renew(0);
        x.deliverAll();
        Check.due("yes: sooner than it was", x.ticksLeft(0), 9);
        Check.due("yes: asks by the new ticks", x.ticksToRenewal(0), 4);
        Check.due("yes: for the inn as long as it was", x.ticksOf(0), 60);
    }

    private static void deliverNo() {
        KeyLeases x = Inns.withWant();
        x.tick(10);
        x.deliver(0);
        Check.dueUndoable("deliver no", x, () -> x.deliver(0), Inns.NO);
        Check.due("no: rests", x.doingOf(0), 0);
        KeyLeases older = Inns.withWant();
        older.tick(10);
        older.deliver(0);
        older.giveUp(0);
        older.seek(0);
        older.deliver(1);
        older.deliver(1);
        Check.due("no: waits", older.deliver(0), Inns.NO);
        Check.due("no: to an older want", older.doingOf(0), 2);
    }

    private static void deliverRefuses() {
        KeyLeases x = Inns.withWant();
        x.turnGhost(0);
        x.deliver(0);
        x.deliver(0);
        x.tick(3);
        Check.dueUndoable("deliver refuses", x, () -> x.deliver(0), Inns.REFUSES);
        dueRoom("refuses: shut from its delivery on", x, 0, 3, 0, 50);
        Check.due("refuses: leasedByGuests", x.leasedByGuests(), 0);
        Check.due("refuses: roomFor, while shut", x.roomFor(0), 1);
        x.tick(49);
        Check.due("refuses: shut yet", x.ticksOf(0), 1);
        x.tick(1);
        Check.due("refuses: free again", x.stateOf(0), 0);
        KeyLeases ended = Inns.withWant();
        ended.turnGhost(0);
        ended.changeLease(8);
        ended.deliver(0);
        ended.deliver(0);
        ended.tick(8);
        ended.deliver(0);
        Check.due("refuses: the lease is over", ended.stateOf(0), 0);
        Check.due("refuses: the lease is over, shutSoFar", ended.shutSoFar(), 0);
        refusesAnOlderYes();
    }

    // Two messages of the guest want the same room; the refusal is older than the second yes.
    private static void refusesAnOlderYes() {
        KeyLeases x = Inns.withWant();
        x.giveUp(0);
        x.seek(0);
        x.deliver(1);
        x.deliver(1);
        x.turnGhost(0);
        x.deliver(1);
        x.deliver(1);
        dueMessage("a want and then a refusal", x, 0, Inns.WANTS, 0, 0);
        dueMessage("a want and then a refusal", x, 1, Inns.REFUSES, 0, 0);
        x.keep(0);
        x.deliver(0);
        Check.due("refuses: before the second yes", x.deliver(0), Inns.REFUSES);
        dueRoom("refuses: not the lease of a later yes", x, 0, 2, 0, 60);
        Check.due("refuses: nothing is shut", x.shutSoFar(), 0);
        x.goBack(0);
        x.deliver(1);
        dueRoom("refuses: the lease of an earlier yes", x, 0, 3, 0, 50);
        x.deliver(0);
        dueMessage("wants: a room that is shut", x, 0, Inns.NO, 0, 0);
    }

    private static void deliverLeaves() {
        KeyLeases x = Inns.withGuest();
        x.leave(0);
        Check.dueUndoable("deliver leaves", x, () -> x.deliver(0), Inns.LEAVES);
        dueRoom("leaves: free", x, 0, 0, 0, 0);
        Check.due("leaves: leasedByGuests", x.leasedByGuests(), 0);
        KeyLeases ended = Inns.withGuest();
        ended.tick(50);
        ended.leave(0);
        while (ended.messages() > 1) {
            ended.lose(0);
        }
        ended.tick(10);
        Inns.house1WhileAMessageWaits(ended);
        Check.due("leaves: of a lease that is over", ended.deliver(0), Inns.LEAVES);
        dueRoom("leaves: not the lease of another", ended, 0, 2, 1, 60);
        KeyLeases renewed = Inns.withGuest();
        renewed.renew(0);
        renewed.leave(0);
        renewed.deliver(0);
        Check.due("leaves: before the second yes", renewed.deliver(0), Inns.LEAVES);
        dueRoom("leaves: not the lease of a later yes", renewed, 0, 2, 0, 60);
        KeyLeases both = Inns.withGuest();
        both.leave(0);
        both.deliver(0);
        both.seek(0);
        both.deliver(0);
        dueRoom("leaves: offered then", both, 0, 1, 0, 10);
    }

    private static void deliverPlaces() {
        KeyLeases x = new KeyLeases();
        x.seek(0);
        x.seek(1);
        x.seek(2);
        Check.dueThrows("deliver(3)", Check.NO_SUCH, x, () -> x.deliver(3));
        Check.dueThrows("deliver(-1)", Check.NO_SUCH, x, () -> x.deliver(-1));
        Check.dueThrows("deliver(60)", Check.NO_SUCH, x, () -> x.deliver(60));
        x.deliver(1);
        Check.due("deliver: the first stays", x.guestAt(0), 0);
        Check.due("deliver: the last comes up", x.guestAt(1), 2);
        Check.due("deliver: the new one is behind", x.kindAt(2), Inns.OFFERS);
        Check.due("deliver: three wait", x.messages(), 3);
        KeyLeases full = Inns.withFullRow();
        Check.due("deliver: 60 wait", full.deliver(59), Inns.SEEKS);
        Check.due("deliver: the offer finds a place", full.kindAt(59), Inns.OFFERS);
        Check.due("deliver: nothing is lost", full.lost(), 0);
    }

    // ---- promises 13 and 14

    private static void lose() {
        KeyLeases x = new KeyLeases();
        x.seek(0);
        x.seek(1);
        x.deliver(0);
        Check.dueUndoable("lose(1)", x, () -> x.lose(1), Inns.OFFERS);
        Check.due("lose: one waits", x.messages(), 1);
        Check.due("lose: the other stays", x.guestAt(0), 1);
        Check.due("lose: the guest seeks on", x.doingOf(0), 1);
        Check.due("lose: lost", x.lost(), 1);
        Check.due("lose: delivered", x.delivered(), 1);
        Check.dueThrows("lose(1)", Check.NO_SUCH, x, () -> x.lose(1));
        Check.dueThrows("lose(-1)", Check.NO_SUCH, x, () -> x.lose(-1));
        Check.due("lose(0)", x.lose(0), Inns.SEEKS);
        Check.dueThrows("lose(0)", Check.NO_SUCH, x, () -> x.lose(0));
    }

    private static void deliverAll() {
        KeyLeases x = new KeyLeases();
        Check.dueUndoable("deliverAll: none", x, () -> x.deliverAll(), 0);
        x.seek(0);
        x.seek(1);
        x.seek(2);
        Check.dueUndoable("deliverAll", x, () -> x.deliverAll(), 12);
        Check.due("deliverAll: none waits", x.messages(), 0);
        Check.due("deliverAll: housed", x.housed(), 3);
        Check.due("deliverAll: roomOf", x.roomOf(2), 2);
        KeyLeases haunted = new KeyLeases();
        haunted.turnGhost(0);
        haunted.seek(0);
        Check.due("deliverAll: with a refusal", haunted.deliverAll(), 5);
        dueRoom("deliverAll: with a refusal", haunted, 0, 3, 0, 50);
        KeyLeases full = Inns.withFullRow();
        full.seek(1);
        Check.due("deliverAll: 60 and their offers", full.deliverAll(), 120);
    }

    // ---- promise 15

    private static void tick() {
        KeyLeases x = Inns.withGuest();
        Check.dueUndoable("tick(1)", x, () -> x.tick(1), 0);
        Check.due("tick: time", x.time(), 1);
        Check.dueThrows("tick(0)", Check.BAD, x, () -> x.tick(0));
        Check.dueThrows("tick(101)", Check.BAD, x, () -> x.tick(101));
        Check.dueThrows("tick(-1)", Check.BAD, x, () -> x.tick(-1));
        x.seek(1);
        x.deliverAll();
        x.seek(2);
        x.deliverAll();
        Check.due("tick(58)", x.tick(58), 0);
        Check.due("tick: leased yet", x.ticksOf(0), 1);
        Check.due("tick: the guest has it yet", x.ticksLeft(0), 1);
        Check.dueUndoable("tick: one loses its room", x, () -> x.tick(1), 1);
        Check.due("tick: rests", x.doingOf(0), 0);
        Check.due("tick: free", x.stateOf(0), 0);
        Check.due("tick: the others have theirs", x.housed(), 2);
        Check.dueUndoable("tick(100)", x, () -> x.tick(100), 2);
        Check.due("tick: evicted", x.evicted(), 3);
        Check.due("tick: time", x.time(), 160);
        tickEndsForTheGuestFirst();
    }

    private static void tickEndsForTheGuestFirst() {
        KeyLeases x = Inns.withWant();
        x.tick(7);
        x.deliver(0);
        x.deliver(0);
        Check.due("tick: 53 are left to the guest", x.ticksLeft(0), 53);
        Check.due("tick: the guest loses it first", x.tick(53), 1);
        Check.due("tick: leased yet", x.ticksOf(0), 7);
        x.tick(7);
        Check.due("tick: free then", x.stateOf(0), 0);
    }

    private static void asksForMoreTime() {
        KeyLeases x = Inns.withGuest();
        x.changeLease(9);
        Inns.house(x, 2);
        Inns.house(x, 1);
        x.tick(3);
        Check.due("asks: not before half of 9", x.messages(), 0);
        x.tick(1);
        Check.due("asks: by their numbers", x.messages(), 2);
        dueMessage("asks: the guest 1 first", x, 0, Inns.WANTS, 1, 2);
        dueMessage("asks: the guest 2 then", x, 1, Inns.WANTS, 2, 1);
        x.tick(2);
        Check.due("asks: not between", x.messages(), 2);
        x.tick(1);
        Check.due("asks: at 7 of 9", x.messages(), 4);
        x.lose(3);
        x.lose(1);
        x.deliver(0);
        x.deliver(0);
        x.deliver(0);
        Check.due("asks: the answer to the first does not count", x.ticksLeft(1), 2);
        x.deliver(0);
        Check.due("asks: the answer to the second counts", x.ticksLeft(1), 9);
        Check.due("asks: the guest 2 loses its room", x.tick(2), 1);
        Check.due("asks: who loses it", x.doingOf(2), 0);
        x.tick(1);
        Check.due("asks: the guest 1 no sooner than half of the new ticks", x.messages(), 0);
        x.tick(1);
        Check.due("asks: the guest 1 anew", x.messages(), 1);
        KeyLeases sixty = Inns.withGuest();
        sixty.tick(29);
        Check.due("asks: 29 of 60", sixty.messages(), 0);
        sixty.tick(1);
        Check.due("asks: 30 of 60", sixty.messages(), 1);
        sixty.tick(21);
        Check.due("asks: 51 of 60", sixty.messages(), 1);
        sixty.tick(1);
        Check.due("asks: 52 of 60", sixty.messages(), 2);
        sixty.tick(7);
        Check.due("asks: 59 of 60", sixty.messages(), 2);
        KeyLeases full = Inns.withGuest();
        Inns.fill(full, 1);
        full.tick(30);
        Check.due("asks: 60 wait", full.lost(), 1);
        Check.due("asks: 60 wait: sent", full.sent(Inns.WANTS), 2);
    }

    // ---- promises 16 to 19

    private static void append() {
        KeyLeases x = new KeyLeases();
        Check.due("append(33)", x.append(33), 1);
        Check.due("append(126)", x.append(126), 2);
        Check.due("append: not undoable", x.savedStates(), 0);
        Check.dueThrows("append(32)", Check.BAD, x, () -> x.append(32));
        Check.dueThrows("append(127)", Check.BAD, x, () -> x.append(127));
        Check.dueThrows("append(-1)", Check.BAD, x, () -> x.append(-1));
        Check.dueThrows("append(s + 65536)", Check.BAD, x, () -> x.append('s' + 65536));
        for (int length = 3; length <= 60; length++) {
            Check.due("append", x.append('s'), length);
        }
        Check.dueThrows("append: 60 are there", Check.NOT_NOW, x, () -> x.append('s'));
        Check.dueThrows("append: 60 are there, and a wrong code", Check.BAD, x, () -> x.append(32));
        Check.due("append: 60 are there", x.clearBuffer(), 60);
    }

    private static void clearBuffer() {
        KeyLeases x = new KeyLeases();
        Check.dueStill("clearBuffer: empty", x, () -> x.clearBuffer(), 0);
        Inns.type(x, "s0;t5");
        Check.due("clearBuffer", x.clearBuffer(), 5);
        Check.due("clearBuffer: not undoable", x.savedStates(), 0);
        Check.due("clearBuffer: again", x.clearBuffer(), 0);
        Check.due("clearBuffer: append", x.append('t'), 1);
    }

    private static void firstError() {
        dueError("", 0);
        String[] fine = {"s", "s0", "s1", "s10", "s11", "s9", "g11", "r0", "d0", "d59", "d5", "d6", "x50", "x9", "t1",
            "t10", "t100", "t99", "t", "t9;", "s0;g1;r2;d3;x4;t5", "s1;s1;s1;"};
        for (String text : fine) {
            dueError(text, text.length());
        }
        dueError("a", 0);
        dueError("S0", 0);
        dueError(";", 0);
        dueError("0", 0);
        dueError("s;", 1);
        dueError("ss", 1);
        dueError("s-", 1);
        dueError("s/", 1);
        dueError("s:", 1);
        dueError("s12", 2);
        dueError("s20", 2);
        dueError("g00", 2);
        dueError("r01", 2);
        dueError("r110", 3);
        dueError("s1g", 2);
        dueError("d60", 2);
        dueError("d599", 3);
        dueError("x01", 2);
        dueError("x70", 2);
        dueError("t0", 1);
        dueError("t101", 3);
        dueError("t110", 3);
        dueError("t1000", 4);
        dueError("t200", 3);
        dueError("s0;;", 3);
        dueError("s0;1", 3);
        dueError("s0;t5,", 5);
        dueError("s0;q5;;;", 3);
        dueError("s0~", 2);
        dueError(Inns.LONGEST, 60);
        dueError(Inns.LONGEST.substring(0, 59) + "s", 59);
    }

    private static void dueError(String text, int place) {
        KeyLeases x = new KeyLeases();
        Inns.type(x, text);
        Check.dueStill("firstError of " + text, x, () -> x.firstError(), place);
    }

    private static void play() {
        KeyLeases x = new KeyLeases();
        Inns.type(x, "s0;d0;d0;d0;d0;s11;t5");
        x.keep(0);
        Check.due("play", x.play(), 1);
        Check.due("play: undoable, as one call", x.savedStates(), 1);
        Check.due("play: the buffer is cleared", x.clearBuffer(), 0);
        Check.due("play: has", x.ticksLeft(0), 55);
        Check.due("play: seeks", x.doingOf(11), 1);
        Inns.type(x, "r0;x1;g0");
        Check.due("play: asks, loses and leaves", x.play(), 0);
        Check.due("play: messages", x.messages(), 2);
        Check.due("play: seeks yet", x.kindAt(0), Inns.SEEKS);
        dueMessage("play: leaves", x, 1, Inns.LEAVES, 0, 0);
        Check.due("play: sent", x.sent(Inns.WANTS), 2);
        Check.due("play: lost", x.lost(), 1);
        Inns.type(x, "x0");
        x.undo();
        Check.due("play: behind undo", x.ticksLeft(0), 55);
        Check.due("play: undo leaves the buffer", x.clearBuffer(), 2);
        x.undo();
        Check.due("play: behind undo", x.time(), 0);
        playAloneFromNow();
        String[] noCourse = {"", "s", "s0;", "t", "s0;t", "s12", "t101", "a", "s0;;s1", "s1!"};
        for (String text : noCourse) {
            Inns.type(x, text);
            Check.dueThrows("play: " + text, Check.BAD, x, () -> x.play());
        }
        String[] impossible = {"s0;s0", "g0", "r0", "d0", "x0", "s0;d1", "s0;x1", "s0;d0;d0;d0;d0;s0", "s0;d59",
            "s0;t100;g0", "s0;d0;d0;g0", "s0;d0;d0;r0", "s0;d0;d0;d0;d0;t60;g0", "t100;s0;x0;x0",
            "g0;s0", "d0;t1", "s0;s0;t5", "s0;r0;x0;t5"};
        for (String text : impossible) {
            Inns.type(x, text);
            Check.dueThrows("play: " + text, Check.NOT_NOW, x, () -> x.play());
        }
        Inns.type(x, "d0;d0;;");
        Check.dueThrows("play: the first exception", Check.BAD, x, () -> x.play());
        Inns.type(x, "s0;s1;s2;s3;s4;s5;s6;s7;s8;s9;s10;s11;t1;t10;t100;d11;x11;d0");
        Check.due("play: a long one", x.play(), 0);
        Check.due("play: a long one, time", x.time(), 111);
        dueMessage("play: a long one, the last", x, 10, Inns.OFFERS, 0, 1);
    }

    // No call before has tried anything out.
    private static void playAloneFromNow() {
        KeyLeases x = Inns.withGuest();
        x.tick(30);
        Inns.type(x, "t1;r0");
        Check.due("play: from the state of now on", x.play(), 1);
        Check.due("play: the time of before goes on", x.time(), 31);
        Check.due("play: two wants", x.messages(), 2);
        KeyLeases leaving = Inns.withGuest();
        Inns.type(leaving, "g0;d0");
        leaving.play();
        Check.due("play: the numbers go on, so the room is free", leaving.stateOf(0), 0);
    }

    // ---- promises 20 to 23

    private static void keepAndGoBack() {
        KeyLeases x = Inns.withGuest();
        x.reserve(3, 3);
        int saved = x.savedStates();
        x.keep(1);
        Check.due("keep: not undoable", x.savedStates(), saved);
        Check.dueThrows("keep(2)", Check.BAD, x, () -> x.keep(2));
        Check.dueThrows("keep(-1)", Check.BAD, x, () -> x.keep(-1));
        Check.dueThrows("goBack(2)", Check.BAD, x, () -> x.goBack(2));
        Check.dueThrows("goBack(-1)", Check.BAD, x, () -> x.goBack(-1));
        Check.dueThrows("goBack(0): none", Check.NOT_NOW, x, () -> x.goBack(0));
        x.turnGhost(5);
        x.changeLease(33);
        x.changeHold(44);
        x.changeShut(55);
        x.unreserve(3);
        x.leave(0);
        x.tick(7);
        x.keep(0);
        Inns.type(x, "s1");
        Check.dueUndoable("goBack(1)", x, () -> { x.goBack(1); return x.time(); }, 0);
        Check.due("goBack: has", x.ticksLeft(0), 60);
        Check.due("goBack: reservedFor", x.reservedFor(3), 3);
        Check.due("goBack: hasGhost", x.hasGhost(5), false);
        Check.due("goBack: leaseTicks", x.leaseTicks(), 60);
        Check.due("goBack: holdTicks", x.holdTicks(), 10);
        Check.due("goBack: shutTicks", x.shutTicks(), 50);
        Check.due("goBack: messages", x.messages(), 0);
        Check.due("goBack: the buffer stays", x.clearBuffer(), 2);
        x.goBack(0);
        Check.due("goBack(0): time", x.time(), 7);
        Check.due("goBack(0): a leaving waits", x.kindAt(0), Inns.LEAVES);
        x.tick(9);
        x.goBack(0);
        Check.due("goBack: the snapshot stays", x.time(), 7);
        x.tick(1);
        x.keep(0);
        x.tick(1);
        x.goBack(0);
        Check.due("keep: in place of the one before", x.time(), 8);
        x.undo();
        x.goBack(1);
        Check.due("undo: the slots stay", x.time(), 0);
        keepLeavesSlotsInDigest();
    }

    private static void keepLeavesSlotsInDigest() {
        KeyLeases x = new KeyLeases();
        long none = x.digest();
        x.keep(0);
        long first = x.digest();
        KeyLeases y = new KeyLeases();
        y.keep(1);
        Check.due("keep: another digest", first != none, true);
        Check.due("keep: by slots", y.digest() != first, true);
    }

    private static void undo() {
        KeyLeases x = new KeyLeases();
        Check.dueThrows("undo: none", Check.NOT_NOW, x, () -> x.undo());
        for (int i = 1; i <= 8; i++) {
            x.tick(i);
            Check.due("savedStates", x.savedStates(), Math.min(i, 6));
        }
        Check.due("undo: time", x.time(), 36);
        int time = 36;
        for (int i = 8; i >= 3; i--) {
            x.undo();
            time -= i;
            Check.due("undo: time", x.time(), time);
            Check.due("undo: savedStates", x.savedStates(), i - 3);
        }
        Check.dueThrows("undo: the older ones are dropped", Check.NOT_NOW, x, () -> x.undo());
        x.deliverAll();
        Check.due("undo: also if it changes nothing", x.savedStates(), 1);
        undoBringsBackWhatIsNotSeen();
    }

    // What a yes tells, what a guest remembers of its want, and the next number are seen only by what follows.
    private static void undoBringsBackWhatIsNotSeen() {
        KeyLeases x = Inns.withGuest();
        x.tick(4);
        x.renew(0);
        x.deliver(0);
        x.tick(2);
        x.renew(0);
        x.changeLease(8);
        x.lose(0);
        x.deliver(0);
        x.deliver(0);
        Check.due("undo: the later yes came", x.ticksLeft(0), 8);
        for (int i = 0; i < 6; i++) {
            x.undo();
        }
        Check.due("undo: the earlier yes waits", x.kindAt(0), Inns.YES);
        Check.due("undo: the ticks began with the stay", x.ticksToRenewal(0), 26);
        x.tick(1);
        x.deliver(0);
        Check.due("undo: the latest want is the older one again", x.ticksLeft(0), 59);
        Check.due("undo: asks 30 ticks behind that", x.ticksToRenewal(0), 29);
        x.tick(29);
        Check.due("undo: asks then", x.messages(), 1);
    }

    // ---- promises 24 to 30

    private static void doingOf() {
        KeyLeases x = new KeyLeases();
        x.seek(1);
        Check.dueStill("doingOf: seeks", x, () -> x.doingOf(1), 1);
        x.deliver(0);
        Check.due("doingOf: seeks yet", x.doingOf(1), 1);
        x.deliver(0);
        Check.dueStill("doingOf: wants", x, () -> x.doingOf(1), 2);
        x.deliver(0);
        Check.due("doingOf: wants yet", x.doingOf(1), 2);
        x.deliver(0);
        Check.dueStill("doingOf: has", x, () -> x.doingOf(1), 3);
        Check.dueStill("doingOf: rests", x, () -> x.doingOf(0), 0);
        Check.dueThrows("doingOf(12)", Check.NO_SUCH, x, () -> x.doingOf(12));
        Check.dueThrows("doingOf(-1)", Check.NO_SUCH, x, () -> x.doingOf(-1));
    }

    private static void roomOf() {
        KeyLeases x = Inns.withWant();
        Check.dueStill("roomOf: wants", x, () -> x.roomOf(0), 0);
        x.deliverAll();
        Check.dueStill("roomOf: has", x, () -> x.roomOf(0), 0);
        x.seek(1);
        Check.dueThrows("roomOf: seeks", Check.NOT_NOW, x, () -> x.roomOf(1));
        Check.dueThrows("roomOf: rests", Check.NOT_NOW, x, () -> x.roomOf(2));
        x.deliver(0);
        x.deliver(0);
        Check.due("roomOf: another", x.roomOf(1), 1);
        x.leave(0);
        Check.dueThrows("roomOf: has left", Check.NOT_NOW, x, () -> x.roomOf(0));
        Check.dueThrows("roomOf(12)", Check.NO_SUCH, x, () -> x.roomOf(12));
        Check.dueThrows("roomOf(-1)", Check.NO_SUCH, x, () -> x.roomOf(-1));
    }

    private static void ticksLeft() {
        KeyLeases x = Inns.withGuest();
        Check.dueStill("ticksLeft", x, () -> x.ticksLeft(0), 60);
        x.tick(59);
        Check.dueStill("ticksLeft: the last", x, () -> x.ticksLeft(0), 1);
        x.tick(1);
        Check.dueThrows("ticksLeft: rests", Check.NOT_NOW, x, () -> x.ticksLeft(0));
        x.seek(1);
        Check.dueThrows("ticksLeft: seeks", Check.NOT_NOW, x, () -> x.ticksLeft(1));
        KeyLeases wanting = Inns.withWant();
        Check.dueThrows("ticksLeft: wants", Check.NOT_NOW, wanting, () -> wanting.ticksLeft(0));
        Check.dueThrows("ticksLeft(12)", Check.NO_SUCH, x, () -> x.ticksLeft(12));
        Check.dueThrows("ticksLeft(-1)", Check.NO_SUCH, x, () -> x.ticksLeft(-1));
    }

    private static void ticksToRenewal() {
        KeyLeases x = Inns.withGuest();
        Check.dueStill("ticksToRenewal", x, () -> x.ticksToRenewal(0), 30);
        x.tick(29);
        Check.due("ticksToRenewal: in the next tick", x.ticksToRenewal(0), 1);
        x.tick(1);
        Check.due("ticksToRenewal: the second time", x.ticksToRenewal(0), 22);
        x.tick(21);
        Check.due("ticksToRenewal: in the next tick", x.ticksToRenewal(0), 1);
        x.tick(1);
        Check.dueThrows("ticksToRenewal: not any more", Check.NOT_NOW, x, () -> x.ticksToRenewal(0));
        Check.dueThrows("ticksToRenewal: rests", Check.NOT_NOW, x, () -> x.ticksToRenewal(1));
        Check.dueThrows("ticksToRenewal(12)", Check.NO_SUCH, x, () -> x.ticksToRenewal(12));
        Check.dueThrows("ticksToRenewal(-1)", Check.NO_SUCH, x, () -> x.ticksToRenewal(-1));
        KeyLeases least = new KeyLeases();
        least.changeLease(8);
        Inns.house(least, 0);
        Check.due("ticksToRenewal: 4 of 8", least.ticksToRenewal(0), 4);
        least.tick(4);
        Check.due("ticksToRenewal: 7 of 8", least.ticksToRenewal(0), 3);
        KeyLeases odd = new KeyLeases();
        odd.changeLease(199);
        Inns.house(odd, 0);
        Check.due("ticksToRenewal: 99 of 199", odd.ticksToRenewal(0), 99);
        odd.tick(99);
        Check.due("ticksToRenewal: 174 of 199", odd.ticksToRenewal(0), 75);
        KeyLeases wanting = Inns.withWant();
        Check.dueThrows("ticksToRenewal: wants", Check.NOT_NOW, wanting, () -> wanting.ticksToRenewal(0));
        wanting.deliver(0);
        wanting.tick(30);
        wanting.deliver(0);
        Check.due("ticksToRenewal: half is over as the yes comes", wanting.ticksToRenewal(0), 22);
    }

    private static void isHaunted() {
        KeyLeases x = Inns.withWant();
        x.turnGhost(0);
        Check.due("isHaunted: wants", x.isHaunted(0), false);
        x.turnGhost(0);
        x.deliverAll();
        Check.due("isHaunted: no ghost", x.isHaunted(0), false);
        x.turnGhost(0);
        Check.dueStill("isHaunted", x, () -> x.isHaunted(0) ? 1 : 0, 1);
        Check.due("isHaunted: another", x.isHaunted(1), false);
        x.leave(0);
        Check.due("isHaunted: rests", x.isHaunted(0), false);
        Check.dueThrows("isHaunted(12)", Check.NO_SUCH, x, () -> x.isHaunted(12));
        Check.dueThrows("isHaunted(-1)", Check.NO_SUCH, x, () -> x.isHaunted(-1));
    }

    private static void staysOf() {
        KeyLeases x = Inns.withGuest();
        Check.dueStill("staysOf", x, () -> x.staysOf(0), 1);
        x.renew(0);
        x.deliverAll();
        Check.due("staysOf: more time", x.staysOf(0), 1);
        x.leave(0);
        x.deliverAll();
        Check.due("staysOf: left", x.staysOf(0), 1);
        Inns.house(x, 0);
        Check.due("staysOf: again", x.staysOf(0), 2);
        Check.due("staysOf: another", x.staysOf(11), 0);
        Check.dueThrows("staysOf(12)", Check.NO_SUCH, x, () -> x.staysOf(12));
        Check.dueThrows("staysOf(-1)", Check.NO_SUCH, x, () -> x.staysOf(-1));
    }

    private static void housed() {
        KeyLeases x = Inns.withWant();
        Check.dueStill("housed: wants", x, () -> x.housed(), 0);
        x.deliver(0);
        Check.due("housed: leased, but not told", x.housed(), 0);
        x.deliver(0);
        Inns.house(x, 11);
        Check.dueStill("housed", x, () -> x.housed(), 2);
        x.leave(0);
        Check.due("housed: one left", x.housed(), 1);
    }

    // ---- promises 31 to 36

    private static void stateOf() {
        KeyLeases x = new KeyLeases();
        x.turnGhost(0);
        x.seek(0);
        x.deliver(0);
        Check.dueStill("stateOf: offered", x, () -> x.stateOf(0), 1);
        x.deliver(0);
        x.deliver(0);
        Check.dueStill("stateOf: leased", x, () -> x.stateOf(0), 2);
        x.deliverAll();
        Check.dueStill("stateOf: shut", x, () -> x.stateOf(0), 3);
        Check.dueStill("stateOf: free", x, () -> x.stateOf(15), 0);
        Check.dueThrows("stateOf(16)", Check.NO_SUCH, x, () -> x.stateOf(16));
        Check.dueThrows("stateOf(-1)", Check.NO_SUCH, x, () -> x.stateOf(-1));
    }

    private static void guestOf() {
        KeyLeases x = new KeyLeases();
        x.turnGhost(0);
        x.seek(7);
        x.deliver(0);
        Check.dueStill("guestOf: offered", x, () -> x.guestOf(0), 7);
        x.deliver(0);
        x.deliver(0);
        Check.dueStill("guestOf: leased", x, () -> x.guestOf(0), 7);
        x.deliverAll();
        Check.dueThrows("guestOf: shut", Check.NOT_NOW, x, () -> x.guestOf(0));
        Check.dueThrows("guestOf: free", Check.NOT_NOW, x, () -> x.guestOf(1));
        x.tick(50);
        Check.dueThrows("guestOf: free again", Check.NOT_NOW, x, () -> x.guestOf(0));
        Check.dueThrows("guestOf(16)", Check.NO_SUCH, x, () -> x.guestOf(16));
        Check.dueThrows("guestOf(-1)", Check.NO_SUCH, x, () -> x.guestOf(-1));
    }

    private static void ticksOf() {
        KeyLeases x = Inns.withGuest();
        x.seek(1);
        x.deliver(0);
        x.turnGhost(2);
        x.reserve(2, 2);
        x.seek(2);
        x.deliver(1);
        x.deliver(1);
        x.deliver(1);
        x.deliver(1);
        x.deliver(1);
        x.tick(4);
        Check.dueStill("ticksOf: leased", x, () -> x.ticksOf(0), 56);
        Check.dueStill("ticksOf: offered", x, () -> x.ticksOf(1), 6);
        Check.dueStill("ticksOf: shut", x, () -> x.ticksOf(2), 46);
        x.tick(5);
        Check.due("ticksOf: the last", x.ticksOf(1), 1);
        x.tick(1);
        Check.dueThrows("ticksOf: free", Check.NOT_NOW, x, () -> x.ticksOf(1));
        Check.dueThrows("ticksOf(16)", Check.NO_SUCH, x, () -> x.ticksOf(16));
        Check.dueThrows("ticksOf(-1)", Check.NO_SUCH, x, () -> x.ticksOf(-1));
    }

    private static void reservedFor() {
        KeyLeases x = new KeyLeases();
        x.reserve(11, 0);
        x.reserve(0, 15);
        Check.dueStill("reservedFor(0)", x, () -> x.reservedFor(0), 11);
        Check.dueStill("reservedFor(15)", x, () -> x.reservedFor(15), 0);
        Check.dueThrows("reservedFor: none", Check.NOT_NOW, x, () -> x.reservedFor(1));
        Check.dueThrows("reservedFor(16)", Check.NO_SUCH, x, () -> x.reservedFor(16));
        Check.dueThrows("reservedFor(-1)", Check.NO_SUCH, x, () -> x.reservedFor(-1));
        x.seek(0);
        x.deliverAll();
        Check.due("reservedFor: the guest has it", x.reservedFor(15), 0);
        x.leave(0);
        x.deliverAll();
        Check.due("reservedFor: the guest left it", x.reservedFor(15), 0);
    }

    private static void hasGhost() {
        KeyLeases x = new KeyLeases();
        Check.dueStill("hasGhost(9)", x, () -> x.hasGhost(9) ? 1 : 0, 1);
        Check.dueStill("hasGhost(0)", x, () -> x.hasGhost(0) ? 1 : 0, 0);
        Check.dueThrows("hasGhost(16)", Check.NO_SUCH, x, () -> x.hasGhost(16));
        Check.dueThrows("hasGhost(-1)", Check.NO_SUCH, x, () -> x.hasGhost(-1));
        Check.dueThrows("hasGhost(41)", Check.NO_SUCH, x, () -> x.hasGhost(41));
        x.reserve(0, 9);
        x.seek(0);
        x.deliverAll();
        Check.due("hasGhost: shut, and a ghost yet", x.hasGhost(9), true);
        Check.due("stateOf(9)", x.stateOf(9), 3);
    }

    private static void roomFor() {
        KeyLeases x = Inns.withGuest();
        Check.dueStill("roomFor", x, () -> x.roomFor(1), 1);
        Check.due("roomFor: one who has a room", x.roomFor(0), 1);
        x.seek(2);
        x.deliver(0);
        Check.dueStill("roomFor: offered", x, () -> x.roomFor(2), 1);
        Check.due("roomFor: offered to another", x.roomFor(3), 2);
        Check.dueThrows("roomFor(12)", Check.NO_SUCH, x, () -> x.roomFor(12));
        Check.dueThrows("roomFor(-1)", Check.NO_SUCH, x, () -> x.roomFor(-1));
        KeyLeases twice = new KeyLeases();
        Inns.house(twice, 0);
        Inns.house(twice, 1);
        twice.leave(0);
        twice.lose(0);
        Inns.house(twice, 0);
        twice.leave(0);
        twice.deliverAll();
        twice.tick(60);
        Check.due("roomFor: the one leased last, not first", twice.roomFor(0), 2);
    }

    // ---- promises 37 to 44

    private static void leasedByRoomsAndGuests() {
        KeyLeases x = Inns.withGuest();
        Inns.house(x, 1);
        dueLeased(x, 2);
        x.renew(1);
        x.deliverAll();
        dueLeased(x, 2);
        x.leave(0);
        x.lose(0);
        dueLeased(x, 2);
        Inns.house(x, 0);
        dueLeased(x, 3);
        x.leave(0);
        x.deliverAll();
        dueLeased(x, 2);
        x.tick(60);
        dueLeased(x, 0);
        KeyLeases offered = new KeyLeases();
        offered.seek(0);
        offered.deliver(0);
        dueLeased(offered, 0);
        KeyLeases shut = new KeyLeases();
        shut.turnGhost(0);
        shut.seek(0);
        shut.deliverAll();
        dueLeased(shut, 0);
    }

    private static void dueLeased(KeyLeases x, int rooms) {
        Check.dueStill("leasedByRooms", x, () -> x.leasedByRooms(), rooms);
        Check.dueStill("leasedByGuests", x, () -> x.leasedByGuests(), rooms);
    }

    private static void freeRooms() {
        KeyLeases x = Inns.withGuest();
        x.seek(1);
        x.deliver(0);
        Check.dueStill("freeRooms", x, () -> x.freeRooms(), 14);
        x.turnGhost(2);
        x.seek(2);
        x.deliver(1);
        x.deliver(1);
        x.deliver(1);
        x.deliver(1);
        x.deliver(1);
        Check.due("freeRooms: one is shut", x.freeRooms(), 13);
        x.tick(60);
        Check.due("freeRooms: all", x.freeRooms(), 16);
    }

    private static void nextFree() {
        KeyLeases x = new KeyLeases();
        Check.dueThrows("nextFreeByRooms", Check.NOT_NOW, x, () -> x.nextFreeByRooms());
        Check.dueThrows("nextFreeByTicks", Check.NOT_NOW, x, () -> x.nextFreeByTicks());
        x.changeLease(200);
        Inns.house(x, 0);
        dueNextFree(x, 200);
        x.tick(1);
        dueNextFree(x, 199);
        x.seek(1);
        x.deliver(0);
        dueNextFree(x, 10);
        x.tick(9);
        dueNextFree(x, 1);
        x.tick(1);
        dueNextFree(x, 189);
        KeyLeases shut = new KeyLeases();
        shut.turnGhost(0);
        shut.changeShut(200);
        shut.seek(0);
        shut.deliverAll();
        dueNextFree(shut, 200);
    }

    private static void dueNextFree(KeyLeases x, int ticks) {
        Check.dueStill("nextFreeByRooms", x, () -> x.nextFreeByRooms(), ticks);
        Check.dueStill("nextFreeByTicks", x, () -> x.nextFreeByTicks(), ticks);
    }

    private static void lengths() {
        KeyLeases x = new KeyLeases();
        x.changeLease(11);
        x.changeHold(12);
        x.changeShut(13);
        Check.dueStill("leaseTicks", x, () -> x.leaseTicks(), 11);
        Check.dueStill("holdTicks", x, () -> x.holdTicks(), 12);
        Check.dueStill("shutTicks", x, () -> x.shutTicks(), 13);
        x.undo();
        Check.due("shutTicks: behind undo", x.shutTicks(), 50);
    }

    // ---- promises 45 to 48

    private static void messagesAsTheyAre() {
        KeyLeases x = new KeyLeases();
        Check.dueThrows("kindAt: none", Check.NO_SUCH, x, () -> x.kindAt(0));
        Check.dueThrows("guestAt: none", Check.NO_SUCH, x, () -> x.guestAt(0));
        Check.dueThrows("roomAt: none", Check.NO_SUCH, x, () -> x.roomAt(0));
        x.reserve(6, 14);
        x.seek(6);
        x.seek(7);
        x.deliver(0);
        Check.dueStill("messages", x, () -> x.messages(), 2);
        Check.dueStill("kindAt(0)", x, () -> x.kindAt(0), Inns.SEEKS);
        Check.dueStill("kindAt(1)", x, () -> x.kindAt(1), Inns.OFFERS);
        Check.dueStill("guestAt(0)", x, () -> x.guestAt(0), 7);
        Check.dueStill("guestAt(1)", x, () -> x.guestAt(1), 6);
        Check.dueStill("roomAt(1)", x, () -> x.roomAt(1), 14);
        Check.dueThrows("roomAt: seeks", Check.NOT_NOW, x, () -> x.roomAt(0));
        for (int place : new int[] {2, -1, 60, Integer.MAX_VALUE, Integer.MIN_VALUE}) {
            Check.dueThrows("kindAt", Check.NO_SUCH, x, () -> x.kindAt(place));
            Check.dueThrows("guestAt", Check.NO_SUCH, x, () -> x.guestAt(place));
            Check.dueThrows("roomAt", Check.NO_SUCH, x, () -> x.roomAt(place));
        }
        KeyLeases full = Inns.withFullRow();
        Check.dueStill("messages: 60", full, () -> full.messages(), 60);
        Check.due("kindAt(59)", full.kindAt(59), Inns.SEEKS);
        Check.dueThrows("kindAt(60)", Check.NO_SUCH, full, () -> full.kindAt(60));
    }

    // ---- promises 49 to 58

    private static void time() {
        KeyLeases x = new KeyLeases();
        Check.dueStill("time", x, () -> x.time(), 0);
        x.tick(100);
        x.tick(23);
        Check.dueStill("time", x, () -> x.time(), 123);
    }

    private static void sent() {
        KeyLeases x = new KeyLeases();
        x.turnGhost(0);
        x.seek(0);
        x.deliverAll();
        x.turnGhost(0);
        x.seek(1);
        x.deliverAll();
        x.renew(1);
        x.leave(1);
        x.deliverAll();
        x.seek(2);
        x.deliver(0);
        x.deliver(0);
        x.tick(10);
        x.deliverAll();
        int[] want = {3, 3, 4, 3, 1, 1, 1};
        for (int kind = 0; kind < 7; kind++) {
            int each = kind;
            Check.dueStill("sent(" + kind + ")", x, () -> x.sent(each), want[kind]);
        }
        x.seek(3);
        x.lose(0);
        Check.due("sent: lost later", x.sent(Inns.SEEKS), 4);
        Check.dueThrows("sent(7)", Check.BAD, x, () -> x.sent(7));
        Check.dueThrows("sent(-1)", Check.BAD, x, () -> x.sent(-1));
    }

    private static void lost() {
        KeyLeases x = Inns.withFullRow();
        Check.dueStill("lost: none", x, () -> x.lost(), 0);
        x.seek(1);
        Check.dueStill("lost: no place", x, () -> x.lost(), 1);
        x.lose(59);
        Check.dueStill("lost: by lose()", x, () -> x.lost(), 2);
        x.seek(2);
        Check.due("lost: a place", x.lost(), 2);
        x.giveUp(2);
        x.seek(2);
        Check.due("lost: no place again", x.lost(), 3);
    }

    private static void delivered() {
        KeyLeases x = new KeyLeases();
        x.seek(0);
        x.deliver(0);
        Check.dueStill("delivered", x, () -> x.delivered(), 1);
        x.deliverAll();
        Check.dueStill("delivered", x, () -> x.delivered(), 4);
        x.seek(1);
        x.lose(0);
        Check.due("delivered: not the lost ones", x.delivered(), 4);
        Inns.type(x, "s2;d0");
        x.play();
        Check.due("delivered: by play()", x.delivered(), 5);
    }

    private static void leases() {
        KeyLeases x = Inns.withWant();
        Check.dueStill("leases: none", x, () -> x.leases(), 0);
        x.deliver(0);
        Check.dueStill("leases: given, but not told", x, () -> x.leases(), 1);
        x.lose(0);
        x.giveUp(0);
        Check.due("leases: the yes is lost", x.leases(), 1);
        Inns.house(x, 1);
        x.renew(1);
        x.deliverAll();
        Check.due("leases: more time", x.leases(), 3);
        KeyLeases late = Inns.withWant();
        late.tick(10);
        late.deliverAll();
        Check.due("leases: a no", late.leases(), 0);
    }

    private static void evicted() {
        KeyLeases x = Inns.withGuest();
        Inns.house(x, 1);
        x.tick(59);
        Check.dueStill("evicted: none", x, () -> x.evicted(), 0);
        x.leave(1);
        x.tick(1);
        Check.dueStill("evicted: one, as the other left", x, () -> x.evicted(), 1);
        x.tick(100);
        Check.due("evicted: no more", x.evicted(), 1);
    }

    private static void shutSoFar() {
        KeyLeases x = new KeyLeases();
        x.turnGhost(0);
        x.seek(0);
        x.deliverAll();
        Check.dueStill("shutSoFar", x, () -> x.shutSoFar(), 1);
        x.tick(50);
        Check.due("shutSoFar: free again", x.shutSoFar(), 1);
        x.seek(0);
        x.deliverAll();
        Check.due("shutSoFar: again", x.shutSoFar(), 2);
    }

    private static void wouldDeliver() {
        KeyLeases x = new KeyLeases();
        Check.dueStill("wouldDeliver: none", x, () -> x.wouldDeliver(), 0);
        x.seek(0);
        x.seek(1);
        Check.dueStill("wouldDeliver", x, () -> x.wouldDeliver(), 8);
        x.turnGhost(1);
        Check.dueStill("wouldDeliver: with a refusal", x, () -> x.wouldDeliver(), 9);
        Check.due("deliverAll: as many", x.deliverAll(), 9);
        Check.due("wouldDeliver: none then", x.wouldDeliver(), 0);
    }

    private static void wouldHouse() {
        KeyLeases fresh = new KeyLeases();
        fresh.seek(0);
        Check.due("wouldHouse: the first call of all", fresh.wouldHouse(), 1);
        KeyLeases x = Inns.withGuest();
        Check.dueStill("wouldHouse: as it is", x, () -> x.wouldHouse(), 1);
        x.seek(1);
        x.seek(2);
        Check.dueStill("wouldHouse", x, () -> x.wouldHouse(), 3);
        x.turnGhost(2);
        Check.dueStill("wouldHouse: with a refusal", x, () -> x.wouldHouse(), 2);
        Check.due("wouldHouse: housed", x.housed(), 1);
    }

    private static void leasedShare() {
        KeyLeases x = new KeyLeases();
        Check.due("leasedShare: none", x.leasedShare() == 0.0, true);
        for (int leased = 1; leased <= 16; leased++) {
            if (leased > 12) {
                x.leave(leased - 13);
                x.lose(0);
            }
            x.turnGhost(9);
            Inns.house(x, leased > 12 ? leased - 13 : leased - 1);
            x.turnGhost(9);
            Check.due("leasedShare of " + leased, x.leasedShare() == leased / 16.0, true);
            Check.due("digest of " + leased, x.digest(), Digest.of(x, new boolean[2], ""));
        }
    }

    // ---- promise 59

    private static void digest() {
        KeyLeases x = new KeyLeases();
        boolean[] slotTaken = new boolean[2];
        dueDigest("new", x, slotTaken, "");
        x.tick(3);
        x.reserve(4, 0);
        x.reserve(7, 12);
        x.turnGhost(1);
        x.seek(7);
        x.seek(2);
        x.seek(4);
        x.deliverAll();
        x.tick(5);
        x.renew(7);
        x.deliver(0);
        x.leave(4);
        x.seek(0);
        x.seek(5);
        x.deliver(2);
        x.deliver(2);
        x.deliver(2);
        dueDigest("with messages", x, slotTaken, "");
        x.lose(1);
        x.changeLease(99);
        x.changeHold(9);
        x.changeShut(190);
        x.keep(1);
        slotTaken[1] = true;
        Inns.type(x, "s0;t?~!");
        dueDigest("with a snapshot and a buffer", x, slotTaken, "s0;t?~!");
        x.keep(0);
        slotTaken[0] = true;
        x.undo();
        x.tick(35);
        dueDigest("behind undo", x, slotTaken, "s0;t?~!");
        Inns.type(x, Inns.LONGEST);
        dueDigest("with a full buffer", x, slotTaken, Inns.LONGEST);
        KeyLeases full = Inns.withFullRow();
        full.seek(11);
        dueDigest("60 wait", full, new boolean[2], "");
        Check.dueThrows("digest: saves nothing", Check.NO_SUCH, full, () -> full.deliver(60));
    }

    private static void dueDigest(String what, KeyLeases x, boolean[] slotTaken, String buffer) {
        Check.due("digest: " + what, x.digest(), Digest.of(x, slotTaken, buffer));
    }
}
