/** Answers at the edges of their time: wants, yes, no, refusals and leavings that come just in time, or too late. */
final class AnswerBoundaries {
    private static final String WANTS = "- wants: if the room is offered or leased to this guest, it is leased to the"
        + " guest until the time and the ticks of a lease, together, as they are then (but not less long than it was"
        + " leased to the guest already), and a yes is sent that tells these ticks; otherwise a no is sent.";
    private static final String COUNTS = "it counts only if it is the answer to the latest message of the guest that"
        + " wanted a room, and the guest wants or has this room";
    private static final String REFUSES = "- refuses: if the room is leased to this guest, and the latest yes of that"
        + " lease has a lesser number than this message, it is shut until the time and the shutting time, together;"
        + " otherwise nothing happens.";
    private static final String LEAVES = "- leaves: if the room is leased to this guest, and the latest yes of that"
        + " lease has a lesser number than this message, it is free; otherwise nothing happens.";
    private static final int[] LEASES = {8, 60, 200};

    private AnswerBoundaries() {
    }

    static void all() {
        wantsAsTheOfferEnds();
        wantsAsTheLeaseEnds();
        wantsNotLessLong();
        wantsByTheTicksThen();
        wantsARoomThatIsNotTheGuests();
        yesTellsTheTicksOfItsSending();
        yesThatIsOver();
        yesBeginsWithTheWant();
        yesToAnOlderWant();
        yesToOneWhoRestsOrSeeks();
        yesInAHauntedRoom();
        yesThatIsSooner();
        noToTheLatestWant();
        noToAnOlderWant();
        noToOneWhoRestsOrSeeks();
        refusesAsTheLeaseEnds();
        refusesByNumbers();
        leavesAsTheLeaseEnds();
        leavesByNumbers();
        lostMessagesAreNumbered();
    }

    private static void tick(KeyLeases x, int ticks) {
        for (int i = 0; i < ticks; i++) {
            x.tick(1);
        }
    }

    // ---- wants

    private static void wantsAsTheOfferEnds() {
        Doc.says(Doc.TERMS, WANTS);
        for (int ticks : new int[] {9, 10, 11}) {
            KeyLeases x = Inns.withWant();
            tick(x, ticks);
            x.deliver(0);
            Check.due("the answer behind " + ticks, x.kindAt(0), ticks < 10 ? Inns.YES : Inns.NO);
            Check.due("stateOf behind " + ticks, x.stateOf(0), ticks < 10 ? Inns.LEASED : Inns.FREE);
            Check.due("leases behind " + ticks, x.leases(), ticks < 10 ? 1 : 0);
        }
    }

    // The guest has asked in the last tick; the message comes in it, or as it is over.
    private static void wantsAsTheLeaseEnds() {
        Doc.says(Doc.TERMS, WANTS);
        for (int ticks : new int[] {0, 1}) {
            KeyLeases x = Inns.withGuest();
            tick(x, 59);
            Inns.loseAll(x);
            x.renew(0);
            tick(x, ticks);
            x.deliver(0);
            Check.due("the answer", x.kindAt(0), ticks == 0 ? Inns.YES : Inns.NO);
            Check.due("leasedByRooms", x.leasedByRooms(), 1 - ticks);
            x.deliver(0);
            Check.due("what the guest does", x.doingOf(0), ticks == 0 ? 3 : 0);
        }
    }

    // With 9, 8 and 7 ticks left, more time of 8 ticks is less long, as long, and longer.
    private static void wantsNotLessLong() {
        Doc.says(Doc.TERMS, WANTS);
        for (int left = 9; left >= 7; left--) {
            KeyLeases x = Inns.withGuest();
            x.changeLease(8);
            tick(x, 60 - left);
            Inns.loseAll(x);
            x.renew(0);
            x.deliver(0);
            Check.due("a yes as " + left + " are left", x.kindAt(0), Inns.YES);
            Check.due("ticksOf as " + left + " are left", x.ticksOf(0), Math.max(left, 8));
            x.deliver(0);
            Check.due("ticksLeft as " + left + " are left", x.ticksLeft(0), 8);
            Check.due("leasedByGuests", x.leasedByGuests(), 1);
        }
    }

    private static void wantsByTheTicksThen() {
        Doc.says(Doc.TERMS, WANTS);
        for (int lease : new int[] {8, 200}) {
            KeyLeases x = Inns.withWant();
            x.changeLease(lease);
            x.deliver(0);
            Check.due("ticksOf", x.ticksOf(0), lease);
            tick(x, lease - 1);
            Check.due("stateOf in the last tick", x.stateOf(0), Inns.LEASED);
            x.tick(1);
            Check.due("stateOf then", x.stateOf(0), Inns.FREE);
        }
    }

    private static void wantsARoomThatIsNotTheGuests() {
        Doc.says(Doc.TERMS, WANTS);
        KeyLeases x = Inns.withWant();
        x.tick(10);
        dueNo("free", x);
        x.seek(1);
        x.deliver(x.messages() - 1);
        dueNo("offered to another", x);
        x.deliver(x.messages() - 1);
        x.deliver(x.messages() - 1);
        dueNo("leased to another", x);
        x.turnGhost(0);
        x.deliver(x.messages() - 1);
        x.deliver(x.messages() - 1);
        Check.due("it is shut", x.stateOf(0), Inns.SHUT);
        dueNo("shut", x);
    }

    /** The want at the place 0 would bring a no, and change nothing for the rooms; it waits on. */
    private static void dueNo(String what, KeyLeases x) {
        int state = x.stateOf(0);
        x.deliver(0);
        Check.due(what + ": kindAt", x.kindAt(x.messages() - 1), Inns.NO);
        Check.due(what + ": guestAt", x.guestAt(x.messages() - 1), 0);
        Check.due(what + ": roomAt", x.roomAt(x.messages() - 1), 0);
        Check.due(what + ": stateOf", x.stateOf(0), state);
        x.undo();
        Check.due(what + ": the want waits", x.kindAt(0), Inns.WANTS);
    }

    // ---- yes

    private static void yesTellsTheTicksOfItsSending() {
        Doc.says(Doc.TERMS, "a yes also tells how many ticks the lease has.");
        int[][] lengths = {{8, 200}, {200, 8}, {8, 9}, {200, 199}};
        for (int[] each : lengths) {
            KeyLeases x = Inns.withWant();
            x.changeLease(each[0]);
            x.deliver(0);
            x.changeLease(each[1]);
            x.deliver(0);
            Check.due("ticksLeft", x.ticksLeft(0), each[0]);
        }
        KeyLeases longer = Inns.withGuest();
        longer.changeLease(8);
        longer.renew(0);
        longer.deliverAll();
        Check.due("where the room stays leased longer: ticksLeft", longer.ticksLeft(0), 8);
        Check.due("where the room stays leased longer: ticksOf", longer.ticksOf(0), 60);
    }

    private static void yesThatIsOver() {
        Doc.says(Doc.TERMS, "If they are over already, the guest rests.");
        for (int lease : LEASES) {
            for (int late = -1; late <= 1; late++) {
                KeyLeases x = Inns.withWant();
                x.changeLease(lease);
                x.deliver(0);
                tick(x, lease + late);
                x.deliver(0);
                Check.due("late by " + late + ": doingOf", x.doingOf(0), late < 0 ? 3 : 0);
                Check.due("late by " + late + ": staysOf", x.staysOf(0), late < 0 ? 1 : 0);
                Check.due("late by " + late + ": evicted", x.evicted(), 0);
                Check.due("late by " + late + ": messages", x.messages(), 0);
                dueRenewedLate(lease, late);
            }
        }
        KeyLeases haunted = Inns.withWant();
        haunted.turnGhost(0);
        haunted.deliver(0);
        tick(haunted, 60);
        haunted.deliver(0);
        Check.due("over, and a ghost: not refused", haunted.messages(), 0);
    }

    // The guest has the room, by a lease of 200; the yes to its asking for more time comes late.
    private static void dueRenewedLate(int lease, int late) {
        if (lease + late >= 100) {
            return;
        }
        KeyLeases x = Inns.withLease(200);
        x.changeLease(lease);
        x.renew(0);
        x.deliver(0);
        tick(x, lease + late);
        x.deliver(0);
        Check.due("more time, late by " + late + ": doingOf", x.doingOf(0), late < 0 ? 3 : 0);
        Check.due("more time, late by " + late + ": evicted", x.evicted(), 0);
        if (late < 0) {
            Check.due("more time, late by " + late + ": ticksLeft", x.ticksLeft(0), 1);
        }
    }

    private static void yesBeginsWithTheWant() {
        Doc.says(Doc.TERMS, "The ticks that it tells begin when that message was sent.");
        Doc.says(Doc.TERMS, "(So they end for the guest not behind the inn.)");
        for (int before : new int[] {0, 1, 9}) {
            for (int behind : new int[] {0, 1, 20}) {
                KeyLeases x = Inns.withWant();
                tick(x, before);
                x.deliver(0);
                tick(x, behind);
                x.deliver(0);
                Check.due("ticksLeft", x.ticksLeft(0), 60 - before - behind);
                Check.due("ticksOf", x.ticksOf(0), 60 - behind);
            }
        }
    }

    private static void yesToAnOlderWant() {
        Doc.says(Doc.TERMS, "- yes: " + COUNTS);
        Doc.says(Doc.TERMS, "A yes and a no tell the number of the message that wants the room, to which they are the"
            + " answer; a yes also tells how many ticks the lease has.");
        KeyLeases x = Inns.withGuest();
        x.tick(1);
        x.renew(0);
        x.tick(1);
        x.renew(0);
        x.deliver(0);
        x.deliver(0);
        Check.due("two answers wait", x.messages(), 2);
        x.keep(0);
        x.deliver(0);
        Check.due("to the older: ticksLeft", x.ticksLeft(0), 58);
        x.deliver(0);
        Check.due("to the latest: ticksLeft", x.ticksLeft(0), 60);
        x.goBack(0);
        x.tick(1);
        x.deliver(1);
        Check.due("to the latest, first: ticksLeft", x.ticksLeft(0), 59);
        x.deliver(0);
        Check.due("to the older, then: ticksLeft", x.ticksLeft(0), 59);
    }

    private static void yesToOneWhoRestsOrSeeks() {
        Doc.says(Doc.TERMS, "- yes: " + COUNTS);
        KeyLeases x = Inns.withWant();
        x.deliver(0);
        x.giveUp(0);
        x.keep(0);
        x.deliver(0);
        Check.due("rests on", x.doingOf(0), 0);
        x.goBack(0);
        x.seek(0);
        x.deliver(0);
        Check.due("seeks on", x.doingOf(0), 1);
        Check.due("staysOf", x.staysOf(0), 0);
        KeyLeases left = Inns.withGuest();
        left.renew(0);
        left.deliver(0);
        left.leave(0);
        left.deliver(0);
        Check.due("one who left rests on", left.doingOf(0), 0);
        KeyLeases haunted = Inns.withWant();
        haunted.deliver(0);
        haunted.turnGhost(0);
        haunted.giveUp(0);
        haunted.deliver(0);
        Check.due("one who rests refuses nothing", haunted.messages(), 0);
    }

    private static void yesInAHauntedRoom() {
        Doc.says(Doc.TERMS, "Otherwise, if the guest wants the room, and there is a ghost in it, the guest refuses it,"
            + " by a message, and rests.");
        for (int room : new int[] {0, 15}) {
            KeyLeases x = new KeyLeases();
            x.reserve(0, room);
            x.seek(0);
            x.deliver(0);
            x.deliver(0);
            x.deliver(0);
            x.turnGhost(room);
            x.tick(59);
            x.deliver(0);
            Check.due("in the last tick: refused", x.kindAt(0), Inns.REFUSES);
            Check.due("roomAt", x.roomAt(0), room);
            Check.due("rests", x.doingOf(0), 0);
            Check.due("staysOf", x.staysOf(0), 0);
        }
        KeyLeases having = Inns.withGuest();
        having.turnGhost(0);
        having.renew(0);
        having.deliverAll();
        Check.due("one who has it goes on", having.isHaunted(0), true);
        Check.due("and refuses nothing", having.sent(Inns.REFUSES), 0);
    }

    private static void yesThatIsSooner() {
        Doc.says(Doc.TERMS, "Otherwise the guest has the room, or goes on to have it, until these ticks are over, also"
            + " if that is sooner than it was.");
        KeyLeases x = Inns.withLease(200);
        x.changeLease(8);
        x.renew(0);
        x.deliverAll();
        Check.due("ticksLeft", x.ticksLeft(0), 8);
        x.tick(7);
        Check.due("in the last tick", x.ticksLeft(0), 1);
        Inns.loseAll(x);
        Check.due("it loses the room", x.tick(1), 1);
        Check.due("for the inn it is leased on", x.ticksOf(0), 192);
        KeyLeases longer = Inns.withLease(8);
        longer.changeLease(200);
        longer.renew(0);
        longer.deliverAll();
        Check.due("later than it was: ticksLeft", longer.ticksLeft(0), 200);
        Check.due("later than it was: staysOf", longer.staysOf(0), 1);
    }

    // ---- no

    private static void noToTheLatestWant() {
        Doc.says(Doc.TERMS, "- no: " + COUNTS + ": then the guest rests; otherwise nothing happens.");
        KeyLeases x = Inns.withWant();
        x.tick(10);
        x.deliver(0);
        Check.due("wants yet", x.doingOf(0), 2);
        x.deliver(0);
        Check.due("rests then", x.doingOf(0), 0);
        Check.dueThrows("roomOf", Check.NOT_NOW, x, () -> x.roomOf(0));
    }

    private static void noToAnOlderWant() {
        Doc.says(Doc.TERMS, "- no: " + COUNTS + ": then the guest rests; otherwise nothing happens.");
        KeyLeases x = Inns.withWant();
        x.tick(10);
        x.deliver(0);
        x.giveUp(0);
        x.seek(0);
        x.deliver(1);
        x.deliver(1);
        Check.due("a no and a want wait", x.kindAt(0) == Inns.NO && x.kindAt(1) == Inns.WANTS, true);
        x.deliver(0);
        Check.due("to an older want: wants on", x.doingOf(0), 2);
        x.deliver(0);
        x.deliver(0);
        Check.due("the latest is answered by a yes", x.doingOf(0), 3);
    }

    private static void noToOneWhoRestsOrSeeks() {
        Doc.says(Doc.TERMS, "- no: " + COUNTS + ": then the guest rests; otherwise nothing happens.");
        KeyLeases x = Inns.withWant();
        x.tick(10);
        x.deliver(0);
        x.giveUp(0);
        x.keep(0);
        x.deliver(0);
        Check.due("rests on", x.doingOf(0), 0);
        x.goBack(0);
        x.seek(0);
        x.deliver(0);
        Check.due("seeks on", x.doingOf(0), 1);
    }

    // ---- refuses and leaves

    private static void refusesAsTheLeaseEnds() {
        Doc.says(Doc.TERMS, REFUSES);
        for (int ticks : new int[] {59, 60}) {
            KeyLeases x = Inns.withRefusal();
            tick(x, ticks);
            x.deliver(0);
            Check.due("behind " + ticks + ": stateOf", x.stateOf(0), ticks < 60 ? Inns.SHUT : Inns.FREE);
            Check.due("behind " + ticks + ": shutSoFar", x.shutSoFar(), ticks < 60 ? 1 : 0);
            Check.due("behind " + ticks + ": leasedByGuests", x.leasedByGuests(), 0);
            Check.due("behind " + ticks + ": messages", x.messages(), 0);
        }
        dueNothingToLaterLeases(Inns.withRefusal(), Inns.withRefusal());
    }

    // The message of the guest 0 at the place 0 is about a lease that is over in 60 ticks.
    private static void dueNothingToLaterLeases(KeyLeases another, KeyLeases again) {
        another.tick(60);
        if (another.hasGhost(0)) {
            another.turnGhost(0);
        }
        Inns.house1WhileAMessageWaits(another);
        another.deliver(0);
        Check.due("leased to another: stateOf", another.stateOf(0), Inns.LEASED);
        Check.due("leased to another: guestOf", another.guestOf(0), 1);
        again.tick(60);
        again.seek(0);
        again.deliver(1);
        again.deliver(0);
        Check.due("offered to it: stateOf", again.stateOf(0), Inns.OFFERED);
        again.deliver(0);
        again.deliver(0);
        Check.due("then leased to it: stateOf", again.stateOf(0), Inns.LEASED);
    }

    // Two wants of the guest for the room 0, a yes to the later one, a ghost: then a want and a refusal wait.
    private static KeyLeases withWantAndRefusal() {
        KeyLeases x = Inns.withWant();
        x.giveUp(0);
        x.seek(0);
        x.deliver(1);
        x.deliver(1);
        x.turnGhost(0);
        x.deliver(1);
        x.deliver(1);
        return x;
    }

    private static void refusesByNumbers() {
        Doc.says(Doc.TERMS, REFUSES);
        KeyLeases lesser = withWantAndRefusal();
        lesser.deliver(1);
        Check.due("the latest yes has a lesser number: stateOf", lesser.stateOf(0), Inns.SHUT);
        KeyLeases greater = withWantAndRefusal();
        greater.deliver(0);
        Check.due("a yes behind the refusal", greater.kindAt(1), Inns.YES);
        greater.deliver(0);
        Check.due("the latest yes has a greater number: stateOf", greater.stateOf(0), Inns.LEASED);
        Check.due("the latest yes has a greater number: shutSoFar", greater.shutSoFar(), 0);
        Check.due("the latest yes has a greater number: ticksOf", greater.ticksOf(0), 60);
    }

    private static void leavesAsTheLeaseEnds() {
        Doc.says(Doc.TERMS, LEAVES);
        for (int ticks : new int[] {59, 60}) {
            KeyLeases x = Inns.withGuest();
            x.leave(0);
            tick(x, ticks);
            x.deliver(0);
            Check.due("behind " + ticks + ": stateOf", x.stateOf(0), Inns.FREE);
            Check.due("behind " + ticks + ": leasedByGuests", x.leasedByGuests(), 0);
        }
        dueNothingToLaterLeases(left(), left());
    }

    private static KeyLeases left() {
        KeyLeases x = Inns.withGuest();
        x.leave(0);
        return x;
    }

    private static void leavesByNumbers() {
        Doc.says(Doc.TERMS, LEAVES);
        KeyLeases lesser = Inns.withGuest();
        lesser.renew(0);
        lesser.deliverAll();
        lesser.leave(0);
        lesser.deliver(0);
        Check.due("the latest yes has a lesser number: stateOf", lesser.stateOf(0), Inns.FREE);
        KeyLeases greater = Inns.withGuest();
        greater.renew(0);
        greater.leave(0);
        greater.deliver(0);
        greater.deliver(0);
        Check.due("the latest yes has a greater number: stateOf", greater.stateOf(0), Inns.LEASED);
        KeyLeases otherWay = Inns.withGuest();
        otherWay.renew(0);
        otherWay.leave(0);
        otherWay.deliver(1);
        Check.due("the leaving comes first: stateOf", otherWay.stateOf(0), Inns.FREE);
        otherWay.deliver(0);
        Check.due("the want comes then: a no", otherWay.kindAt(0), Inns.NO);
    }

    // ---- numbers

    private static void lostMessagesAreNumbered() {
        Doc.says(Doc.TERMS, "Messages are numbered as they are sent, those that are lost too.");
        KeyLeases lostYes = Inns.withGuest();
        lostYes.renew(0);
        lostYes.leave(0);
        lostYes.deliver(0);
        lostYes.lose(1);
        lostYes.deliver(0);
        Check.due("a yes that was lost, later than the leaving", lostYes.stateOf(0), Inns.LEASED);
        KeyLeases earlier = Inns.withGuest();
        earlier.renew(0);
        earlier.deliver(0);
        earlier.lose(0);
        earlier.leave(0);
        earlier.deliver(0);
        Check.due("a yes that was lost, earlier than the leaving", earlier.stateOf(0), Inns.FREE);
        KeyLeases noPlace = Inns.withGuest();
        noPlace.renew(0);
        noPlace.tick(5);
        Inns.fill(noPlace, 1);
        noPlace.renew(0);
        Check.due("the later want is lost, as 60 wait", noPlace.lost(), 1);
        noPlace.deliver(0);
        Check.due("the answer to the earlier one", noPlace.deliver(59), Inns.YES);
        Check.due("does not count", noPlace.ticksLeft(0), 55);
    }
}
