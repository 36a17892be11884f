/** Accounts and the hash at their edges: nothing yet, all of it, and arithmetic that wraps around. */
final class AccountBoundaries {
    private static final String HASH = "For each value v of the following list, in order, the hash becomes 31 * hash"
        + " + v, in long arithmetic with overflow.";

    private AccountBoundaries() {
    }

    static void all() {
        aNewObject();
        leases();
        shutSoFar();
        leasedShare();
        hashOfANewObject();
        hashWrapsAround();
        hashOfSlotsAndStates();
        hashOfEmptyAndFull();
        the512thCall();
    }

    private static void aNewObject() {
        Doc.says(1, "Creates an inn with free rooms and a ghost in the room 9, guests who rest, with empty slots and an"
            + " empty buffer.");
        KeyLeases x = new KeyLeases();
        int[] none = {x.housed(), x.leasedByRooms(), x.leasedByGuests(), x.messages(), x.time(), x.lost(),
            x.delivered(), x.leases(), x.evicted(), x.shutSoFar(), x.wouldDeliver(), x.wouldHouse(), x.savedStates(),
            x.firstError()};
        for (int i = 0; i < none.length; i++) {
            Check.due("the account " + i, none[i], 0);
        }
        for (int kind = 0; kind < 7; kind++) {
            Check.due("sent(" + kind + ")", x.sent(kind), 0);
        }
        for (int guest = 0; guest < 12; guest++) {
            Check.due("staysOf(" + guest + ")", x.staysOf(guest), 0);
        }
    }

    private static void leases() {
        Doc.says(53, "Returns how many leases were given so far, more time counted too.");
        KeyLeases x = Inns.withWant();
        Check.due("none", x.leases(), 0);
        x.deliver(0);
        Check.due("one", x.leases(), 1);
        x.deliver(0);
        x.renew(0);
        x.deliver(0);
        Check.due("more time", x.leases(), 2);
        Check.due("of all rooms: 12, and one more for four", Inns.booked().leases(), 16);
        KeyLeases late = Inns.withWant();
        late.tick(10);
        late.deliver(0);
        Check.due("not a no", late.leases(), 0);
    }

    private static void shutSoFar() {
        Doc.says(55, "Returns how many rooms were shut so far.");
        KeyLeases x = Inns.withRefusal();
        Check.due("none: the refusal waits", x.shutSoFar(), 0);
        x.deliver(0);
        Check.due("one", x.shutSoFar(), 1);
        x.tick(50);
        Check.due("one, though it is free again", x.shutSoFar(), 1);
        x.seek(0);
        x.deliverAll();
        Check.due("the same room once more", x.shutSoFar(), 2);
        KeyLeases late = Inns.withRefusal();
        late.tick(60);
        late.deliver(0);
        Check.due("none: the lease is over", late.shutSoFar(), 0);
    }

    private static void leasedShare() {
        Doc.says(58, "Returns leasedByRooms() as a double, divided by 16.");
        Check.due("none, in 16384ths", (long) (new KeyLeases().leasedShare() * 16384), 0);
        Check.due("none: not below 0", 1 / new KeyLeases().leasedShare() > 0, true);
        Check.due("one, in 16384ths", (long) (Inns.withGuest().leasedShare() * 16384), 1024);
        Check.due("all", Inns.booked().leasedShare() == 1.0, true);
        KeyLeases x = Inns.booked();
        x.leave(0);
        x.deliverAll();
        Check.due("all but one", x.leasedShare() == 0.9375, true);
    }

    // ---- the hash; the numbers are computed apart from this program, from the list of the document

    private static void hashOfANewObject() {
        Doc.says(59, "The hash starts at 4409.");
        Check.due("digest", new KeyLeases().digest(), 7477266880802453380L);
    }

    private static void hashWrapsAround() {
        Doc.says(59, HASH);
        KeyLeases x = Inns.typed("s");
        Check.due("a buffer of one: below 0", x.digest(), -8012399653348116082L);
        StringBuilder least = new StringBuilder();
        StringBuilder greatest = new StringBuilder();
        for (int i = 0; i < 60; i++) {
            least.append('!');
            greatest.append('~');
        }
        Check.due("60 of the least code", Inns.typed(least.toString()).digest(), -7804778525632021632L);
        Check.due("60 of the greatest code", Inns.typed(greatest.toString()).digest(), 545831740464685120L);
    }

    private static void hashOfSlotsAndStates() {
        Doc.says(59, "for each slot 1 if it has a snapshot, otherwise 0; the length of the buffer and each of its"
            + " character codes.");
        KeyLeases first = new KeyLeases();
        first.keep(0);
        Check.due("the slot 0", first.digest(), 7477266880802454341L);
        first.keep(1);
        Check.due("both slots", first.digest(), 7477266880802454372L);
        KeyLeases last = new KeyLeases();
        last.keep(1);
        Check.due("the slot 1", last.digest(), 7477266880802453411L);
        KeyLeases six = new KeyLeases();
        for (int i = 0; i < 6; i++) {
            six.deliverAll();
        }
        Check.due("six saved states", six.digest(), 7477266880807994506L);
        six.deliverAll();
        Check.due("a seventh", six.digest(), 7477266880807994506L);
    }

    private static void hashOfEmptyAndFull() {
        Doc.says(59, HASH);
        boolean[] none = new boolean[2];
        Inns.Maker[] inns = {KeyLeases::new, Inns::withFullRow, Inns::crowded, Inns::booked, Inns::withGuest,
            Inns::withWant, Inns::withRefusal};
        for (Inns.Maker maker : inns) {
            Check.due("digest, by the other calls", maker.make().digest(), Digest.of(maker.make(), none, ""));
        }
        Check.due("digest of a full buffer", Inns.typed(Inns.LONGEST).digest(),
            Digest.of(Inns.typed(Inns.LONGEST), none, Inns.LONGEST));
        boolean[] first = {true, false};
        Check.due("digest of busy()", Inns.busy().digest(), Digest.of(Inns.busy(), first, "s3;t2;d0"));
    }

    // ---- the last call that is promised

    private static void the512thCall() {
        Doc.says(Doc.TERMS, "An object is used for at most 512 calls after it has been made");
        KeyLeases seeking = new KeyLeases();
        for (int i = 0; i < 255; i++) {
            seeking.seek(i % 12);
            seeking.giveUp(i % 12);
        }
        Check.due("the 511th: 60 and their offers", seeking.deliverAll(), 120);
        Check.due("the 512th", seeking.sent(Inns.SEEKS), 255);
        KeyLeases ticking = new KeyLeases();
        for (int i = 0; i < 511; i++) {
            ticking.tick(100);
        }
        Check.due("the 512th", ticking.time(), 51_100);
        KeyLeases undoing = new KeyLeases();
        for (int i = 0; i < 505; i++) {
            undoing.tick(1);
        }
        for (int i = 0; i < 6; i++) {
            undoing.undo();
        }
        Check.due("the 512th", undoing.time(), 499);
    }
}
