/** The document's hash, computed from the answers of the other calls. */
final class Digest {
    private interface Call {
        long answer();
    }

    private static final long THROWN = -1;

    private Digest() {
    }

    static long of(KeyLeases x, boolean[] slotTaken, String buffer) {
        long hash = 4409;
        for (int each = 0; each < 12; each++) {
            int guest = each;
            hash = 31 * hash + x.doingOf(guest);
            hash = 31 * hash + 1 + orThrown(() -> x.roomOf(guest));
            hash = 31 * hash + or0(() -> x.ticksLeft(guest));
            hash = 31 * hash + or0(() -> x.ticksToRenewal(guest));
            hash = 31 * hash + (x.isHaunted(guest) ? 1 : 0);
            hash = 31 * hash + x.staysOf(guest);
            hash = 31 * hash + 1 + orThrown(() -> x.roomFor(guest));
        }
        hash = 31 * hash + x.housed();
        for (int each = 0; each < 16; each++) {
            int room = each;
            hash = 31 * hash + x.stateOf(room);
            hash = 31 * hash + 1 + orThrown(() -> x.guestOf(room));
            hash = 31 * hash + or0(() -> x.ticksOf(room));
            hash = 31 * hash + 1 + orThrown(() -> x.reservedFor(room));
            hash = 31 * hash + (x.hasGhost(room) ? 1 : 0);
        }
        hash = 31 * hash + x.leasedByRooms();
        hash = 31 * hash + x.leasedByGuests();
        hash = 31 * hash + x.freeRooms();
        hash = 31 * hash + or0(() -> x.nextFreeByRooms());
        hash = 31 * hash + or0(() -> x.nextFreeByTicks());
        hash = 31 * hash + x.leaseTicks();
        hash = 31 * hash + x.holdTicks();
        hash = 31 * hash + x.shutTicks();
        hash = 31 * hash + x.messages();
        for (int each = 0; each < x.messages(); each++) {
            int place = each;
            hash = 31 * hash + x.kindAt(place);
            hash = 31 * hash + x.guestAt(place);
            hash = 31 * hash + 1 + orThrown(() -> x.roomAt(place));
        }
        hash = 31 * hash + x.time();
        for (int kind = 0; kind < 7; kind++) {
            hash = 31 * hash + x.sent(kind);
        }
        int[] accounts = {x.lost(), x.delivered(), x.leases(), x.evicted(), x.shutSoFar(), x.wouldDeliver(),
            x.wouldHouse(), x.savedStates()};
        for (int account : accounts) {
            hash = 31 * hash + account;
        }
        hash = 31 * hash + Double.doubleToLongBits(x.leasedShare());
        for (boolean taken : slotTaken) {
            hash = 31 * hash + (taken ? 1 : 0);
        }
        hash = 31 * hash + buffer.length();
        for (int place = 0; place < buffer.length(); place++) {
            hash = 31 * hash + buffer.charAt(place);
        }
        return hash;
    }

    private static long orThrown(Call call) {
        try {
            return call.answer();
        } catch (IllegalStateException thrown) {
            return THROWN;
        }
    }

    private static long or0(Call call) {
        return Math.max(0, orThrown(call));
    }
}
