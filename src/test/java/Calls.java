/** The calls that answer nothing, so that they can stand where an answer is looked for. */
final class Calls {
    private Calls() {
    }

    static long reserve(KeyLeases x, int guest, int room) {
        x.reserve(guest, room);
        return 0;
    }

    static long keep(KeyLeases x, int slot) {
        x.keep(slot);
        return 0;
    }

    static long goBack(KeyLeases x, int slot) {
        x.goBack(slot);
        return 0;
    }

    static long undo(KeyLeases x) {
        x.undo();
        return 0;
    }
}
