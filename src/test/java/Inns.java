/** Inns to start from, each made anew by calls of the face alone. */
final class Inns {
    interface Maker {
        KeyLeases make();
    }

    static final int SEEKS = 0;
    static final int OFFERS = 1;
    static final int WANTS = 2;
    static final int YES = 3;
    static final int NO = 4;
    static final int REFUSES = 5;
    static final int LEAVES = 6;

    static final int FREE = 0;
    static final int OFFERED = 1;
    static final int LEASED = 2;
    static final int SHUT = 3;

    // 60 characters; a part is to follow.
    static final String LONGEST = "t100;t100;t100;t100;t100;t100;t100;t100;t100;t100;t100;t100;";

    // What the guests do in busy() and crowded().
    static final int HAVING = 0;
    static final int SEEKING = 1;
    static final int WANTING = 2;
    static final int RESTING = 3;

    private Inns() {
    }

    /** The guest gets a room, by messages that go to and fro at once; no other messages wait before. */
    static int house(KeyLeases x, int guest) {
        x.seek(guest);
        x.deliverAll();
        return x.roomOf(guest);
    }

    /** The guest gets this room, in which there is no ghost then. */
    static void houseIn(KeyLeases x, int guest, int room) {
        if (x.hasGhost(room)) {
            x.turnGhost(room);
        }
        x.reserve(guest, room);
        house(x, guest);
        x.unreserve(guest);
    }

    /** The guest 1 gets the room 0; one message waits before, and waits on. */
    static void house1WhileAMessageWaits(KeyLeases x) {
        x.seek(1);
        for (int i = 0; i < 4; i++) {
            x.deliver(1);
        }
        Check.due("the guest 1 has the room 0", x.roomOf(1), 0);
    }

    /** The messages that wait are lost, one by one. */
    static void loseAll(KeyLeases x) {
        for (int i = x.messages(); i > 0; i--) {
            x.lose(0);
        }
    }

    /** As many messages wait then: the guest sends them by seeking and giving up; it rests. */
    static void fillTo(KeyLeases x, int guest, int messages) {
        for (int i = x.messages(); i < messages; i++) {
            x.seek(guest);
            x.giveUp(guest);
        }
    }

    static void fill(KeyLeases x, int guest) {
        fillTo(x, guest, 60);
    }

    static void type(KeyLeases x, String text) {
        x.clearBuffer();
        for (int i = 0; i < text.length(); i++) {
            x.append(text.charAt(i));
        }
    }

    static KeyLeases typed(String text) {
        KeyLeases x = new KeyLeases();
        type(x, text);
        return x;
    }

    /** An inn in which the guest 0 has the room 0, since just now. */
    static KeyLeases withGuest() {
        KeyLeases x = new KeyLeases();
        house(x, 0);
        return x;
    }

    /** As withGuest(), with a lease of so many ticks. */
    static KeyLeases withLease(int ticks) {
        KeyLeases x = new KeyLeases();
        x.changeLease(ticks);
        house(x, 0);
        return x;
    }

    /** An inn in which the guest 0 wants the room 0; the message that wants it waits. */
    static KeyLeases withWant() {
        KeyLeases x = new KeyLeases();
        x.seek(0);
        x.deliver(0);
        x.deliver(0);
        return x;
    }

    /** An inn in which the guest 0 refused the room 0; the refusal waits. */
    static KeyLeases withRefusal() {
        KeyLeases x = withWant();
        x.turnGhost(0);
        x.deliver(0);
        x.deliver(0);
        return x;
    }

    /** 60 messages wait: the guest 0 has sent all of them, by seeking and giving up; it rests. */
    static KeyLeases withFullRow() {
        KeyLeases x = new KeyLeases();
        fill(x, 0);
        return x;
    }

    /**
     * A bit of all: guests who do all there is to do, one in a haunted room; messages of most kinds; reservations;
     * other lengths; a snapshot in the slot 0; six saved states; a course in the buffer.
     */
    static KeyLeases busy() {
        KeyLeases x = new KeyLeases();
        x.changeLease(20);
        x.changeHold(7);
        x.changeShut(9);
        x.reserve(4, 5);
        x.reserve(6, 12);
        house(x, HAVING);
        house(x, 4);
        house(x, 11);
        x.turnGhost(5);
        x.tick(3);
        beginSeekingAndWanting(x);
        x.renew(HAVING);
        x.renew(HAVING);
        x.deliver(x.messages() - 1);
        x.tick(1);
        x.keep(0);
        x.leave(11);
        x.seek(7);
        x.giveUp(7);
        x.tick(1);
        type(x, "s3;t2;d0");
        return x;
    }

    // No messages wait before; an offer and a want wait then.
    private static void beginSeekingAndWanting(KeyLeases x) {
        x.seek(WANTING);
        x.deliver(0);
        x.deliver(0);
        x.seek(SEEKING);
        x.deliver(1);
    }

    /** 60 messages wait; guests do all there is to do. */
    static KeyLeases crowded() {
        KeyLeases x = withGuest();
        beginSeekingAndWanting(x);
        fill(x, 10);
        return x;
    }

    /** No room is free: all are leased, and all guests have rooms; no messages wait, and there is no ghost. */
    static KeyLeases booked() {
        KeyLeases x = new KeyLeases();
        x.turnGhost(9);
        for (int guest = 0; guest < 12; guest++) {
            x.seek(guest);
        }
        x.deliverAll();
        for (int guest = 0; guest < 4; guest++) {
            x.leave(guest);
            x.lose(0);
            house(x, guest);
        }
        return x;
    }

    /**
     * Two states are saved, and all that is undoable can be called: the guest 0 has the room 0, 1 seeks, 2 wants,
     * 3 rests, 6 has a reservation, messages wait, a snapshot is in the slot 0, a course in the buffer.
     */
    static KeyLeases calm() {
        KeyLeases x = typed("s0;d0;d0;d0;d0;s1;d0;s2;d1;d1;t3;r0");
        x.play();
        x.reserve(6, 12);
        x.keep(0);
        type(x, "t1;d0");
        return x;
    }
}
