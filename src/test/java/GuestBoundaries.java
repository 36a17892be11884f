/** Guests at the edges: the first and the last of them, none and all of them, the least and the greatest ticks. */
final class GuestBoundaries {
    private static final String GUEST = "- `guest`: 0 to 11";
    private static final int[] FIRST_AND_LAST = {0, 11};

    private GuestBoundaries() {
    }

    static void all() {
        numbers();
        allRestAtFirst();
        seek();
        seekWhereMessagesWait();
        leave();
        leaveWhereMessagesWait();
        giveUp();
        giveUpSendsNothing();
        renew();
        renewWhereMessagesWait();
        doingOf();
        roomOf();
        ticksLeft();
        ticksToRenewal();
        isHaunted();
        staysOf();
        housed();
        offers();
        offersToThoseWhoDoNotSeek();
    }

    private static KeyLeases housedIn(int guest, int room) {
        KeyLeases x = new KeyLeases();
        Inns.houseIn(x, guest, room);
        return x;
    }

    private static KeyLeases wanting(int guest) {
        KeyLeases x = new KeyLeases();
        x.seek(guest);
        x.deliver(0);
        x.deliver(0);
        return x;
    }

    private static void numbers() {
        Doc.says(Doc.TERMS, "There are 12 guests and 16 rooms, numbered from 0.");
        KeyLeases x = new KeyLeases();
        for (int guest = 0; guest < 12; guest++) {
            Check.due("seek(" + guest + ")", x.seek(guest), guest + 1);
            Check.due("guestAt", x.guestAt(guest), guest);
        }
        KeyLeases booked = Inns.booked();
        int guests = 0;
        for (int room = 0; room < 16; room++) {
            Check.due("a guest of the room " + room, booked.guestOf(room) >= 0 && booked.guestOf(room) < 12, true);
            guests |= 1 << booked.guestOf(room);
        }
        Check.due("all guests, a bit for each", guests, (1 << 12) - 1);
    }

    private static void allRestAtFirst() {
        Doc.says(Doc.TERMS, "A guest rests, as at first, seeks a room, wants one, or has one.");
        KeyLeases x = new KeyLeases();
        for (int guest = 0; guest < 12; guest++) {
            Check.due("doingOf(" + guest + ")", x.doingOf(guest), 0);
        }
    }

    // ---- promises 2 to 5

    private static void seek() {
        Doc.says(2, GUEST);
        for (int guest : FIRST_AND_LAST) {
            KeyLeases x = new KeyLeases();
            Check.due("seek(" + guest + ")", x.seek(guest), 1);
            Check.due("doingOf", x.doingOf(guest), 1);
            Check.due("doingOf the other", x.doingOf(11 - guest), 0);
            Check.due("guestAt", x.guestAt(0), guest);
        }
    }

    private static void seekWhereMessagesWait() {
        Doc.says(2, "Returns how many messages wait then.");
        KeyLeases x = new KeyLeases();
        Check.due("none waits", x.seek(1), 1);
        Inns.fillTo(x, 0, 58);
        Check.due("58 wait", x.seek(2), 59);
        Check.due("59 wait", x.seek(3), 60);
        Check.due("60 wait", x.seek(4), 60);
        Check.due("60 wait: it seeks, though nobody will know", x.doingOf(4), 1);
    }

    private static void leave() {
        Doc.says(3, GUEST);
        for (int guest : FIRST_AND_LAST) {
            for (int room : new int[] {0, 15}) {
                KeyLeases x = housedIn(guest, room);
                Check.due("leave(" + guest + "): the room", x.leave(guest), room);
                Check.due("rests", x.doingOf(guest), 0);
                Check.due("guestAt", x.guestAt(0), guest);
                Check.due("roomAt", x.roomAt(0), room);
            }
        }
        KeyLeases lastTick = Inns.withGuest();
        lastTick.tick(59);
        Check.due("leave in the last tick", lastTick.leave(0), 0);
    }

    private static void leaveWhereMessagesWait() {
        Doc.says(3, "A guest leaves the room: a message is sent, and the guest rests then.");
        for (int waiting : new int[] {0, 59, 60}) {
            KeyLeases x = Inns.withGuest();
            Inns.fillTo(x, 1, waiting);
            x.leave(0);
            Check.due(waiting + " wait: messages", x.messages(), Math.min(60, waiting + 1));
            Check.due(waiting + " wait: sent", x.sent(Inns.LEAVES), 1);
            Check.due(waiting + " wait: lost", x.lost(), waiting == 60 ? 1 : 0);
            Check.due(waiting + " wait: rests", x.doingOf(0), 0);
        }
    }

    private static void giveUp() {
        Doc.says(4, GUEST);
        Doc.says(4, "Returns what the guest did, 1 or 2 as by doingOf().");
        for (int guest : FIRST_AND_LAST) {
            KeyLeases seeking = new KeyLeases();
            seeking.seek(guest);
            Check.due("giveUp(" + guest + "): it seeks", seeking.giveUp(guest), 1);
            Check.due("rests", seeking.doingOf(guest), 0);
            KeyLeases wanting = wanting(guest);
            Check.due("giveUp(" + guest + "): it wants", wanting.giveUp(guest), 2);
            Check.due("rests", wanting.doingOf(guest), 0);
        }
    }

    private static void giveUpSendsNothing() {
        Doc.says(4, "A guest who seeks or wants a room gives that up, and rests then; nothing is sent.");
        for (int waiting : new int[] {1, 59, 60}) {
            KeyLeases x = new KeyLeases();
            x.seek(1);
            Inns.fillTo(x, 0, waiting);
            x.giveUp(1);
            Check.due(waiting + " wait: messages", x.messages(), waiting);
            Check.due(waiting + " wait: lost", x.lost(), 0);
        }
    }

    private static void renew() {
        Doc.says(5, GUEST);
        for (int guest : FIRST_AND_LAST) {
            KeyLeases x = housedIn(guest, 15 - guest);
            x.tick(59);
            Inns.loseAll(x);
            Check.due("renew(" + guest + ") in the last tick", x.renew(guest), 1);
            Check.due("kindAt", x.kindAt(0), Inns.WANTS);
            Check.due("guestAt", x.guestAt(0), guest);
            Check.due("roomAt", x.roomAt(0), 15 - guest);
            x.deliverAll();
            Check.due("ticksLeft", x.ticksLeft(guest), 60);
        }
    }

    private static void renewWhereMessagesWait() {
        Doc.says(5, "Returns how many messages wait then.");
        KeyLeases x = Inns.withGuest();
        Check.due("none waits", x.renew(0), 1);
        Inns.fillTo(x, 1, 59);
        Check.due("59 wait", x.renew(0), 60);
        Check.due("60 wait", x.renew(0), 60);
        Check.due("sent, with the first of all", x.sent(Inns.WANTS), 4);
        Check.due("lost", x.lost(), 1);
    }

    // ---- promises 24 to 30

    private static void doingOf() {
        Doc.says(24, GUEST);
        Doc.says(24, "Returns 0 rests, 1 seeks a room, 2 wants a room, 3 has a room.");
        for (int guest : FIRST_AND_LAST) {
            KeyLeases x = new KeyLeases();
            Check.due("rests", x.doingOf(guest), 0);
            x.seek(guest);
            Check.due("seeks", x.doingOf(guest), 1);
            x.deliver(0);
            x.deliver(0);
            Check.due("wants", x.doingOf(guest), 2);
            x.deliver(0);
            x.deliver(0);
            Check.due("has", x.doingOf(guest), 3);
            Check.due("the other rests", x.doingOf(11 - guest), 0);
        }
    }

    private static void roomOf() {
        Doc.says(25, GUEST);
        for (int guest : FIRST_AND_LAST) {
            for (int room : new int[] {0, 15}) {
                Check.due("has: roomOf(" + guest + ")", housedIn(guest, room).roomOf(guest), room);
                KeyLeases x = new KeyLeases();
                x.reserve(guest, room);
                x.seek(guest);
                x.deliver(0);
                x.deliver(0);
                Check.due("wants: roomOf(" + guest + ")", x.roomOf(guest), room);
            }
        }
    }

    private static void ticksLeft() {
        Doc.says(26, GUEST);
        Doc.says(26, "Returns the ticks, 1 or more.");
        for (int guest : FIRST_AND_LAST) {
            KeyLeases x = new KeyLeases();
            x.changeLease(200);
            Inns.house(x, guest);
            Check.due("the greatest", x.ticksLeft(guest), 200);
            x.tick(100);
            x.tick(99);
            Check.due("the least", x.ticksLeft(guest), 1);
            Check.due("it loses the room then", x.tick(1), 1);
            Check.due("it rests then", x.doingOf(guest), 0);
        }
    }

    private static void ticksToRenewal() {
        Doc.says(27, GUEST);
        Doc.says(27, "Returns the ticks, 1 or more.");
        for (int guest : FIRST_AND_LAST) {
            KeyLeases x = new KeyLeases();
            x.changeLease(200);
            Inns.house(x, guest);
            Check.due("the greatest", x.ticksToRenewal(guest), 100);
            x.tick(99);
            Check.due("the least, before half", x.ticksToRenewal(guest), 1);
            x.tick(1);
            Check.due("half is over", x.ticksToRenewal(guest), 75);
            x.tick(74);
            Check.due("the least, before seven eighths", x.ticksToRenewal(guest), 1);
        }
    }

    private static void isHaunted() {
        Doc.says(28, GUEST);
        for (int guest : FIRST_AND_LAST) {
            KeyLeases x = housedIn(guest, 15);
            Check.due("there is no ghost", x.isHaunted(guest), false);
            x.turnGhost(14);
            Check.due("there is one in the room below", x.isHaunted(guest), false);
            x.turnGhost(15);
            Check.due("there is one", x.isHaunted(guest), true);
            Check.due("the other rests", x.isHaunted(11 - guest), false);
            KeyLeases wanting = wanting(guest);
            wanting.turnGhost(0);
            Check.due("it wants the room yet", wanting.isHaunted(guest), false);
        }
    }

    private static void staysOf() {
        Doc.says(29, GUEST);
        Doc.says(29, "Returns how often, more time not counted.");
        for (int guest : FIRST_AND_LAST) {
            KeyLeases x = new KeyLeases();
            Check.due("at first", x.staysOf(guest), 0);
            for (int stay = 1; stay <= 20; stay++) {
                Inns.house(x, guest);
                Check.due("stays", x.staysOf(guest), stay);
                x.renew(guest);
                x.deliverAll();
                Check.due("more time", x.staysOf(guest), stay);
                x.leave(guest);
                x.deliverAll();
            }
            Check.due("the other", x.staysOf(11 - guest), 0);
        }
    }

    private static void housed() {
        Doc.says(30, "Returns how many guests have rooms.");
        KeyLeases x = new KeyLeases();
        Check.due("none", x.housed(), 0);
        for (int guest = 0; guest < 12; guest++) {
            x.seek(guest);
        }
        x.turnGhost(9);
        Check.due("all seek", x.housed(), 0);
        x.deliverAll();
        Check.due("all", x.housed(), 12);
        Check.due("all lose their rooms", x.tick(60), 12);
        Check.due("none again", x.housed(), 0);
    }

    // ---- what guests do with an offer

    private static void offers() {
        Doc.says(Doc.TERMS, "- offers: a guest who seeks wants the room then, and sends a message that wants it;"
            + " otherwise nothing happens.");
        for (int guest : FIRST_AND_LAST) {
            KeyLeases x = new KeyLeases();
            x.reserve(guest, 15);
            x.seek(guest);
            x.deliver(0);
            x.tick(50);
            Check.due("an offer, long over for the inn", x.deliver(0), Inns.OFFERS);
            Check.due("wants", x.doingOf(guest), 2);
            Check.due("the room", x.roomOf(guest), 15);
            Check.due("messages", x.messages(), 1);
            Check.due("kindAt", x.kindAt(0), Inns.WANTS);
        }
    }

    private static void offersToThoseWhoDoNotSeek() {
        Doc.says(Doc.TERMS, "- offers: a guest who seeks wants the room then, and sends a message that wants it;"
            + " otherwise nothing happens.");
        KeyLeases x = new KeyLeases();
        x.seek(0);
        x.giveUp(0);
        x.seek(0);
        x.giveUp(0);
        x.seek(0);
        x.deliver(0);
        x.deliver(0);
        x.deliver(0);
        x.giveUp(0);
        Check.due("one who rests", x.deliver(0), Inns.OFFERS);
        Check.due("rests on", x.doingOf(0), 0);
        Check.due("sends nothing", x.sent(Inns.WANTS), 0);
        x.seek(0);
        x.deliver(0);
        Check.due("one who seeks: wants", x.sent(Inns.WANTS), 1);
        Check.due("one who wants", x.deliver(0), Inns.OFFERS);
        Check.due("sends nothing more", x.sent(Inns.WANTS), 1);
        KeyLeases having = havingWithOffer();
        having.deliver(0);
        Check.due("one who has: goes on", having.doingOf(0), 3);
        Check.due("one who has: keeps the room", having.roomOf(0), 0);
        Check.due("one who has: sends nothing more", having.sent(Inns.WANTS), 1);
    }

    // The guest 0 has the room 0, and a second offer of it waits.
    private static KeyLeases havingWithOffer() {
        KeyLeases x = new KeyLeases();
        x.seek(0);
        x.giveUp(0);
        x.seek(0);
        x.deliver(0);
        x.deliver(0);
        x.deliver(0);
        x.deliver(1);
        x.deliver(1);
        Check.due("it has a room", x.doingOf(0), 3);
        Check.due("an offer waits", x.messages() == 1 && x.kindAt(0) == Inns.OFFERS, true);
        return x;
    }
}
