/** The row of messages at its edges: empty, full, and with more messages going through it than it has places. */
final class RowBoundaries {
    private static final String PLACE = "- `place`: 0 for the message that was sent first";
    private static final String ROW =
        "They wait in a row, the new ones behind, at most 60; one that is sent when 60 wait is lost.";
    private static final String KINDS = "A message is of a kind, between a guest and the inn, and tells of a room, but"
        + " for one that seeks: 0 seeks, 2 wants, 5 refuses and 6 leaves go to the inn, 1 offers, 3 yes and 4 no go to"
        + " the guest.";

    private RowBoundaries() {
    }

    static void all() {
        theSixtiethAndTheNext();
        askingAsTheRowFills();
        answersInAFullRow();
        inTheOrderOfSending();
        moreThanTheRowHasPlaces();
        deliverFirstAndLast();
        deliverWithoutAnAnswer();
        loseFirstAndLast();
        deliverAllOfNone();
        deliverAllOfSixty();
        deliverAllWithLongAnswers();
        messages();
        looksAtFirstAndLast();
        kinds();
        roomsThatMessagesTell();
        sent();
        lost();
        delivered();
        wouldDeliver();
        wouldHouse();
    }

    private static KeyLeases withRow(int messages) {
        KeyLeases x = new KeyLeases();
        Inns.fillTo(x, 0, messages);
        return x;
    }

    // ---- the row is full

    private static void theSixtiethAndTheNext() {
        Doc.says(Doc.TERMS, ROW);
        for (int waiting : new int[] {58, 59, 60}) {
            KeyLeases x = withRow(waiting);
            x.seek(11);
            Check.due(waiting + " wait: messages", x.messages(), Math.min(60, waiting + 1));
            Check.due(waiting + " wait: lost", x.lost(), waiting == 60 ? 1 : 0);
            Check.due(waiting + " wait: sent", x.sent(Inns.SEEKS), waiting + 1);
            Check.due(waiting + " wait: the last one", x.guestAt(x.messages() - 1), waiting == 60 ? 0 : 11);
        }
        KeyLeases full = withRow(60);
        for (int guest = 1; guest < 12; guest++) {
            full.seek(guest);
        }
        Check.due("all are lost", full.lost(), 11);
        for (int place = 0; place < 60; place++) {
            Check.due("those that wait stay", full.guestAt(place), 0);
        }
    }

    // Twelve guests ask for more time in the same tick.
    private static void askingAsTheRowFills() {
        Doc.says(Doc.TERMS, ROW);
        for (int places : new int[] {0, 1, 11, 12}) {
            KeyLeases x = Inns.booked();
            x.leave(11);
            x.lose(0);
            Inns.fillTo(x, 11, 60 - places);
            int lost = x.lost();
            x.tick(30);
            Check.due("messages", x.messages(), Math.min(60, 60 - places + 11));
            Check.due("lost", x.lost() - lost, Math.max(0, 11 - places));
            for (int guest = 0; guest < Math.min(11, places); guest++) {
                Check.due("the first ones find places", x.guestAt(60 - places + guest), guest);
            }
        }
    }

    // The message that is delivered waits no more, so its answer takes the place behind.
    private static void answersInAFullRow() {
        Doc.says(Doc.TERMS, ROW);
        KeyLeases x = withRow(59);
        x.seek(1);
        dueAnswer("seeks", x, Inns.SEEKS, Inns.OFFERS);
        x.keep(0);
        dueAnswer("offers", x, Inns.OFFERS, Inns.WANTS);
        dueAnswer("wants", x, Inns.WANTS, Inns.YES);
        x.turnGhost(0);
        dueAnswer("yes, and a ghost", x, Inns.YES, Inns.REFUSES);
        x.goBack(0);
        dueAnswer("offers", x, Inns.OFFERS, Inns.WANTS);
        x.tick(10);
        dueAnswer("wants, too late", x, Inns.WANTS, Inns.NO);
        Check.due("deliver no", x.deliver(59), Inns.NO);
        Check.due("59 wait", x.messages(), 59);
    }

    private static void dueAnswer(String what, KeyLeases x, int kind, int answer) {
        Check.due(what + ": 60 wait", x.messages(), 60);
        Check.due(what + ": deliver", x.deliver(59), kind);
        Check.due(what + ": 60 wait again", x.messages(), 60);
        Check.due(what + ": kindAt(59)", x.kindAt(59), answer);
        Check.due(what + ": lost", x.lost(), 0);
    }

    // ---- order

    private static void inTheOrderOfSending() {
        Doc.says(Doc.TERMS, ROW);
        KeyLeases x = new KeyLeases();
        for (int i = 0; i < 60; i++) {
            x.seek(i * 7 % 12);
            x.giveUp(i * 7 % 12);
        }
        dueOrder(x, 0, 60);
        x.lose(30);
        dueOrder(x, 0, 30);
        for (int place = 30; place < 59; place++) {
            Check.due("behind the one that is lost", x.guestAt(place), (place + 1) * 7 % 12);
        }
        x.lose(0);
        Check.due("the second one comes first", x.guestAt(0), 7);
        x.lose(57);
        Check.due("the last but one is last", x.guestAt(56), 58 * 7 % 12);
    }

    private static void dueOrder(KeyLeases x, int first, int behind) {
        for (int place = first; place < behind; place++) {
            Check.due("guestAt(" + place + ")", x.guestAt(place), place * 7 % 12);
        }
    }

    // 150 messages go through a row in which 50 wait.
    private static void moreThanTheRowHasPlaces() {
        Doc.says(Doc.TERMS, ROW);
        KeyLeases x = new KeyLeases();
        for (int i = 0; i < 150; i++) {
            x.seek(i * 5 % 12);
            x.giveUp(i * 5 % 12);
            if (i >= 50) {
                Check.due("the first of them", x.guestAt(0), (i - 50) * 5 % 12);
                x.lose(0);
            }
        }
        Check.due("messages", x.messages(), 50);
        Check.due("lost, by lose() alone", x.lost(), 100);
        for (int place = 0; place < 50; place++) {
            Check.due("guestAt(" + place + ")", x.guestAt(place), (place + 100) * 5 % 12);
        }
    }

    // ---- promises 12 to 14

    private static void deliverFirstAndLast() {
        Doc.says(12, PLACE);
        Doc.says(12, "Returns its kind.");
        KeyLeases one = withRow(1);
        Check.due("the only one", one.deliver(0), Inns.SEEKS);
        Check.due("its offer", one.deliver(0), Inns.OFFERS);
        Check.due("none waits", one.messages(), 0);
        KeyLeases x = withRow(58);
        Inns.fillTo(x, 5, 59);
        Inns.fillTo(x, 6, 60);
        x.deliver(59);
        Check.due("the last of 60: an offer for its guest", x.guestAt(59), 6);
        x.deliver(58);
        Check.due("the one before: an offer for its guest", x.guestAt(59), 5);
        x.deliver(0);
        Check.due("the first: an offer for its guest", x.guestAt(59), 0);
        Check.due("the second comes first", x.kindAt(0), Inns.SEEKS);
        Check.due("the others move up", x.guestAt(57), 6);
    }

    private static void deliverWithoutAnAnswer() {
        Doc.says(12, "Delivers a message; it is handled, and perhaps another one is sent.");
        KeyLeases x = withRow(59);
        x.seek(1);
        x.giveUp(1);
        x.deliver(59);
        Check.due("deliver", x.deliver(59), Inns.OFFERS);
        Check.due("59 wait: nothing is sent", x.messages(), 59);
    }

    private static void loseFirstAndLast() {
        Doc.says(13, PLACE);
        Doc.says(13, "Returns its kind.");
        KeyLeases x = withRow(59);
        x.seek(1);
        x.deliver(59);
        Check.due("the last of 60", x.lose(59), Inns.OFFERS);
        Check.due("59 wait", x.messages(), 59);
        for (int left = 58; left >= 0; left--) {
            Check.due("the first", x.lose(0), Inns.SEEKS);
            Check.due("messages", x.messages(), left);
        }
        Check.due("lost", x.lost(), 60);
        Check.due("delivered", x.delivered(), 1);
        Check.due("it seeks on", x.doingOf(1), 1);
    }

    private static void deliverAllOfNone() {
        Doc.says(14, "Delivers the first message, as long as there is one.");
        KeyLeases x = new KeyLeases();
        Check.due("no messages", x.deliverAll(), 0);
        Check.due("delivered", x.delivered(), 0);
        Check.due("wouldDeliver", x.wouldDeliver(), 0);
        KeyLeases unheard = withRow(1);
        Check.due("one message and its offer", unheard.deliverAll(), 2);
        Check.due("no messages again", unheard.deliverAll(), 0);
    }

    private static void deliverAllOfSixty() {
        Doc.says(14, "Returns how many are delivered.");
        KeyLeases x = withRow(60);
        Check.due("60 and their offers", x.deliverAll(), 120);
        Check.due("messages", x.messages(), 0);
        Check.due("lost", x.lost(), 0);
        Check.due("delivered", x.delivered(), 120);
    }

    // 60 that seek, 60 offers, of which 12 are heard: 12 wants, 12 yes, and as there are ghosts, 12 refusals.
    private static void deliverAllWithLongAnswers() {
        Doc.says(14, "Returns how many are delivered.");
        KeyLeases x = new KeyLeases();
        for (int room = 0; room < 12; room++) {
            if (room != 9) {
                x.turnGhost(room);
            }
        }
        for (int guest = 0; guest < 12; guest++) {
            Inns.fillTo(x, guest, 4 * (guest + 1));
        }
        for (int guest = 0; guest < 12; guest++) {
            x.seek(guest);
        }
        Check.due("wouldDeliver", x.wouldDeliver(), 156);
        Check.due("wouldHouse", x.wouldHouse(), 0);
        Check.due("deliverAll", x.deliverAll(), 156);
        Check.due("shutSoFar", x.shutSoFar(), 12);
        Check.due("refused", x.sent(Inns.REFUSES), 12);
        Check.due("lost", x.lost(), 0);
        Check.due("freeRooms", x.freeRooms(), 4);
    }

    // ---- promises 45 to 48

    private static void messages() {
        Doc.says(45, "Returns 0 to 60.");
        KeyLeases x = new KeyLeases();
        Check.due("none", x.messages(), 0);
        for (int i = 1; i <= 60; i++) {
            x.seek(0);
            x.giveUp(0);
            Check.due("messages", x.messages(), i);
        }
        x.seek(0);
        Check.due("one more", x.messages(), 60);
        x.deliverAll();
        Check.due("none again", x.messages(), 0);
    }

    private static void looksAtFirstAndLast() {
        for (int guest : new int[] {0, 11}) {
            for (int room : new int[] {0, 15}) {
                KeyLeases x = new KeyLeases();
                Inns.houseIn(x, guest, room);
                x.renew(guest);
                Inns.fillTo(x, 5, 59);
                x.renew(guest);
                for (int place : new int[] {0, 59}) {
                    Doc.says(46, PLACE);
                    Check.due("kindAt(" + place + ")", x.kindAt(place), Inns.WANTS);
                    Doc.says(47, PLACE);
                    Check.due("guestAt(" + place + ")", x.guestAt(place), guest);
                    Doc.says(48, PLACE);
                    Check.due("roomAt(" + place + ")", x.roomAt(place), room);
                }
                Check.due("kindAt(1)", x.kindAt(1), Inns.SEEKS);
                Check.due("kindAt(58)", x.kindAt(58), Inns.SEEKS);
                Check.due("guestAt(58)", x.guestAt(58), 5);
            }
        }
    }

    private static void kinds() {
        Doc.says(46, "Returns 0 seeks, 1 offers, 2 wants, 3 yes, 4 no, 5 refuses, 6 leaves.");
        Doc.says(Doc.TERMS, KINDS);
        KeyLeases x = new KeyLeases();
        x.seek(0);
        for (int kind = 0; kind < 4; kind++) {
            Check.due("kindAt", x.kindAt(0), kind);
            Check.due("guestAt", x.guestAt(0), 0);
            Check.due("deliver", x.deliver(0), kind);
        }
        x.leave(0);
        Check.due("kindAt", x.kindAt(0), 6);
        Check.due("deliver", x.deliver(0), 6);
        KeyLeases late = Inns.withWant();
        late.tick(10);
        late.deliver(0);
        Check.due("kindAt", late.kindAt(0), 4);
        Check.due("deliver", late.deliver(0), 4);
        KeyLeases haunted = Inns.withRefusal();
        Check.due("kindAt", haunted.kindAt(0), 5);
        Check.due("deliver", haunted.deliver(0), 5);
    }

    private static void roomsThatMessagesTell() {
        Doc.says(Doc.TERMS, KINDS);
        for (int room : new int[] {0, 15}) {
            KeyLeases x = new KeyLeases();
            x.reserve(3, room);
            x.seek(3);
            Check.dueThrows("roomAt: seeks", Check.NOT_NOW, x, () -> x.roomAt(0));
            x.deliver(0);
            Check.due("roomAt: offers", x.roomAt(0), room);
            x.deliver(0);
            Check.due("roomAt: wants", x.roomAt(0), room);
            x.keep(0);
            x.deliver(0);
            Check.due("roomAt: yes", x.roomAt(0), room);
            x.turnGhost(room);
            x.deliver(0);
            Check.due("roomAt: refuses", x.roomAt(0), room);
            x.goBack(0);
            x.deliverAll();
            x.leave(3);
            Check.due("roomAt: leaves", x.roomAt(0), room);
            x.goBack(0);
            x.tick(10);
            x.deliver(0);
            Check.due("roomAt: no", x.roomAt(0), room);
        }
    }

    // ---- promises 50 to 52, 56, 57

    private static void sent() {
        Doc.says(50, "- `kind`: 0 to 6, as by kindAt()");
        KeyLeases x = new KeyLeases();
        for (int kind = 0; kind <= 6; kind++) {
            Check.due("sent(" + kind + ") at first", x.sent(kind), 0);
        }
        x.seek(0);
        x.deliverAll();
        x.leave(0);
        int[] due = {1, 1, 1, 1, 0, 0, 1};
        for (int kind = 0; kind <= 6; kind++) {
            Check.due("sent(" + kind + ")", x.sent(kind), due[kind]);
        }
        KeyLeases full = withRow(60);
        full.seek(0);
        Check.due("the one that is lost, too", full.sent(Inns.SEEKS), 61);
    }

    private static void lost() {
        Doc.says(51, "Returns how many messages were lost so far, by lose(), and as no place was left.");
        KeyLeases x = withRow(60);
        Check.due("none", x.lost(), 0);
        x.seek(1);
        Check.due("as no place was left", x.lost(), 1);
        x.lose(0);
        Check.due("by lose()", x.lost(), 2);
        x.seek(2);
        Check.due("a place was left", x.lost(), 2);
        x.deliverAll();
        Check.due("none by deliverAll()", x.lost(), 2);
    }

    private static void delivered() {
        Doc.says(52, "Returns how many messages were delivered so far.");
        KeyLeases x = withRow(60);
        Check.due("none", x.delivered(), 0);
        x.deliver(59);
        Check.due("one", x.delivered(), 1);
        x.lose(59);
        x.seek(1);
        Check.due("not those that are lost", x.delivered(), 1);
        x.deliverAll();
        Check.due("all: 59 and 59 offers, one offer, a want and a yes", x.delivered(), 1 + 60 + 60 + 2);
    }

    private static void wouldDeliver() {
        Doc.says(56, "Tells how many messages would be delivered by deliverAll().");
        Check.due("no messages", new KeyLeases().wouldDeliver(), 0);
        KeyLeases full = withRow(60);
        Check.dueStill("60 messages", full, () -> full.wouldDeliver(), 120);
        KeyLeases booked = Inns.booked();
        booked.leave(0);
        Check.dueStill("no room is free", booked, () -> booked.wouldDeliver(), 1);
    }

    private static void wouldHouse() {
        Doc.says(57, "Tells how many guests would have rooms behind that.");
        Check.due("no messages, no guests", new KeyLeases().wouldHouse(), 0);
        KeyLeases booked = Inns.booked();
        Check.dueStill("no messages, all guests", booked, () -> booked.wouldHouse(), 12);
        KeyLeases all = new KeyLeases();
        all.turnGhost(9);
        for (int guest = 0; guest < 12; guest++) {
            all.seek(guest);
        }
        Check.dueStill("all would", all, () -> all.wouldHouse(), 12);
        Check.due("none has yet", all.housed(), 0);
        all.turnGhost(11);
        Check.due("one less, by a ghost", all.wouldHouse(), 11);
    }
}
