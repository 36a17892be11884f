import java.util.ArrayList;
import java.util.Arrays;
import java.util.List;
import java.util.regex.Pattern;

/**
 * The document told once more, as plainly as can be and in another shape than the class: each state is a tree of
 * small objects that is copied whole, courses are matched as texts, and ends are looked for tick by tick.
 * A call that throws answers by the name of the exception.
 */
final class PlainInn {
    static final String NO_SUCH = "IndexOutOfBoundsException";
    static final String NOT_NOW = "IllegalStateException";
    static final String BAD = "IllegalArgumentException";

    private static final class Letter {
        final String kind;
        final int guest;
        final int room;
        final int number;
        final int answered;
        final int ticks;

        Letter(String kind, int guest, int room, int number, int answered, int ticks) {
            this.kind = kind;
            this.guest = guest;
            this.room = room;
            this.number = number;
            this.answered = answered;
            this.ticks = ticks;
        }
    }

    private static final List<String> KINDS = List.of("seeks", "offers", "wants", "yes", "no", "refuses", "leaves");
    private static final List<String> DOINGS = List.of("rests", "seeks", "wants", "has");
    private static final List<String> STATES = List.of("free", "offered", "leased", "shut");

    private static final class Guest {
        String doing = "rests";
        int room = -1;
        int latestWant = -1;
        int latestWantAt;
        int stayBegan;
        int stayEnds;
        int stays;
        int leasedLast = -1;
        int reserved = -1;

        Guest copy() {
            Guest to = new Guest();
            to.doing = doing;
            to.room = room;
            to.latestWant = latestWant;
            to.latestWantAt = latestWantAt;
            to.stayBegan = stayBegan;
            to.stayEnds = stayEnds;
            to.stays = stays;
            to.leasedLast = leasedLast;
            to.reserved = reserved;
            return to;
        }

        List<Integer> askingTimes() {
            int length = stayEnds - stayBegan;
            return List.of(stayBegan + length / 2, stayBegan + 7 * length / 8);
        }
    }

    private static final class Room {
        String state = "free";
        int guest = -1;
        int until;
        int latestYes;
        boolean ghost;

        Room copy() {
            Room to = new Room();
            to.state = state;
            to.guest = guest;
            to.until = until;
            to.latestYes = latestYes;
            to.ghost = ghost;
            return to;
        }

        void becomes(String newState, int newGuest, int newUntil) {
            state = newState;
            guest = newGuest;
            until = newUntil;
        }
    }

    private static final class State {
        final List<Guest> guests = new ArrayList<>();
        final List<Room> rooms = new ArrayList<>();
        final List<Letter> row = new ArrayList<>();
        int[] sent = new int[7];
        int time;
        int numbers;
        int lost;
        int delivered;
        int leases;
        int evicted;
        int shut;
        int leaseTicks = 60;
        int holdTicks = 10;
        int shutTicks = 50;

        State copy() {
            State to = new State();
            for (Guest guest : guests) {
                to.guests.add(guest.copy());
            }
            for (Room room : rooms) {
                to.rooms.add(room.copy());
            }
            to.row.addAll(row);
            to.sent = sent.clone();
            to.time = time;
            to.numbers = numbers;
            to.lost = lost;
            to.delivered = delivered;
            to.leases = leases;
            to.evicted = evicted;
            to.shut = shut;
            to.leaseTicks = leaseTicks;
            to.holdTicks = holdTicks;
            to.shutTicks = shutTicks;
            return to;
        }
    }

    private static final Pattern COURSE = Pattern.compile(part() + "(;" + part() + ")*");
    private State s = new State();
    private final State[] slots = new State[2];
    private final List<State> saved = new ArrayList<>();
    private String buffer = "";

    PlainInn() {
        for (int i = 0; i < 12; i++) {
            s.guests.add(new Guest());
        }
        for (int i = 0; i < 16; i++) {
            s.rooms.add(new Room());
        }
        s.rooms.get(9).ghost = true;
    }

    private static String part() {
        return "([sgr]([0-9]|10|11)|[dx]([0-9]|[1-5][0-9])|t([1-9]|[1-9][0-9]|100))";
    }

    /** The answer to a call: a number as a text, or the name of the exception. */
    String call(String name, int a, int b) {
        boolean noGuest = a < 0 || a > 11;
        boolean noRoom = a < 0 || a > 15;
        boolean noPlace = a < 0 || a >= s.row.size();
        switch (name) {
            case "seek": return noGuest ? NO_SUCH : !doing(a, "rests") ? NOT_NOW : save(() -> seek(a));
            case "leave": return noGuest ? NO_SUCH : !doing(a, "has") ? NOT_NOW : save(() -> leave(a));
            case "giveUp": return noGuest ? NO_SUCH : !doing(a, "seeks") && !doing(a, "wants") ? NOT_NOW
                : save(() -> giveUp(a));
            case "renew": return noGuest ? NO_SUCH : !doing(a, "has") ? NOT_NOW : save(() -> renew(a));
            case "reserve": return noGuest || b < 0 || b > 15 ? NO_SUCH : reserver(b) >= 0 ? NOT_NOW
                : save(() -> reserve(a, b));
            case "unreserve": return noGuest ? NO_SUCH : guest(a).reserved < 0 ? NOT_NOW : save(() -> reserve(a, -1));
            case "turnGhost": return noRoom ? NO_SUCH : save(() -> turnGhost(a));
            case "changeLease": return a < 8 || a > 200 ? BAD : save(() -> changeLease(a));
            case "changeHold": return a < 1 || a > 50 ? BAD : save(() -> changeHold(a));
            case "changeShut": return a < 1 || a > 200 ? BAD : save(() -> changeShut(a));
            case "deliver": return noPlace ? NO_SUCH : save(() -> deliver(a));
            case "lose": return noPlace ? NO_SUCH : save(() -> lose(a));
            case "deliverAll": return save(() -> deliverAll());
            case "tick": return a < 1 || a > 100 ? BAD : save(() -> tick(a));
            case "append": return append(a);
            case "clearBuffer": return clearBuffer();
            case "firstError": return text(firstError());
            case "play": return play();
            case "keep": return a < 0 || a > 1 ? BAD : keep(a);
            case "goBack": return a < 0 || a > 1 ? BAD : slots[a] == null ? NOT_NOW : save(() -> goBack(a));
            case "undo": return saved.isEmpty() ? NOT_NOW : undo();
            default: return look(name, a);
        }
    }

    private String look(String name, int a) {
        boolean isAboutGuest = List.of("doingOf", "roomOf", "ticksLeft", "ticksToRenewal", "isHaunted", "staysOf",
            "roomFor").contains(name);
        boolean isAboutRoom = List.of("stateOf", "guestOf", "ticksOf", "reservedFor", "hasGhost").contains(name);
        boolean isAboutPlace = List.of("kindAt", "guestAt", "roomAt").contains(name);
        if (isAboutGuest) {
            return a < 0 || a > 11 ? NO_SUCH : lookAtGuest(name, a);
        }
        if (isAboutRoom) {
            return a < 0 || a > 15 ? NO_SUCH : lookAtRoom(name, a);
        }
        if (isAboutPlace) {
            return a < 0 || a >= s.row.size() ? NO_SUCH : lookAtLetter(name, s.row.get(a));
        }
        return lookAtAll(name, a);
    }

    private String lookAtGuest(String name, int a) {
        Guest g = guest(a);
        switch (name) {
            case "doingOf": return text(DOINGS.indexOf(g.doing));
            case "roomOf": return doing(a, "wants") || doing(a, "has") ? text(g.room) : NOT_NOW;
            case "ticksLeft": return doing(a, "has") ? text(g.stayEnds - s.time) : NOT_NOW;
            case "ticksToRenewal": return ticksToRenewal(g);
            case "isHaunted": return text(doing(a, "has") && s.rooms.get(g.room).ghost ? 1 : 0);
            case "staysOf": return text(g.stays);
            default: return roomFor(a) < 0 ? NOT_NOW : text(roomFor(a));
        }
    }

    private String ticksToRenewal(Guest g) {
        if (g.doing.equals("has")) {
            for (int at : g.askingTimes()) {
                if (at > s.time) {
                    return text(at - s.time);
                }
            }
        }
        return NOT_NOW;
    }

    private String lookAtRoom(String name, int a) {
        Room r = s.rooms.get(a);
        switch (name) {
            case "stateOf": return text(STATES.indexOf(r.state));
            case "guestOf": return r.state.equals("offered") || r.state.equals("leased") ? text(r.guest) : NOT_NOW;
            case "ticksOf": return r.state.equals("free") ? NOT_NOW : text(r.until - s.time);
            case "reservedFor": return reserver(a) < 0 ? NOT_NOW : text(reserver(a));
            default: return text(r.ghost ? 1 : 0);
        }
    }

    private static String lookAtLetter(String name, Letter letter) {
        switch (name) {
            case "kindAt": return text(KINDS.indexOf(letter.kind));
            case "guestAt": return text(letter.guest);
            default: return letter.kind.equals("seeks") ? NOT_NOW : text(letter.room);
        }
    }

    private String lookAtAll(String name, int a) {
        switch (name) {
            case "housed": return text(housed(s));
            case "leasedByRooms":
            case "leasedByGuests": return text(inState("leased"));
            case "freeRooms": return text(inState("free"));
            case "nextFreeByRooms":
            case "nextFreeByTicks": return inState("free") == 16 ? NOT_NOW : text(nextFree());
            case "leaseTicks": return text(s.leaseTicks);
            case "holdTicks": return text(s.holdTicks);
            case "shutTicks": return text(s.shutTicks);
            case "messages": return text(s.row.size());
            case "time": return text(s.time);
            case "sent": return a < 0 || a > 6 ? BAD : text(s.sent[a]);
            case "lost": return text(s.lost);
            case "delivered": return text(s.delivered);
            case "leases": return text(s.leases);
            case "evicted": return text(s.evicted);
            case "shutSoFar": return text(s.shut);
            case "savedStates": return text(saved.size());
            case "wouldDeliver": return text(onCopy(() -> deliverAll()));
            case "wouldHouse": return text(onCopy(() -> deliverAll() * 0 + housed(s)));
            case "leasedShare": return Double.toString(inState("leased") / 16.0);
            default: throw new AssertionError(name);
        }
    }

    boolean[] slotsTaken() {
        return new boolean[] {slots[0] != null, slots[1] != null};
    }

    String buffer() {
        return buffer;
    }

    // ---- saving

    private interface Action {
        int run();
    }

    private String save(Action action) {
        saved.add(s.copy());
        if (saved.size() > 6) {
            saved.remove(0);
        }
        return text(action.run());
    }

    private int onCopy(Action action) {
        State before = s;
        s = s.copy();
        int answer = action.run();
        s = before;
        return answer;
    }

    private String keep(int slot) {
        slots[slot] = s.copy();
        return "";
    }

    private int goBack(int slot) {
        s = slots[slot].copy();
        return 0;
    }

    private String undo() {
        s = saved.remove(saved.size() - 1);
        return "";
    }

    // ---- guests

    private static String text(int number) {
        return Integer.toString(number);
    }

    private Guest guest(int a) {
        return s.guests.get(a);
    }

    private boolean doing(int a, String what) {
        return guest(a).doing.equals(what);
    }

    private static int housed(State state) {
        return (int) state.guests.stream().filter(g -> g.doing.equals("has")).count();
    }

    private int inState(String state) {
        return (int) s.rooms.stream().filter(r -> r.state.equals(state)).count();
    }

    private int nextFree() {
        int time = s.time;
        while (true) {
            time++;
            for (Room room : s.rooms) {
                if (!room.state.equals("free") && room.until == time) {
                    return time - s.time;
                }
            }
        }
    }

    private int send(String kind, int guest, int room, int answered, int ticks) {
        Letter letter = new Letter(kind, guest, room, s.numbers++, answered, ticks);
        s.sent[KINDS.indexOf(kind)]++;
        if (s.row.size() == 60) {
            s.lost++;
        } else {
            s.row.add(letter);
        }
        return letter.number;
    }

    private int seek(int a) {
        guest(a).doing = "seeks";
        send("seeks", a, -1, -1, 0);
        return s.row.size();
    }

    private int leave(int a) {
        int room = guest(a).room;
        send("leaves", a, room, -1, 0);
        guest(a).doing = "rests";
        return room;
    }

    private int giveUp(int a) {
        int before = DOINGS.indexOf(guest(a).doing);
        guest(a).doing = "rests";
        return before;
    }

    private int renew(int a) {
        guest(a).latestWant = send("wants", a, guest(a).room, -1, 0);
        guest(a).latestWantAt = s.time;
        return s.row.size();
    }

    private int reserver(int room) {
        for (int a = 0; a < 12; a++) {
            if (guest(a).reserved == room) {
                return a;
            }
        }
        return -1;
    }

    private int reserve(int a, int room) {
        int before = guest(a).reserved;
        guest(a).reserved = room;
        return room < 0 ? before : 0;
    }

    private int turnGhost(int room) {
        s.rooms.get(room).ghost = !s.rooms.get(room).ghost;
        return s.rooms.get(room).ghost ? 1 : 0;
    }

    private int changeLease(int ticks) {
        int before = s.leaseTicks;
        s.leaseTicks = ticks;
        return before;
    }

    private int changeHold(int ticks) {
        int before = s.holdTicks;
        s.holdTicks = ticks;
        return before;
    }

    private int changeShut(int ticks) {
        int before = s.shutTicks;
        s.shutTicks = ticks;
        return before;
    }

    // ---- messages

    private int roomFor(int a) {
        List<Integer> free = new ArrayList<>();
        for (int room = 0; room < 16; room++) {
            Room r = s.rooms.get(room);
            if (r.state.equals("offered") && r.guest == a) {
                return room;
            }
            if (r.state.equals("free") && (reserver(room) < 0 || reserver(room) == a)) {
                free.add(room);
            }
        }
        for (int wish : Arrays.asList(guest(a).reserved, guest(a).leasedLast)) {
            if (free.contains(wish)) {
                return wish;
            }
        }
        return free.isEmpty() ? -1 : free.get(0);
    }

    private int deliver(int place) {
        Letter letter = s.row.remove(place);
        s.delivered++;
        if (List.of("offers", "yes", "no").contains(letter.kind)) {
            toGuest(letter, guest(letter.guest));
        } else if (letter.kind.equals("seeks")) {
            int offered = roomFor(letter.guest);
            if (offered >= 0) {
                s.rooms.get(offered).becomes("offered", letter.guest, s.time + s.holdTicks);
                send("offers", letter.guest, offered, -1, 0);
            }
        } else {
            toInn(letter, s.rooms.get(letter.room));
        }
        return KINDS.indexOf(letter.kind);
    }

    private void toInn(Letter letter, Room room) {
        boolean leased = room.state.equals("leased") && room.guest == letter.guest;
        boolean offered = room.state.equals("offered") && room.guest == letter.guest;
        if (letter.kind.equals("wants")) {
            if (!leased && !offered) {
                send("no", letter.guest, letter.room, letter.number, 0);
                return;
            }
            int until = s.time + s.leaseTicks;
            room.becomes("leased", letter.guest, leased && room.until > until ? room.until : until);
            room.latestYes = send("yes", letter.guest, letter.room, letter.number, s.leaseTicks);
            guest(letter.guest).leasedLast = letter.room;
            s.leases++;
        } else if (leased && letter.number > room.latestYes) {
            if (letter.kind.equals("refuses")) {
                room.becomes("shut", -1, s.time + s.shutTicks);
                s.shut++;
            } else {
                room.becomes("free", -1, 0);
            }
        }
    }

    private void toGuest(Letter letter, Guest g) {
        if (letter.kind.equals("offers")) {
            if (g.doing.equals("seeks")) {
                g.doing = "wants";
                g.room = letter.room;
                renew(letter.guest);
            }
            return;
        }
        boolean wants = g.doing.equals("wants") && g.room == letter.room;
        boolean has = g.doing.equals("has") && g.room == letter.room;
        if (letter.answered != g.latestWant || !wants && !has) {
            return;
        }
        int ends = g.latestWantAt + letter.ticks;
        if (letter.kind.equals("no") || ends <= s.time) {
            g.doing = "rests";
        } else if (wants && s.rooms.get(letter.room).ghost) {
            send("refuses", letter.guest, letter.room, -1, 0);
            g.doing = "rests";
        } else {
            g.stays += wants ? 1 : 0;
            g.doing = "has";
            g.stayBegan = g.latestWantAt;
            g.stayEnds = ends;
        }
    }

    private int lose(int place) {
        s.lost++;
        return KINDS.indexOf(s.row.remove(place).kind);
    }

    private int deliverAll() {
        int count = 0;
        while (!s.row.isEmpty()) {
            deliver(0);
            count++;
        }
        return count;
    }

    private int tick(int ticks) {
        int before = s.evicted;
        for (int i = 0; i < ticks; i++) {
            s.time++;
            for (Room room : s.rooms) {
                if (!room.state.equals("free") && room.until == s.time) {
                    room.becomes("free", -1, 0);
                }
            }
            for (int a = 0; a < 12; a++) {
                if (doing(a, "has") && guest(a).stayEnds == s.time) {
                    guest(a).doing = "rests";
                    s.evicted++;
                } else if (doing(a, "has") && guest(a).askingTimes().contains(s.time)) {
                    renew(a);
                }
            }
        }
        return s.evicted - before;
    }

    // ---- texts

    private String append(int code) {
        if (code < 33 || code > 126) {
            return BAD;
        }
        if (buffer.length() == 60) {
            return NOT_NOW;
        }
        buffer += (char) code;
        return text(buffer.length());
    }

    private String clearBuffer() {
        int length = buffer.length();
        buffer = "";
        return text(length);
    }

    // A start can be gone on with if some end makes it a course;
    // "0" and "s0" are ends enough for all starts, and "1" for a "t".
    private int firstError() {
        for (int length = 1; length <= buffer.length(); length++) {
            String start = buffer.substring(0, length);
            if (List.of("", "0", "1", "s0").stream().noneMatch(end -> COURSE.matcher(start + end).matches())) {
                return length - 1;
            }
        }
        return buffer.length();
    }

    private String play() {
        if (!COURSE.matcher(buffer).matches()) {
            return BAD;
        }
        State before = s;
        List<State> savedBefore = new ArrayList<>(saved);
        s = s.copy();
        for (String part : buffer.split(";")) {
            String name = List.of("seek", "leave", "renew", "deliver", "lose", "tick")
                .get("sgrdxt".indexOf(part.charAt(0)));
            if (call(name, Integer.parseInt(part.substring(1)), 0).contains("Exception")) {
                s = before;
                saved.clear();
                saved.addAll(savedBefore);
                return NOT_NOW;
            }
        }
        saved.clear();
        saved.addAll(savedBefore);
        State played = s;
        s = before;
        buffer = "";
        return save(() -> {
            s = played;
            return housed(s);
        });
    }
}
