import java.lang.reflect.InvocationTargetException;
import java.lang.reflect.Method;
import java.util.ArrayList;
import java.util.HashMap;
import java.util.List;
import java.util.Map;
import java.util.Random;

/** Long random runs, always the same ones, on the class and on PlainInn: every answer is compared. */
public final class RandomRunsTest {
    private static final int RUNS = 400;
    private static final int CALLS = 512;
    private static final String[] LOOKS_AT_GUEST = {"doingOf", "roomOf", "ticksLeft", "ticksToRenewal", "isHaunted",
        "staysOf", "roomFor"};
    private static final String[] LOOKS_AT_ROOM = {"stateOf", "guestOf", "ticksOf", "reservedFor", "hasGhost"};
    private static final String[] LOOKS_AT_PLACE = {"kindAt", "guestAt", "roomAt"};
    private static final String[] LOOKS_AT_ALL = {"housed", "leasedByRooms", "leasedByGuests", "freeRooms",
        "nextFreeByRooms", "nextFreeByTicks", "leaseTicks", "holdTicks", "shutTicks", "messages", "time", "lost",
        "delivered", "leases", "evicted", "shutSoFar", "wouldDeliver", "wouldHouse", "leasedShare", "savedStates",
        "firstError"};

    private static final Map<String, Method> METHODS = methods();

    private final Random random;
    private final KeyLeases x = new KeyLeases();
    private final PlainInn plain = new PlainInn();
    private final List<String> told = new ArrayList<>();
    // How the run goes: some runs tick little, some leave messages to wait, some are short of rooms.
    private final int tickLength;
    private final int loseChance;
    private final int guestsInUse;

    private RandomRunsTest(int seed) {
        random = new Random(seed);
        tickLength = new int[] {1, 3, 10, 40, 100}[random.nextInt(5)];
        loseChance = new int[] {0, 1, 3, 10}[random.nextInt(4)];
        guestsInUse = new int[] {1, 2, 4, 12}[random.nextInt(4)];
    }

    public static void main(String[] args) throws Exception {
        for (int seed = 0; seed < RUNS; seed++) {
            new RandomRunsTest(seed).run();
        }
        Check.finish("RandomRunsTest");
    }

    private void run() throws Exception {
        boolean full = random.nextInt(4) == 0;
        if (full) {
            for (int i = 0; i < 57; i++) {
                compare("seek", 11, 0);
                compare("giveUp", 11, 0);
            }
        }
        if (random.nextInt(2) == 0) {
            compare("changeLease", 8 + random.nextInt(20), 0);
            compare("changeHold", 1 + random.nextInt(8), 0);
            compare("changeShut", 1 + random.nextInt(12), 0);
        }
        while (told.size() < CALLS) {
            act(full);
            if (random.nextInt(6) == 0) {
                look();
            }
            if (random.nextInt(16) == 0) {
                long want = Digest.of(x, plain.slotsTaken(), plain.buffer());
                Check.due(x.digest() == want ? "digest" : told + " then digest()", x.digest(), want);
            }
        }
    }

    private void act(boolean full) throws Exception {
        int guest = random.nextInt(40) == 0 ? random.nextInt(16) - 2 : random.nextInt(guestsInUse);
        int room = random.nextInt(40) == 0 ? random.nextInt(20) - 2 : random.nextInt(guestsInUse + 1);
        switch (random.nextInt(30)) {
            case 0: case 1: case 2: case 3: compare("seek", guest, 0); break;
            case 4: compare("leave", guest, 0); break;
            case 5: compare("giveUp", guest, 0); break;
            case 6: case 7: compare("renew", guest, 0); break;
            case 8: compare("reserve", guest, room); break;
            case 9: compare("unreserve", guest, 0); break;
            case 10: compare("turnGhost", room, 0); break;
            case 11: changeLengths(); break;
            case 12: case 13: case 14: case 15: case 16: case 17: case 18:
                compare("deliver", place(full), 0);
                break;
            case 19:
                if (random.nextInt(10) < loseChance) {
                    compare("lose", place(full), 0);
                }
                break;
            case 20:
                if (random.nextInt(4) == 0 && !full) {
                    compare("deliverAll", 0, 0);
                }
                break;
            case 21: case 22: case 23: case 24:
                compare("tick", random.nextInt(50) == 0 ? random.nextInt(120) - 5 : 1 + random.nextInt(tickLength), 0);
                break;
            case 25: case 26: type(); break;
            case 27: compare("keep", random.nextInt(10) == 0 ? random.nextInt(5) - 1 : random.nextInt(2), 0); break;
            case 28:
                if (random.nextInt(3) == 0) {
                    compare("goBack", random.nextInt(10) == 0 ? random.nextInt(5) - 1 : random.nextInt(2), 0);
                }
                break;
            default: compare("undo", 0, 0); break;
        }
    }

    private int place(boolean full) {
        int waiting = x.messages();
        if (random.nextInt(30) == 0) {
            return waiting + random.nextInt(3) - 1;
        }
        if (random.nextInt(60) == 0) {
            return -1;
        }
        // Behind the messages that fill the row, the others come and go.
        int first = full ? Math.max(0, waiting - 5) : 0;
        return waiting == 0 ? 0 : first + random.nextInt(waiting - first);
    }

    private void changeLengths() throws Exception {
        switch (random.nextInt(3)) {
            case 0:
                compare("changeLease", random.nextBoolean() ? 8 + random.nextInt(12) : random.nextInt(210), 0);
                break;
            case 1: compare("changeHold", random.nextInt(54) - 1, 0); break;
            default: compare("changeShut", random.nextInt(204) - 1, 0); break;
        }
    }

    private void type() throws Exception {
        if (random.nextInt(4) == 0) {
            compare("clearBuffer", 0, 0);
        }
        int parts = 1 + random.nextInt(4);
        for (int part = 0; part < parts; part++) {
            String text = "sgrdxt".charAt(random.nextInt(6)) + "" + random.nextInt(random.nextInt(4) == 0 ? 110 : 3);
            typeSigns(text + (part + 1 < parts || random.nextInt(8) == 0 ? ";" : ""));
        }
        if (random.nextInt(6) == 0) {
            typeSigns(Character.toString((char) (30 + random.nextInt(100))));
        }
        compare("firstError", 0, 0);
        compare("play", 0, 0);
    }

    private void typeSigns(String text) throws Exception {
        for (int i = 0; i < text.length(); i++) {
            compare("append", text.charAt(i), 0);
        }
    }

    private void look() throws Exception {
        for (String name : LOOKS_AT_ALL) {
            compareOnly(name, 0, 0);
        }
        for (int guest = -1; guest <= 12; guest++) {
            compareEach(LOOKS_AT_GUEST, guest);
        }
        for (int room = -1; room <= 16; room++) {
            compareEach(LOOKS_AT_ROOM, room);
        }
        for (int place = -1; place <= x.messages(); place++) {
            compareEach(LOOKS_AT_PLACE, place);
        }
        for (int kind = -1; kind <= 7; kind++) {
            compareOnly("sent", kind, 0);
        }
        for (int guest = 0; guest < 12; guest++) {
            dueNotBehindTheInn(guest);
        }
    }

    // What the document puts in brackets: ticks end for the guest not behind the inn.
    private void dueNotBehindTheInn(int guest) {
        if (x.doingOf(guest) == 3) {
            int room = x.roomOf(guest);
            boolean leased = x.stateOf(room) == 2 && x.guestOf(room) == guest;
            Check.due("leased to the guest who has it", leased, true);
            Check.due("not behind the inn", leased && x.ticksLeft(guest) <= x.ticksOf(room), true);
        }
    }

    private void compareEach(String[] names, int a) throws Exception {
        for (String name : names) {
            compareOnly(name, a, 0);
        }
    }

    private void compare(String name, int a, int b) throws Exception {
        told.add(name + "(" + a + (name.equals("reserve") ? ", " + b : "") + ")");
        compareOnly(name, a, b);
    }

    private void compareOnly(String name, int a, int b) throws Exception {
        String want = plain.call(name, a, b);
        String got = answer(name, a, b);
        boolean answersNothing = got.equals("null");
        boolean asDue = got.equals(want) || answersNothing && !want.contains("Exception");
        Check.due(asDue ? name : told + " then " + name + "(" + a + "): " + got + ", due is " + want + ":",
            asDue, true);
    }

    private String answer(String name, int a, int b) throws Exception {
        Method method = METHODS.get(name);
        try {
            Object got;
            switch (method.getParameterCount()) {
                case 0: got = method.invoke(x); break;
                case 1: got = method.invoke(x, a); break;
                default: got = method.invoke(x, a, b); break;
            }
            return got instanceof Boolean ? ((Boolean) got ? "1" : "0") : String.valueOf(got);
        } catch (InvocationTargetException thrown) {
            return thrown.getCause().getClass().getSimpleName();
        }
    }

    private static Map<String, Method> methods() {
        Map<String, Method> methods = new HashMap<>();
        for (Method method : KeyLeases.class.getMethods()) {
            methods.put(method.getName(), method);
        }
        return methods;
    }
}
