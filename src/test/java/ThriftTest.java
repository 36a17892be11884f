import java.lang.management.ManagementFactory;

/** What an object and its calls take of the machine's memory: an object is made once, calls make nothing. */
public final class ThriftTest {
    private static final int CALLS = 400;

    private interface Call {
        void on(KeyLeases x);
    }

    public static void main(String[] args) {
        long bytes = bytesOf(() -> new KeyLeases());
        Check.due("a new object takes under 60,000 bytes, not " + bytes, bytes < 60_000, true);
        dueNothing("seek and giveUp", x -> {
            x.seek(1);
            x.giveUp(1);
        });
        dueNothing("deliver", x -> {
            x.seek(1);
            x.deliver(x.messages() - 1);
            x.undo();
            x.undo();
        });
        dueNothing("deliverAll", x -> {
            x.deliverAll();
            x.undo();
        });
        dueNothing("tick", x -> x.tick(100));
        dueNothing("play", x -> {
            x.append('t');
            x.append('9');
            x.play();
        });
        dueNothing("keep and goBack", x -> {
            x.keep(0);
            x.goBack(0);
        });
        dueNothing("nextFreeByTicks", x -> x.nextFreeByTicks());
        dueNothing("wouldDeliver", x -> x.wouldDeliver());
        dueNothing("wouldHouse", x -> x.wouldHouse());
        dueNothing("roomFor", x -> x.roomFor(3));
        dueNothing("firstError", x -> x.firstError());
        dueNothing("digest", x -> x.digest());
        Check.finish("ThriftTest");
    }

    private static long bytesOf(Runnable act) {
        com.sun.management.ThreadMXBean threads =
            (com.sun.management.ThreadMXBean) ManagementFactory.getThreadMXBean();
        long least = Long.MAX_VALUE;
        // The first rounds load classes; the least of all is what the act itself takes.
        for (int round = 0; round < 20; round++) {
            long before = threads.getCurrentThreadAllocatedBytes();
            act.run();
            least = Math.min(least, threads.getCurrentThreadAllocatedBytes() - before);
        }
        return least;
    }

    private static void dueNothing(String what, Call call) {
        KeyLeases x = new KeyLeases();
        x.changeLease(200);
        x.seek(0);
        x.deliverAll();
        for (int guest = 4; guest < 12; guest++) {
            x.seek(guest);
        }
        long bytes = bytesOf(() -> {
            for (int i = 0; i < CALLS / 20; i++) {
                call.on(x);
            }
        });
        Check.due(what + ": bytes", bytes < 64, true);
    }
}
