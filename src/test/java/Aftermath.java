import java.util.ArrayList;
import java.util.List;

/**
 * What a call changed, told by all that comes after it: two inns that were made in the same way, one with the call and
 * one without, are led through the same endings. So that is compared, too, what no single call shows: what messages
 * tell, what guests remember, what the slots and the saved states hold.
 */
final class Aftermath {
    private static final long THROWN = Long.MIN_VALUE;
    private static final int ENDINGS = 5;

    private Aftermath() {
    }

    interface Call {
        long on(KeyLeases x);
    }

    /** The call throws just this exception, and changes nothing. */
    static void dueRefused(String what, Class<? extends RuntimeException> want, Inns.Maker maker, Call call) {
        Class<?> got = thrownBy(call, maker.make());
        Check.due(what + " threw " + got + "; " + want, got == want, true);
        dueSame(what, maker, x -> thrownBy(call, x) == null ? 1 : 0, x -> 0);
    }

    /** Behind the one call all goes on as behind the other. */
    static void dueSame(String what, Inns.Maker maker, Call one, Call other) {
        for (int ending = 0; ending < ENDINGS; ending++) {
            KeyLeases x = maker.make();
            KeyLeases twin = maker.make();
            one.on(x);
            other.on(twin);
            Check.due(what + ": the same follows, ending " + ending, follow(x, ending).equals(follow(twin, ending)),
                true);
        }
    }

    private static Class<?> thrownBy(Call call, KeyLeases x) {
        try {
            call.on(x);
        } catch (RuntimeException thrown) {
            return thrown.getClass();
        }
        return null;
    }

    private static List<Long> follow(KeyLeases x, int ending) {
        List<Long> told = new ArrayList<>();
        told.add(x.digest());
        switch (ending) {
            case 0: undoAll(x, told); break;
            case 1: goToSlots(x, told); break;
            case 2: goOn(x, told); break;
            case 3: deliverFromBehind(x, told); break;
            default: playBuffer(x, told); break;
        }
        return told;
    }

    private static void undoAll(KeyLeases x, List<Long> told) {
        for (int i = 0; i < 7; i++) {
            tell(x, told, Calls::undo);
        }
        goOn(x, told);
    }

    private static void goToSlots(KeyLeases x, List<Long> told) {
        for (int each = 1; each >= 0; each--) {
            int slot = each;
            tell(x, told, y -> Calls.goBack(y, slot));
            goOn(x, told);
        }
    }

    private static void goOn(KeyLeases x, List<Long> told) {
        for (int each = 0; each < 12; each++) {
            int guest = each;
            tell(x, told, y -> y.seek(guest));
        }
        for (int i = 0; i < 8; i++) {
            tell(x, told, y -> y.deliver(0));
            tell(x, told, y -> y.deliverAll());
            tell(x, told, y -> y.tick(someTicks(y)));
        }
    }

    // Ticks of other lengths, but the same ones for the twin.
    private static int someTicks(KeyLeases x) {
        return 1 + x.time() % 11;
    }

    private static void deliverFromBehind(KeyLeases x, List<Long> told) {
        for (int i = 0; i < 80; i++) {
            tell(x, told, y -> y.deliver(y.messages() - 1));
        }
        goOn(x, told);
    }

    private static void playBuffer(KeyLeases x, List<Long> told) {
        tell(x, told, y -> y.firstError());
        tell(x, told, y -> y.play());
        tell(x, told, y -> y.append('t'));
        tell(x, told, y -> y.append('3'));
        tell(x, told, y -> y.play());
        goOn(x, told);
    }

    private static void tell(KeyLeases x, List<Long> told, Call call) {
        try {
            told.add(call.on(x));
        } catch (RuntimeException thrown) {
            told.add(THROWN + thrown.getClass().getName().hashCode());
        }
        told.add(x.digest());
    }
}
