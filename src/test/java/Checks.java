import java.math.BigInteger;
import java.util.function.Supplier;

/** What the tests by hand share: ways to compare answers, and overlays to start from. */
abstract class Checks {
    static final int NONE = QuotaOverlay.NONE;
    static final Class<?> ARGUMENT = IllegalArgumentException.class;
    static final Class<?> STATE = IllegalStateException.class;
    static final Class<?> UNSUPPORTED = UnsupportedOperationException.class;

    private static String subject = "";
    private static int wrong = 0;
    private static int checks = 0;

    interface Call {
        long answer();
    }

    /** A call of which one argument is tried out. */
    interface Argument {
        long on(QuotaOverlay x, int value);
    }

    /** Names what the checks that follow are about. */
    static void subject(String text) {
        subject = text;
    }

    /** Names the sentence of the document's terms that the checks that follow are about, in its own words. */
    static void sentence(String words) {
        subject("'" + words + "'");
    }

    /** The same for a sentence of a promise. */
    static void promise(int number, String words) {
        subject("promise " + number + ", '" + words + "'");
    }

    static void fault(String text) {
        wrong++;
        System.out.println(subject + ": " + text);
    }

    static void due(String what, long got, long want) {
        checks++;
        if (got != want) {
            fault(what + " answered " + got + ", due is " + want);
        }
    }

    static void due(String what, boolean holds) {
        checks++;
        if (!holds) {
            fault(what + " does not hold");
        }
    }

    private static Class<?> thrownBy(Call call) {
        try {
            call.answer();
            return null;
        } catch (RuntimeException e) {
            return e.getClass();
        }
    }

    /** The call must throw just this, and must change nothing, the undo stack included. */
    static void refused(QuotaOverlay x, String what, Class<?> kind, Call call) {
        checks++;
        long before = x.digest();
        Class<?> thrown = thrownBy(call);
        if (thrown != kind) {
            fault(what + " threw " + thrown + ", due is " + kind);
        }
        due(what + " changes nothing", x.digest(), before);
    }

    static void accepted(String what, Call call) {
        checks++;
        Class<?> thrown = thrownBy(call);
        if (thrown != null) {
            fault(what + " threw " + thrown + ", an answer is due");
        }
    }

    /** The argument may be the least and the greatest of its range, on a new overlay each, and nothing beside it. */
    static void range(int low, int high, Supplier<QuotaOverlay> maker, Argument call) {
        accepted("the least value " + low, () -> call.on(maker.get(), low));
        accepted("the greatest value " + high, () -> call.on(maker.get(), high));
        QuotaOverlay x = maker.get();
        // The last ones would be in range if a part of their bits were lost.
        long[] others = {
            low - 1L, high + 1L, Integer.MIN_VALUE, Integer.MAX_VALUE, low + 256L, low + 65536L, low - 256L,
            Integer.MIN_VALUE + (long) low, Integer.MIN_VALUE + (long) high,
        };
        for (long other : others) {
            int value = (int) other;
            if (value == other && (value < low || value > high)) {
                refused(x, "the value " + value, ARGUMENT, () -> call.on(x, value));
            }
        }
    }

    /** An overlay in which everybody may join with any nonce for some time, and quotas hold nobody back. */
    static QuotaOverlay open() {
        QuotaOverlay x = new QuotaOverlay();
        x.setPuzzles(0, 1000, 100);
        x.setQuotas(4, 32);
        return x;
    }

    static QuotaOverlay withMembers(int... identities) {
        QuotaOverlay x = open();
        for (int i = 0; i < identities.length; i++) {
            x.admit(identities[i], 0, i == 0 ? NONE : identities[0]);
        }
        return x;
    }

    /** As many members as there may be: 0 and 10, 20 and so on up to 230. */
    static QuotaOverlay full() {
        QuotaOverlay x = withMembers(0);
        x.swarm(10, 10, 16, 1, 0);
        x.swarm(170, 10, 7, 1, 0);
        return x;
    }

    /**
     * The members 0, 1 and so on, each of which knows nobody but the one before it (and 0 knows 1): the table quota
     * lets a table have one entry, and the sponsor is the first that a new member learns.
     */
    static QuotaOverlay chain(int members) {
        QuotaOverlay x = open();
        x.setQuotas(1, 1);
        for (int identity = 0; identity < members; identity++) {
            x.admit(identity, 0, identity == 0 ? NONE : identity - 1);
        }
        return x;
    }

    static void write(QuotaOverlay x, String text) {
        x.clearScript();
        for (int i = 0; i < text.length(); i++) {
            x.type(text.charAt(i));
        }
    }

    static int runOf(QuotaOverlay x, String text) {
        write(x, text);
        return x.run();
    }

    static String table(QuotaOverlay x, int identity) {
        StringBuilder text = new StringBuilder();
        for (int bucket = 0; bucket < 8; bucket++) {
            for (int index = 0; x.entry(identity, bucket, index, 0) != NONE; index++) {
                text.append(bucket).append(':').append(x.entry(identity, bucket, index, 0))
                        .append('/').append(x.entry(identity, bucket, index, 1)).append(' ');
            }
        }
        return text.toString().trim();
    }

    static void dueTable(QuotaOverlay x, int identity, String want) {
        checks++;
        String got = table(x, identity);
        if (!got.equals(want)) {
            fault("the table of " + identity + " is " + got + ", due is " + want);
        }
    }

    static void dueOverlay(QuotaOverlay x, int... want) {
        for (int what = 0; what < want.length; what++) {
            due("overlay(" + what + ")", x.overlay(what), want[what]);
        }
    }

    static void dueCounts(QuotaOverlay x, int... want) {
        for (int what = 0; what < want.length; what++) {
            due("count(" + what + ")", x.count(what), want[what]);
        }
    }

    /** Result, steps, dead contacts and hit. */
    static void dueProbe(QuotaOverlay x, int from, int target, int... want) {
        for (int what = 0; what < want.length; what++) {
            due("probe(" + from + ", " + target + ", " + what + ")", x.probe(from, target, what), want[what]);
        }
    }

    static void dueMembers(QuotaOverlay x, int... want) {
        for (int index = 0; index < want.length; index++) {
            due("memberAt(" + index + ")", x.memberAt(index), want[index]);
        }
        due("memberAt(" + want.length + ")", x.memberAt(want.length), NONE);
    }

    /** The call is undoable: it saves one state, and undo() brings the one from before it back. */
    static void undoable(QuotaOverlay x, String what, Call call) {
        long values = valuesOf(x);
        int saved = savedStates(x);
        call.answer();
        due(what + " saves one state", x.undo(), saved);
        due(what + " undone", valuesOf(x), values);
    }

    /** The number of saved states, or 2 if there are 3: no call tells it without losing the oldest one. */
    static int savedStates(QuotaOverlay x) {
        x.tick(1);
        return x.undo();
    }

    /** A hash of all values but the number of saved states and the script. */
    static long valuesOf(QuotaOverlay x) {
        long hash = 1;
        for (int what = 0; what <= 8; what++) {
            hash = 1009 * (1009 * hash + x.overlay(what)) + x.count(what);
        }
        for (int i = 0; x.memberAt(i) != NONE; i++) {
            int identity = x.memberAt(i);
            for (int what = 0; what <= 4; what++) {
                hash = 1009 * hash + x.member(identity, what);
            }
            hash = 1009 * hash + table(x, identity).hashCode();
        }
        return hash;
    }

    /** With numbers that do not overflow, as the document writes the hash. */
    static int zerosByHand(int identity, int nonce, int epoch) {
        BigInteger word = BigInteger.ONE.shiftLeft(32);
        BigInteger h = BigInteger.valueOf(identity).multiply(BigInteger.valueOf(2654435761L))
                .add(BigInteger.valueOf(nonce).multiply(BigInteger.valueOf(40503)))
                .add(BigInteger.valueOf(epoch).multiply(BigInteger.valueOf(69069))).mod(word);
        h = h.xor(h.shiftRight(15));
        h = h.multiply(BigInteger.valueOf(2246822519L)).mod(word);
        h = h.xor(h.shiftRight(13));
        return 32 - h.bitLength();
    }

    static int smallestNonce(int identity, int epoch, int difficulty) {
        for (int nonce = 0; nonce <= 99999; nonce++) {
            if (zerosByHand(identity, nonce, epoch) >= difficulty) {
                return nonce;
            }
        }
        return NONE;
    }

    static long hash(long... values) {
        long h = 18554;
        for (long v : values) {
            h = 31 * h + v;
        }
        return h;
    }

    static void finish(String name) {
        System.out.println(name + ": " + checks + " checks, " + wrong + " wrong");
        if (wrong != 0) {
            System.exit(1);
        }
    }
}
