import java.lang.reflect.Method;
import java.util.Arrays;
import java.util.HashMap;
import java.util.Map;
import java.util.Random;
import java.util.TreeMap;

/**
 * Long runs of calls on one object, each answer compared with that of PlainZip: what one promise's sentence says of
 * another call's answer later. The same runs at each run of the test.
 */
public final class RunsTest {
    /** The document's promises end behind an object's 512th call. */
    private static final int CALLS = 512;
    private static final int RUNS = 1500;
    private static final long[] FAR = {Integer.MIN_VALUE, -2, -1, 0, 1, 2, 3, 4, 8, 9, 11, 12, 13, 16, 17, 40, 41, 255, 256,
        1980, 2000, 2001, 65535, 65536, 1000000, 1000001, Integer.MAX_VALUE};
    private static final int[] KINDS = {0, 0, 0, 1, 1, 2};
    private static final String[] NAMES = {"a", "b", "c/d", "..", "a/", "/", "\\", "e//", "x.txt", "\377", "/r", "../"};
    /** Each stands here as often as it is to be called. */
    private static final String[] CALLED = (
        "entry entry entry name data data data data data packed part part stamp attributes comment write write write add add "
        + "add read read read read place feed cut poke poke poke at half word about about about letter octet size size extra "
        + "right right same told told").split(" ");
    private static final String[] BUILT = "entry name name data data data data part part stamp about letter write".split(" ");
    private static final Map<String, Method> FACE = new HashMap<>();
    /** How often a call was met with an answer of this sort: a run that never gets there would test nothing. */
    private static final Map<String, Integer> MET = new TreeMap<>();

    public static void main(String[] args) throws ReflectiveOperationException {
        for (Method m : ZipForms.class.getMethods()) {
            FACE.put(m.getName(), m);
        }
        for (int seed = 0; seed < RUNS; seed++) {
            run(new Random(seed), seed);
        }
        areMet();
        if (args.length > 0) {
            System.out.println(MET);
        }
        Check.end();
    }

    private static void run(Random r, int seed) throws ReflectiveOperationException {
        ZipForms x = new ZipForms();
        PlainZip plain = new PlainZip();
        // A run that is often given arguments of every sort seldom gets far, so most runs are given few.
        int oneFarOf = 1 + (seed % 4) * 30;
        // A run that builds for long gets to what is FULL.
        boolean isBuilding = seed % 3 == 0;
        int oneClearOf = isBuilding ? 512 : 150;
        for (int call = 0; call < CALLS; call++) {
            String[] from = isBuilding && call < 200 ? BUILT : CALLED;
            String name = r.nextInt(oneClearOf) == 0 ? "clear" : from[r.nextInt(from.length)];
            // Most BYTES that are spoiled anywhere are not read, so half of the runs spoil DATA alone.
            boolean isCareful = seed % 2 == 0;
            if (isCareful && (name.equals("feed") || name.equals("cut"))) {
                name = "right";
            }
            long[] a = isCareful && name.equals("poke") ? pokeOfData(r, plain) : arguments(name, r, plain, oneFarOf);
            long want = plain.call(name, a);
            long got = answer(x, name, a);
            Check.due("run " + seed + ", call " + call + ": " + name + Arrays.toString(a), got, want);
            if (got != want) {
                return;
            }
            boolean isAnyNumber = name.equals("about") && a[1] == 6;
            MET.merge(name + (got < 0 && !isAnyNumber ? " " + got : ""), 1, Integer::sum);
            if (name.equals("right") && got == 0) {
                MET.merge("right is not", 1, Integer::sum);
            }
            if (name.equals("read") && got > 3) {
                MET.merge("read of many", 1, Integer::sum);
            }
        }
    }

    private static long answer(ZipForms x, String name, long[] a) throws ReflectiveOperationException {
        Method m = FACE.get(name);
        Object[] given = new Object[a.length];
        for (int i = 0; i < a.length; i++) {
            given[i] = m.getParameterTypes()[i] == long.class ? (Object) a[i] : (Object) (int) a[i];
        }
        return ((Number) m.invoke(x, given)).longValue();
    }

    private static long[] arguments(String name, Random r, PlainZip plain, int oneFarOf) {
        long[] a = sensible(name, r, (int) plain.call("told", 0), (int) plain.call("told", 1));
        Class<?>[] types = FACE.get(name).getParameterTypes();
        for (int i = 0; i < a.length; i++) {
            if (r.nextInt(oneFarOf) == 0 && r.nextInt(3) == 0) {
                a[i] = types[i] == long.class ? r.nextLong() : FAR[r.nextInt(FAR.length)];
            }
        }
        return a;
    }

    private static long[] pokeOfData(Random r, PlainZip plain) {
        long e = r.nextInt(12);
        long data = plain.call("about", e, 9) + 30 + plain.call("about", e, 1) + 20 * plain.call("about", e, 8);
        return new long[] {data + r.nextInt(8), 1 << r.nextInt(8)};
    }

    private static long[] sensible(String name, Random r, int entries, int bytes) {
        int e = r.nextInt(Math.max(1, entries));
        int n = r.nextInt(9);
        String letters = NAMES[r.nextInt(r.nextInt(5) == 0 ? NAMES.length : 3)];
        switch (name) {
            case "entry":
                int kind = KINDS[r.nextInt(KINDS.length)];
                return new long[] {kind, kind == 2 ? 0 : r.nextInt(3), Check.text(letters), letters.length()};
            case "name": return new long[] {e, Check.text(letters), letters.length()};
            // The last one has mostly none yet, and without it nothing is written.
            case "data": return new long[] {r.nextBoolean() ? e : Math.max(0, entries - 1), r.nextLong(), n};
            case "packed": return new long[] {e, r.nextInt(1000001), r.nextInt()};
            case "part": return new long[] {e, 2 + r.nextInt(65534), r.nextLong(), n};
            case "stamp": return new long[] {e, 1980 + r.nextInt(128), 1 + r.nextInt(12), 1 + r.nextInt(31), r.nextInt(86400)};
            case "attributes": return new long[] {e, r.nextInt()};
            case "comment": return new long[] {r.nextInt(3) == 0 ? 0x504B0506L : r.nextLong(), n};
            case "add": return new long[] {r.nextInt(entries + 1)};
            case "feed": return new long[] {r.nextLong(), 1 + r.nextInt(8)};
            case "cut": return new long[] {r.nextInt(4) == 0 ? r.nextInt(bytes + 1) : Math.max(0, bytes - r.nextInt(9))};
            case "poke": return new long[] {r.nextInt(Math.max(1, bytes)), r.nextInt(256)};
            case "at", "half", "word": return new long[] {r.nextInt(bytes + 1)};
            case "about": return new long[] {e, r.nextInt(11)};
            case "letter": return new long[] {e, r.nextInt(17)};
            case "octet": return new long[] {e, r.nextInt(41)};
            case "size": return new long[] {e, r.nextInt(3)};
            case "extra": return new long[] {e, r.nextInt(3), r.nextInt(3), n};
            case "right", "same": return new long[] {e};
            case "told": return new long[] {r.nextInt(4)};
            default: return new long[0];
        }
    }

    private static void areMet() {
        String[] all = {"entry -3", "entry -5", "name -2", "name -3", "name -5", "data -2", "data -3", "data -5", "data -32",
            "packed", "packed -2", "packed -3", "packed -32", "part -2", "part -3", "part -5", "stamp -2", "stamp -3",
            "attributes -2", "clear", "comment -3", "write", "write -31", "write -5", "add", "add -2", "add -4", "add -31",
            "add -5", "read", "read of many", "place", "place -1", "feed -3", "feed -5", "cut -3", "poke -2", "poke -3",
            "at -33", "half -33", "word -33", "about -1", "about -2", "about -3", "letter -2", "letter -33", "octet -2",
            "octet -31", "octet -32", "octet -33", "size -2", "size -3", "size -31", "size -32", "extra -2", "extra -3",
            "extra -33", "right", "right is not", "right -2", "right -4", "right -31", "right -32", "same -2", "told -3"};
        for (String sort : all) {
            Check.due("met: " + sort, MET.containsKey(sort) ? 1 : 0, 1);
        }
        // Bytes are shared (9) by hand alone: WildTest and ReadTest do so.
        for (int kind : new int[] {1, 2, 3, 4, 5, 6, 7, 8, 10}) {
            Check.due("met: KIND " + kind, MET.containsKey("read " + (-10 - kind)) ? 1 : 0, 1);
        }
    }
}
