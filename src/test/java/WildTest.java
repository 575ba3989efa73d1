import java.nio.ByteBuffer;
import java.nio.ByteOrder;
import java.util.Random;

/** Runs of calls with arguments of every sort, and bytes that were spoiled: the same at each run of the test. */
public final class WildTest {
    private static final int[] EDGES = {Integer.MIN_VALUE, Integer.MIN_VALUE + 1, -31, -2, -1, 0, 1, 2, 3, 7, 8, 9, 11,
        12, 13, 16, 40, 255, 256, 1999, 2000, 2001, 65535, 65536, Integer.MAX_VALUE - 3, Integer.MAX_VALUE};
    private static final String[] NAMES = {"a", "b/c", "..", "x.txt", "/r", "q\\r", "d/../e", "m//n", "long.name"};
    /** Each may look at told(1) ahead of it, and told(3) behind: three by 160 are within the 512 of an object. */
    private static final int CALLS = 160;
    private static final int KINDS = 26, CHANGING = 14, ABOUT = 17;
    private static final int[] KINDS_SEEN = new int[12];

    public static void main(String[] args) {
        for (int seed = 0; seed < 600; seed++) {
            wildCalls(seed);
        }
        for (int seed = 0; seed < 4000; seed++) {
            readers(seed);
        }
        for (int kind = 1; kind <= 10; kind++) {
            Check.due("KIND " + kind + " was met", KINDS_SEEN[kind] > 0 ? 1 : 0, 1);
        }
        Check.end();
    }

    private static int some(Random r, int small) {
        return r.nextInt(6) == 0 ? EDGES[r.nextInt(EDGES.length)] : r.nextInt(small);
    }

    private static long bytes(Random r) {
        return r.nextInt(4) == 0 ? r.nextLong() : Check.text(NAMES[r.nextInt(NAMES.length)].substring(0, 1)
            + (char) ('a' + r.nextInt(26)) + (char) ('a' + r.nextInt(26)));
    }

    private static void wildCalls(int seed) {
        Random r = new Random(seed);
        Random looks = new Random(-seed);
        ZipForms x = new ZipForms();
        int fault = 0;
        for (int call = 0; call < CALLS; call++) {
            int which = r.nextInt(KINDS);
            long got;
            try {
                got = which < CHANGING ? change(x, r, which) : look(x, r, which);
            } catch (RuntimeException e) {
                Check.due("call " + which + " threw " + e, 1, 0);
                return;
            }
            // ATTRIBUTES, which about() tells, may be any number.
            boolean isFault = got <= -31 && got >= -33 && which != ABOUT;
            fault = isFault ? (int) (-30 - got) : fault;
            Check.due("told(3) behind call " + which, x.told(3), fault);
            boolean mayChange = which < CHANGING && got >= 0;
            if (!mayChange && looks.nextInt(40) == 0) {
                boolean isSame = Edge.seen(first(seed, call)).equals(Edge.seen(first(seed, call + 1)));
                Check.due("call " + which + " answered " + got + " and changed", isSame ? 0 : 1, 0);
            }
        }
    }

    /** The first calls of the run of this seed. */
    private static Edge.Steps first(int seed, int calls) {
        return x -> {
            Random r = new Random(seed);
            for (int call = 0; call < calls; call++) {
                int which = r.nextInt(KINDS);
                if (which < CHANGING) {
                    change(x, r, which);
                } else {
                    look(x, r, which);
                }
            }
        };
    }

    private static long change(ZipForms x, Random r, int which) {
        int e = some(r, 8);
        switch (which) {
            case 0: return x.entry(some(r, 3), some(r, 3), bytes(r), some(r, 4));
            case 1: return x.name(e, bytes(r), some(r, 4));
            case 2: return x.data(e, bytes(r), some(r, 9));
            case 3: return x.packed(e, some(r, 100), r.nextInt());
            case 4: return x.part(e, some(r, 9), bytes(r), some(r, 9));
            case 5: return x.stamp(e, 1978 + some(r, 140), some(r, 13), some(r, 32), some(r, 86400));
            case 6: return x.attributes(e, r.nextInt());
            case 7: return r.nextInt(20) == 0 ? x.clear() : 0;
            case 8: return x.comment(bytes(r), some(r, 9));
            case 9: return x.write();
            case 10: return x.add(e);
            case 11: return x.read();
            case 12: return r.nextBoolean() ? x.feed(bytes(r), some(r, 9)) : x.cut(some(r, 1 + x.told(1)));
            default: return x.poke(some(r, 1 + x.told(1)), some(r, 256));
        }
    }

    private static long look(ZipForms x, Random r, int which) {
        int e = some(r, 8);
        switch (which) {
            case 14: return x.at(some(r, 1 + x.told(1)));
            case 15: return x.half(some(r, 1 + x.told(1)));
            case 16: return x.word(some(r, 1 + x.told(1)));
            case ABOUT: return x.about(e, some(r, 11));
            case 18: return x.letter(e, some(r, 9));
            case 19: return x.octet(e, some(r, 9));
            case 20: return x.size(e, some(r, 3));
            case 21: return x.extra(e, some(r, 3), some(r, 3), some(r, 8));
            case 22: return x.right(e);
            case 23: return x.same(e);
            case 24: return x.told(some(r, 4));
            default:
                x.place();
                return 0;
        }
    }

    /** Bytes that were written, with a few changed, read by both. */
    private static void readers(int seed) {
        byte[] bytes = Edge.bytes(x -> make(x, new Random(seed)));
        Random r = new Random(seed);
        compare(bytes);
        for (int round = 0; round < 6; round++) {
            spoil(bytes, r);
            compare(bytes);
        }
    }

    private static void make(ZipForms x, Random r) {
        int count = 1 + r.nextInt(3);
        long alike = r.nextLong();
        for (int i = 0; i < count; i++) {
            makeOne(x, r.nextInt(3) == 0 ? r : new Random(alike));
        }
        x.comment(0x504B0506L, r.nextInt(5));
        x.write();
        for (int i = r.nextInt(3); i > 0 && x.told(1) < 800; i--) {
            makeOne(x, r);
            x.add(r.nextInt(x.told(0)));
        }
    }

    private static void makeOne(ZipForms x, Random r) {
        int kind = r.nextInt(3);
        String name = NAMES[r.nextInt(r.nextInt(4) == 0 ? NAMES.length : 2)];
        int e = Check.made(x, kind, kind == 2 ? 0 : r.nextInt(3), name, kind == 2 ? null : "data".substring(r.nextInt(5)));
        if (kind == 1) {
            x.packed(e, r.nextInt(1000), r.nextInt());
        }
        for (int k = r.nextInt(4); k > 0; k--) {
            x.part(e, 2 + r.nextInt(5), r.nextLong(), r.nextInt(9));
        }
    }

    private static void spoil(byte[] bytes, Random r) {
        int all = bytes.length;
        int centre = (int) Math.max(0, Math.min(all - 1, centrePlace(bytes)));
        switch (r.nextInt(6)) {
            case 0:
                bytes[r.nextInt(all)] ^= (byte) (1 << r.nextInt(8));
                break;
            case 1:
                bytes[Math.min(all - 1, centre + r.nextInt(46))] = (byte) r.nextInt(10);
                break;
            case 2:
                bytes[Math.min(all - 1, centre + 20 + r.nextInt(26))] = (byte) EDGES[r.nextInt(EDGES.length)];
                break;
            case 3:
                bytes[Math.max(0, all - 1 - r.nextInt(26))] = (byte) r.nextInt(14);
                break;
            case 4:
                bytes[r.nextInt(1 + centre)] ^= (byte) 255;
                break;
            default:
                pointSecondAtFirst(ByteBuffer.wrap(bytes).order(ByteOrder.LITTLE_ENDIAN), centre);
                break;
        }
    }

    /** Rows of the same NAME and form share their bytes then. */
    private static void pointSecondAtFirst(ByteBuffer b, int centre) {
        if (centre + 46 > b.capacity()) {
            return;
        }
        int second = centre + 46 + (b.getShort(centre + 28) & 0xFFFF) + (b.getShort(centre + 30) & 0xFFFF);
        if (second + 46 <= b.capacity()) {
            b.putInt(second + 42, b.getInt(centre + 42));
        }
    }

    private static long centrePlace(byte[] bytes) {
        ByteBuffer b = ByteBuffer.wrap(bytes).order(ByteOrder.LITTLE_ENDIAN);
        for (int i = bytes.length - 22; i >= 0; i--) {
            if (b.getInt(i) == 0x06054B50) {
                return b.getInt(i + 16) & 0xFFFFFFFFL;
            }
        }
        return 0;
    }

    private static void compare(byte[] bytes) {
        int answer;
        int place = ZipForms.NONE;
        try {
            answer = new PlainReader(bytes).entries();
        } catch (PlainReader.Fault f) {
            answer = -10 - f.kind;
            place = (int) f.place;
            KINDS_SEEN[f.kind]++;
        }
        ZipForms x = new ZipForms();
        Forge.feed(x, bytes);
        Check.due("read()", x.read(), answer);
        Check.due("place()", x.place(), place);
    }
}
