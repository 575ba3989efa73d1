import java.util.Random;

/** Long runs of calls with arguments of every sort, the same at each run of the test. */
public final class WildTest {
    private static final int[] EDGES = {Integer.MIN_VALUE, Integer.MIN_VALUE + 1, -31, -2, -1, 0, 1, 2, 3, 7, 8, 9, 11,
        12, 13, 16, 40, 255, 256, 1999, 2000, 2001, 65535, 65536, Integer.MAX_VALUE - 3, Integer.MAX_VALUE};
    private static final String[] NAMES = {"a", "b/c", "..", "x.txt", "/r", "q\\r", "d/../e", "m//n", "long.name"};
    private static final int[] KINDS_SEEN = new int[12];

    public static void main(String[] args) {
        for (int seed = 0; seed < 300; seed++) {
            wildCalls(new Random(seed));
        }
        for (int seed = 0; seed < 4000; seed++) {
            readers(new Random(seed));
        }
        for (int kind = 1; kind <= 10; kind++) {
            Check.due("KIND " + kind + " was met", KINDS_SEEN[kind] > 0 ? 1 : 0, 1);
        }
        Check.end();
    }

    private static int some(Random r, int small) {
        return r.nextInt(6) == 0 ? EDGES[r.nextInt(EDGES.length)] : r.nextInt(small);
    }

    private static long bytes(Random r) {
        return r.nextInt(4) == 0 ? r.nextLong() : Check.text(NAMES[r.nextInt(NAMES.length)].substring(0, 1)
            + (char) ('a' + r.nextInt(26)) + (char) ('a' + r.nextInt(26)));
    }

    private static void wildCalls(Random r) {
        ZipForms x = new ZipForms();
        for (int call = 0; call < 512; call++) {
            String before = r.nextInt(8) == 0 ? state(x) : null;
            int fault = x.told(3);
            int which = r.nextInt(26);
            long got;
            try {
                got = which < 14 ? change(x, r, which) : look(x, r, which);
            } catch (RuntimeException e) {
                Check.due("call " + which + " threw " + e, 1, 0);
                return;
            }
            // ATTRIBUTES, which about() tells, may be any number.
            boolean isFault = got <= -31 && got >= -33 && which != 17;
            if (isFault) {
                Check.due("the fault of call " + which, x.told(3), -30 - got);
            } else {
                Check.due("no fault of call " + which, x.told(3), fault);
            }
            boolean mayChange = which < 14 && got >= 0;
            if (before != null && !mayChange) {
                Check.due("call " + which + " answered " + got + " and changed", state(x).equals(before) ? 0 : 1, 0);
            }
        }
    }

    private static long change(ZipForms x, Random r, int which) {
        int e = some(r, 8);
        switch (which) {
            case 0: return x.entry(some(r, 3), some(r, 3), bytes(r), some(r, 4));
            case 1: return x.name(e, bytes(r), some(r, 4));
            case 2: return x.data(e, bytes(r), some(r, 9));
            case 3: return x.packed(e, some(r, 100), r.nextInt());
            case 4: return x.part(e, some(r, 9), bytes(r), some(r, 9));
            case 5: return x.stamp(e, 1978 + some(r, 140), some(r, 13), some(r, 32), some(r, 86400));
            case 6: return x.attributes(e, r.nextInt());
            case 7: return r.nextInt(20) == 0 ? x.clear() : 0;
            case 8: return x.comment(bytes(r), some(r, 9));
            case 9: return x.write();
            case 10: return x.add(e);
            case 11: return x.read();
            case 12: return r.nextBoolean() ? x.feed(bytes(r), some(r, 9)) : x.cut(some(r, 1 + x.told(1)));
            default: return x.poke(some(r, 1 + x.told(1)), some(r, 256));
        }
    }

    private static long look(ZipForms x, Random r, int which) {
        int e = some(r, 8);
        switch (which) {
            case 14: return x.at(some(r, 1 + x.told(1)));
            case 15: return x.half(some(r, 1 + x.told(1)));
            case 16: return x.word(some(r, 1 + x.told(1)));
            case 17: return x.about(e, some(r, 11));
            case 18: return x.letter(e, some(r, 9));
            case 19: return x.octet(e, some(r, 9));
            case 20: return x.size(e, some(r, 3));
            case 21: return x.extra(e, some(r, 3), some(r, 3), some(r, 8));
            case 22: return x.right(e);
            case 23: return x.same(e);
            case 24: return x.told(some(r, 4));
            default:
                x.place();
                return 0;
        }
    }

    /** All that can be seen but the latest FAULT and the place of a reading's fault. */
    private static String state(ZipForms x) {
        StringBuilder s = new StringBuilder();
        for (int i = 0; i < x.told(1); i++) {
            s.append(x.at(i)).append(' ');
        }
        s.append(x.told(2)).append('|');
        for (int e = 0; e < x.told(0); e++) {
            for (int what = 0; what <= 10; what++) {
                s.append(x.about(e, what)).append(' ');
            }
            for (int i = 0; i < x.about(e, 1); i++) {
                s.append(x.letter(e, i)).append(' ');
            }
            stateOfData(x, e, s);
            for (int k = 0; k < x.about(e, 7); k++) {
                s.append(x.extra(e, k, 0, 0)).append(':');
                for (int i = 0; i < x.extra(e, k, 1, 0); i++) {
                    s.append(x.extra(e, k, 2, i)).append(' ');
                }
            }
            s.append('|');
        }
        return s.toString();
    }

    /** Looks only where there is no FAULT, which would itself be told. */
    private static void stateOfData(ZipForms x, int e, StringBuilder s) {
        if (x.about(e, 0) == 2) {
            return;
        }
        if (x.about(e, 0) == 1) {
            s.append(x.size(e, 1)).append(' ').append(x.size(e, 2)).append(' ');
        }
        if (x.about(e, 10) == 1) {
            return;
        }
        s.append(x.size(e, 2)).append(' ').append(x.right(e)).append(' ');
        for (int i = 0; i < x.size(e, 0); i++) {
            s.append(x.octet(e, i)).append(' ');
        }
    }

    /** A written file with a few bytes changed, read by both. */
    private static void readers(Random r) {
        ZipForms x = new ZipForms();
        int count = 1 + r.nextInt(3);
        long alike = r.nextLong();
        for (int i = 0; i < count; i++) {
            makeOne(x, r.nextInt(3) == 0 ? r : new Random(alike));
        }
        x.comment(0x504B0506L, r.nextInt(5));
        x.write();
        for (int i = r.nextInt(3); i > 0 && x.told(1) < 800; i--) {
            makeOne(x, r);
            x.add(r.nextInt(x.told(0)));
        }
        compare(x);
        for (int round = 0; round < 6; round++) {
            spoil(x, r);
            compare(x);
        }
    }

    private static void makeOne(ZipForms x, Random r) {
        int kind = r.nextInt(3);
        String name = NAMES[r.nextInt(r.nextInt(4) == 0 ? NAMES.length : 2)];
        int e = Check.made(x, kind, kind == 2 ? 0 : r.nextInt(3), name, kind == 2 ? null : "data".substring(r.nextInt(5)));
        if (kind == 1) {
            x.packed(e, r.nextInt(1000), r.nextInt());
        }
        for (int k = r.nextInt(4); k > 0; k--) {
            x.part(e, 2 + r.nextInt(5), r.nextLong(), r.nextInt(9));
        }
    }

    private static void spoil(ZipForms x, Random r) {
        int all = x.told(1);
        int centre = (int) Math.max(0, Math.min(all - 1, centrePlace(x)));
        switch (r.nextInt(6)) {
            case 0:
                x.poke(r.nextInt(all), 1 << r.nextInt(8));
                break;
            case 1:
                Check.set(x, Math.min(all - 1, centre + r.nextInt(46)), r.nextInt(10));
                break;
            case 2:
                Check.set(x, Math.min(all - 1, centre + 20 + r.nextInt(26)), EDGES[r.nextInt(EDGES.length)] & 255);
                break;
            case 3:
                Check.set(x, Math.max(0, all - 1 - r.nextInt(26)), r.nextInt(14));
                break;
            case 4:
                x.poke(r.nextInt(1 + centre), 255);
                break;
            default:
                pointSecondAtFirst(x, centre);
                break;
        }
    }

    /** Rows of the same NAME and form share their bytes then. */
    private static void pointSecondAtFirst(ZipForms x, int centre) {
        if (centre + 46 > x.told(1)) {
            return;
        }
        int second = centre + 46 + x.half(centre + 28) + x.half(centre + 30);
        if (second + 46 <= x.told(1)) {
            Check.set(x, second + 42, x.word(centre + 42), 4);
        }
    }

    private static long centrePlace(ZipForms x) {
        for (int i = x.told(1) - 22; i >= 0; i--) {
            if (x.word(i) == 0x06054B50L) {
                return x.word(i + 16);
            }
        }
        return 0;
    }

    private static void compare(ZipForms x) {
        int answer;
        int place = ZipForms.NONE;
        try {
            answer = new PlainReader(Check.bytes(x)).entries();
        } catch (PlainReader.Fault f) {
            answer = -10 - f.kind;
            place = (int) f.place;
            KINDS_SEEN[f.kind]++;
        }
        Check.due("read()", x.read(), answer);
        Check.due("place()", x.place(), place);
    }
}
