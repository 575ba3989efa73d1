import java.util.Arrays;
import java.util.zip.CRC32;

/** The edges of promises 21 to 28: what there is, every refusal and FAULT, and told(3) behind it. */
public final class LookEdgesTest {
    private static final int LEAST = Integer.MIN_VALUE, MOST = Integer.MAX_VALUE;
    private static final int[] NO_ENTRY = {-1, 5, 6, 11, 12, 13, LEAST, MOST};
    private static final int[] FAR = {-1, -2, LEAST, LEAST + 1, MOST, MOST - 1, 65536, 256};

    public static void main(String[] args) {
        aboutNumbers();
        aboutOfTwelve();
        aboutPlaces();
        aboutDataIsNothing();
        letters();
        lettersOfLongest();
        octets();
        octetsOfMost();
        octetFaults();
        sizes();
        sizeFaults();
        sums();
        extras();
        extrasOfMost();
        extraFaults();
        rights();
        rightOfRead();
        sames();
        samesOfTwelve();
        tolds();
        toldFaults();
        Check.end();
    }

    private static void aboutNumbers() {
        for (int entry = 0; entry < 5; entry++) {
            int e = entry;
            Edge.eachRefused("about: what", Edge::five, ZipForms.OUTSIDE, (x, v) -> x.about(e, v),
                -1, 11, 12, LEAST, MOST);
        }
        Edge.eachRefused("about: e", Edge::five, ZipForms.UNKNOWN, (x, v) -> x.about(v, 0), NO_ENTRY);
        Edge.eachRefused("about: e of the last", Edge::five, ZipForms.UNKNOWN, (x, v) -> x.about(v, 10), NO_ENTRY);
        Edge.eachRefused("about: e ahead of what", Edge::five, ZipForms.UNKNOWN, (x, v) -> x.about(v, 11), NO_ENTRY);
        int[][] due = {
            {0, 3, 0, 0, 0, 0, 0, 1, 0, 0, 0},
            {1, 1, 8, 8, 2048 + 512 + 3, 21 * 512 + 2 * 32 + 3, 0, 0, 0, 44, 0},
            {2, 2, 0, 0, 0, 0, 99, 0, 0, 93, 1},
            {0, 1, 0, 0, 0, 0, 0, 0, 1, -1, 1},
            {1, 1, 0, 8, 0, 0, 0, 0, 0, -1, 1}};
        for (int entry = 0; entry < due.length; entry++) {
            for (int k = 0; k < due[entry].length; k++) {
                int e = entry;
                int what = k;
                Edge.refused("about(" + e + ", " + what + ")", Edge::five, x -> x.about(e, what), due[e][what]);
            }
        }
    }

    private static void aboutOfTwelve() {
        Edge.Steps twelve = x -> {
            for (int i = 0; i < 12; i++) {
                x.entry(i % 3, 0, 'a', 1);
            }
        };
        Edge.refused("about: the 12th", twelve, x -> x.about(11, 0), 2);
        Edge.eachRefused("about: behind 12", twelve, ZipForms.UNKNOWN, (x, v) -> x.about(v, 0), 12, 13, -1, LEAST, MOST);
        Edge.refused("about: letter() behind 12", twelve, x -> x.letter(12, 0), ZipForms.UNKNOWN);
        Edge.refused("about: same() behind 12", twelve, x -> x.same(12), ZipForms.UNKNOWN);
        Edge.refused("about: data() behind 12", twelve, x -> x.data(12, 0, 0), ZipForms.UNKNOWN);
        Edge.refused("about: right() behind 12", twelve, x -> x.right(12), ZipForms.UNKNOWN);
        Edge.refused("about: size() behind 12", twelve, x -> x.size(12, 0), ZipForms.UNKNOWN);
        Edge.refused("about: extra() behind 12", twelve, x -> x.extra(12, 0, 0, 0), ZipForms.UNKNOWN);
    }

    private static void aboutPlaces() {
        ZipForms x = new ZipForms();
        Check.file(x, "a", "1");
        Check.due("place: none at first", x.about(0, 9), ZipForms.NONE);
        x.read();
        Check.due("place: none by a FAULT of reading", x.about(0, 9), ZipForms.NONE);
        x.entry(0, 0, 'n', 1);
        x.write();
        x.add(0);
        Check.due("place: none by a FAULT of the machine", x.about(0, 9), ZipForms.NONE);
        x.data(1, 0, 0);
        x.write();
        Check.due("place: 0 is one", x.about(0, 9), 0);
        Check.due("place: the second", x.about(1, 9), 32);
        x.write();
        Check.due("place: of the latest write()", x.about(1, 9), 32);
        int bytes = x.add(1);
        Check.due("place: of the latest add()", x.about(1, 9), 32 + 31 + 94 + 22);
        x.read();
        Check.due("place: of the latest read()", x.about(1, 9), 32 + 31 + 94 + 22);
        x.cut(32 + 31 + 94 + 22);
        Check.due("place: stays by cut()", x.about(1, 9), 32 + 31 + 94 + 22);
        x.read();
        Check.due("place: of the read() behind it", x.about(1, 9), 32);
        Check.due("place: add() had", bytes, 32 + 31 + 94 + 22 + 31 + 94 + 22);
        x.clear();
        x.entry(0, 0, 'n', 1);
        Check.due("place: none of a new one", x.about(0, 9), ZipForms.NONE);
    }

    private static void aboutDataIsNothing() {
        for (int kind = 0; kind <= 1; kind++) {
            for (int form = 0; form <= 2; form++) {
                ZipForms x = new ZipForms();
                x.entry(kind, form, 'a', 1);
                Check.due("nothing: at first", x.about(0, 10), 1);
                x.data(0, 0, -1);
                x.data(0, 0, 9);
                Check.due("nothing: behind a refusal", x.about(0, 10), 1);
                x.packed(0, 1, 1);
                Check.due("nothing: behind packed()", x.about(0, 10), 1);
                x.data(0, 0, 0);
                Check.due("nothing: not of 0 bytes", x.about(0, 10), 0);
                x.data(0, 0, 8);
                Check.due("nothing: not of 8 bytes", x.about(0, 10), 0);
            }
        }
        Edge.refused("nothing: of a FOLDER", x -> Check.folder(x, "d"), x -> x.about(0, 10), 1);
        Edge.refused("nothing: of a FOLDER that was written", x -> {
            Check.folder(x, "d");
            x.write();
        }, x -> x.about(0, 10), 1);
    }

    private static void letters() {
        String[] names = {"abc", "p", "d/", "w", "q"};
        for (int entry = 0; entry < names.length; entry++) {
            int e = entry;
            int n = names[e].length();
            for (int i = 0; i < n; i++) {
                int at = i;
                Edge.refused("letter(" + e + ", " + i + ")", Edge::five, x -> x.letter(e, at), names[e].charAt(i));
            }
            Edge.eachFaults("letter:", Edge::five, 3, (x, v) -> x.letter(e, v), n, n + 1, 15, 16, 17);
            Edge.eachFaults("letter:", Edge::five, 3, (x, v) -> x.letter(e, v), FAR);
        }
        Edge.eachRefused("letter: e", Edge::five, ZipForms.UNKNOWN, (x, v) -> x.letter(v, 0), NO_ENTRY);
        Edge.eachRefused("letter: e ahead of the FAULT", Edge::five, ZipForms.UNKNOWN, (x, v) -> x.letter(v, -1),
            NO_ENTRY);
    }

    private static void lettersOfLongest() {
        for (int kind = 0; kind <= 2; kind++) {
            int of = kind;
            Edge.Steps steps = x -> Check.made(x, of, 0, "0123456789abcdef".substring(of / 2), null);
            Edge.refused("letter: the 16th", steps, x -> x.letter(0, 15), of == 2 ? '/' : 'f');
            Edge.eachFaults("letter: behind 16", steps, 3, (x, v) -> x.letter(0, v), 16, 17, -1, LEAST, MOST);
        }
        Edge.refused("letter: 255", x -> x.entry(0, 0, -1L, 8), x -> x.letter(0, 7), 255);
        Edge.refused("letter: 128", x -> x.entry(0, 0, 128, 1), x -> x.letter(0, 0), 128);
        // A shorter NAME where a longer one was has none of its bytes.
        Edge.faults("letter: of the one before", x -> {
            Check.file(x, "abcdef", "1");
            x.clear();
            Check.file(x, "ab", "1");
        }, x -> x.letter(0, 2), 3);
    }

    private static void octets() {
        for (int i = 0; i < 5; i++) {
            int at = i;
            Edge.refused("octet(0, " + i + ")", Edge::five, x -> x.octet(0, at), "iello".charAt(i));
        }
        Edge.eachFaults("octet:", Edge::five, 3, (x, v) -> x.octet(0, v), 5, 6, 39, 40, 41);
        Edge.eachFaults("octet:", Edge::five, 3, (x, v) -> x.octet(0, v), FAR);
        Edge.eachFaults("octet: PACKED", Edge::five, 3, (x, v) -> x.octet(1, v), 2, 3, -1, 1233, 1234, LEAST, MOST);
        Edge.eachRefused("octet: e", Edge::five, ZipForms.UNKNOWN, (x, v) -> x.octet(v, 0), NO_ENTRY);
        Edge.eachRefused("octet: e ahead of the FAULT", Edge::five, ZipForms.UNKNOWN, (x, v) -> x.octet(v, -1),
            NO_ENTRY);
    }

    private static void octetsOfMost() {
        for (int kind = 0; kind <= 1; kind++) {
            int of = kind;
            Edge.Steps steps = x -> {
                x.entry(of, 0, 'a', 1);
                for (int k = 0; k < 5; k++) {
                    x.data(0, 0xF0F1F2F3F4F5F6F7L, 8);
                }
            };
            Edge.refused("octet: the first", steps, x -> x.octet(0, 0), 0xF0);
            Edge.refused("octet: the 40th", steps, x -> x.octet(0, 39), 0xF7);
            Edge.eachFaults("octet: behind 40", steps, 3, (x, v) -> x.octet(0, v), 40, 41, -1, LEAST, MOST);
        }
        Edge.Steps empty = x -> Check.file(x, "a", "");
        Edge.eachFaults("octet: of none", empty, 3, (x, v) -> x.octet(0, v), 0, 1, -1, LEAST, MOST);
        Edge.faults("octet: of the one before", x -> {
            Check.file(x, "a", "123");
            x.clear();
            Check.file(x, "a", "1");
        }, x -> x.octet(0, 1), 3);
    }

    /** 2 ahead of 3, 1 ahead of 3. */
    private static void octetFaults() {
        Edge.eachFaults("octet: a FOLDER", Edge::five, 2, (x, v) -> x.octet(2, v), 0, 1, -1, 40, LEAST, MOST);
        Edge.eachFaults("octet: nothing there", Edge::five, 1, (x, v) -> x.octet(3, v), 0, 1, -1, 40, LEAST, MOST);
        Edge.eachFaults("octet: nothing there, PACKED", Edge::five, 1, (x, v) -> x.octet(4, v), 0, 1, -1, LEAST, MOST);
    }

    private static void sizes() {
        long[][] due = {{5, 5, 0x3610A686L}, {2, 1234, 0xFFFFFFFBL}};
        for (int entry = 0; entry < due.length; entry++) {
            for (int k = 0; k <= 2; k++) {
                int e = entry;
                int what = k;
                Edge.refused("size(" + e + ", " + k + ")", Edge::five, x -> x.size(e, what), due[e][k]);
            }
        }
        for (int entry = 0; entry < 5; entry++) {
            int e = entry;
            Edge.eachRefused("size: what", Edge::five, ZipForms.OUTSIDE, (x, v) -> x.size(e, v), -1, 3, 4, LEAST, MOST);
        }
        Edge.eachRefused("size: e", Edge::five, ZipForms.UNKNOWN, (x, v) -> x.size(v, 0), NO_ENTRY);
        Edge.eachRefused("size: e ahead of what", Edge::five, ZipForms.UNKNOWN, (x, v) -> x.size(v, 3), NO_ENTRY);
        Edge.Steps most = x -> {
            Check.made(x, 0, 2, "a", "x".repeat(40));
            Check.made(x, 1, 2, "b", "x".repeat(40));
            x.packed(1, 1000000, -1);
        };
        Edge.refused("size: 40", most, x -> x.size(0, 0), 40);
        Edge.refused("size: TRUE size of 40", most, x -> x.size(0, 1), 40);
        Edge.refused("size: PACKED, 40", most, x -> x.size(1, 0), 40);
        Edge.refused("size: PACKED, 1000000", most, x -> x.size(1, 1), 1000000);
        Edge.Steps least = x -> {
            Check.made(x, 0, 1, "a", "");
            Check.made(x, 1, 1, "b", "");
        };
        for (int k = 0; k <= 2; k++) {
            int what = k;
            Edge.refused("size: of no bytes", least, x -> x.size(0, what), 0);
            Edge.refused("size: PACKED, of no bytes", least, x -> x.size(1, what), 0);
        }
    }

    private static void sizeFaults() {
        Edge.eachFaults("size: a FOLDER, what", Edge::five, 2, (x, v) -> x.size(2, v), 0, 1, 2);
        Edge.eachFaults("size: nothing there, what", Edge::five, 1, (x, v) -> x.size(3, v), 0, 1, 2);
        Edge.faults("size: nothing there, PACKED", Edge::five, x -> x.size(4, 0), 1);
        Edge.refused("size: nothing there, PACKED, TRUE size", Edge::five, x -> x.size(4, 1), 0);
        Edge.refused("size: nothing there, PACKED, SUM", Edge::five, x -> x.size(4, 2), 0);
        Edge.Steps told = x -> {
            Edge.five(x);
            x.packed(4, 77, LEAST);
        };
        Edge.refused("size: told, TRUE size", told, x -> x.size(4, 1), 77);
        Edge.refused("size: told, SUM", told, x -> x.size(4, 2), 0x80000000L);
        Edge.faults("size: told, but nothing there", told, x -> x.size(4, 0), 1);
    }

    private static void sums() {
        byte[][] texts = {{}, {0}, {1}, {-1}, {-128}, {0, 0}, {-1, -1, -1, -1}, {80, 75, 3, 4}, new byte[40], filled(40, 255),
            filled(40, 128), filled(39, 1), filled(8, 170)};
        for (byte[] text : texts) {
            CRC32 c = new CRC32();
            c.update(text);
            Edge.Steps steps = x -> {
                x.entry(0, 0, 'a', 1);
                x.data(0, 0, 0);
                for (byte b : text) {
                    x.data(0, b, 1);
                }
            };
            Edge.refused("SUM: of " + text.length, steps, x -> x.size(0, 2), c.getValue());
            ZipForms x = Edge.after(steps);
            x.write();
            Check.due("SUM: in the LOCAL row", x.word(14), c.getValue());
        }
        // Both SUMS with and without the highest bit are met above.
        Edge.refused("SUM: with the highest bit", y -> Check.file(y, "a", "\0"), x -> x.size(0, 2), 0xD202EF8DL);
        Edge.refused("SUM: without it", y -> Check.file(y, "a", "hello"), x -> x.size(0, 2), 0x3610A686L);
        for (int sum : new int[] {0, 1, MOST, LEAST, -1}) {
            Edge.refused("SUM: told", y -> {
                y.entry(1, 0, 'a', 1);
                y.packed(0, 0, sum);
            }, x -> x.size(0, 2), sum & 0xFFFFFFFFL);
        }
    }

    private static byte[] filled(int n, int v) {
        byte[] all = new byte[n];
        Arrays.fill(all, (byte) v);
        return all;
    }

    private static void extras() {
        Edge.refused("extra: id", Edge::five, x -> x.extra(0, 0, 0, 0), 500);
        Edge.refused("extra: how many", Edge::five, x -> x.extra(0, 0, 1, 0), 2);
        Edge.refused("extra: byte 0", Edge::five, x -> x.extra(0, 0, 2, 0), 1);
        Edge.refused("extra: byte 1", Edge::five, x -> x.extra(0, 0, 2, 1), 2);
        Edge.eachRefused("extra: id whatever i", Edge::five, 500, (x, v) -> x.extra(0, 0, 0, v), FAR);
        Edge.eachRefused("extra: how many whatever i", Edge::five, 2, (x, v) -> x.extra(0, 0, 1, v), FAR);
        Edge.eachRefused("extra: what", Edge::five, ZipForms.OUTSIDE, (x, v) -> x.extra(0, 0, v, 0),
            -1, 3, 4, LEAST, MOST);
        Edge.eachRefused("extra: what ahead of the FAULT", Edge::five, ZipForms.OUTSIDE, (x, v) -> x.extra(0, 0, v, 2),
            -1, 3, LEAST, MOST);
        Edge.eachRefused("extra: k", Edge::five, ZipForms.UNKNOWN, (x, v) -> x.extra(0, v, 0, 0),
            1, 2, 3, -1, LEAST, MOST);
        Edge.eachRefused("extra: k of none", Edge::five, ZipForms.UNKNOWN, (x, v) -> x.extra(1, v, 0, 0),
            0, 1, -1, LEAST, MOST);
        Edge.eachRefused("extra: k ahead of what", Edge::five, ZipForms.UNKNOWN, (x, v) -> x.extra(0, v, 3, 0),
            1, -1, LEAST, MOST);
        Edge.eachRefused("extra: k ahead of the FAULT", Edge::five, ZipForms.UNKNOWN, (x, v) -> x.extra(0, v, 2, -1),
            1, -1, LEAST, MOST);
        Edge.eachRefused("extra: e", Edge::five, ZipForms.UNKNOWN, (x, v) -> x.extra(v, 0, 0, 0), NO_ENTRY);
        Edge.eachRefused("extra: e ahead of what", Edge::five, ZipForms.UNKNOWN, (x, v) -> x.extra(v, 0, 3, 0), NO_ENTRY);
        Edge.eachRefused("extra: e ahead of the FAULT", Edge::five, ZipForms.UNKNOWN, (x, v) -> x.extra(v, 0, 2, -1),
            NO_ENTRY);
    }

    private static void extrasOfMost() {
        Edge.Steps steps = x -> {
            x.entry(1, 2, 'a', 1);
            x.part(0, 65535, 0xF0F1F2F3F4F5F6F7L, 8);
            x.part(0, 2, 0xE0, 1);
            x.part(0, 32768, 0xD0D1D2D3D4D5D6D7L, 8);
        };
        for (int part = 0; part < 3; part++) {
            int k = part;
            int n = k == 1 ? 1 : 8;
            Edge.refused("extra: id of " + k, steps, x -> x.extra(0, k, 0, 0), k == 0 ? 65535 : k == 1 ? 2 : 32768);
            Edge.refused("extra: how many of " + k, steps, x -> x.extra(0, k, 1, 0), n);
            for (int i = 0; i < n; i++) {
                int at = i;
                Edge.refused("extra: byte " + i + " of " + k, steps, x -> x.extra(0, k, 2, at), 0xF0 - 16 * k + i);
            }
            Edge.eachFaults("extra: behind the last of " + k, steps, 3, (x, v) -> x.extra(0, k, 2, v), n, n + 1, -1);
        }
        Edge.eachRefused("extra: PART", steps, ZipForms.UNKNOWN, (x, v) -> x.extra(0, v, 0, 0), 3, 4, -1, LEAST, MOST);
        // The PART that a WIDE one tells its sizes by is none of these, written or read.
        Edge.Steps read = x -> {
            steps.on(x);
            x.data(0, 0, 0);
            x.write();
            x.read();
        };
        Edge.refused("extra: read, PARTS", read, x -> x.about(0, 7), 3);
        Edge.refused("extra: read, the first id", read, x -> x.extra(0, 0, 0, 0), 65535);
        Edge.refused("extra: read, the last byte", read, x -> x.extra(0, 2, 2, 7), 0xD7);
        Edge.refused("extra: read, a fourth", read, x -> x.extra(0, 3, 0, 0), ZipForms.UNKNOWN);
    }

    private static void extraFaults() {
        Edge.eachFaults("extra: i", Edge::five, 3, (x, v) -> x.extra(0, 0, 2, v), 2, 3, 7, 8, 9);
        Edge.eachFaults("extra: i", Edge::five, 3, (x, v) -> x.extra(0, 0, 2, v), FAR);
        Edge.Steps empty = x -> {
            x.entry(2, 0, 'd', 1);
            x.part(0, 9, -1L, 8);
            x.part(0, 9, -1L, 0);
            x.part(0, 9, -1L, 8);
        };
        Edge.eachFaults("extra: of none, i", empty, 3, (x, v) -> x.extra(0, 1, 2, v), 0, 1, -1, LEAST, MOST);
        // The bytes of PARTS stand in one row: none of the next or the one before is told.
        Edge.eachFaults("extra: of the next, i", empty, 3, (x, v) -> x.extra(0, 0, 2, v), 8, 15, 16);
        Edge.eachFaults("extra: of the one before, i", empty, 3, (x, v) -> x.extra(0, 2, 2, v), -1, -8, -9, -16);
    }

    private static void rights() {
        Edge.refused("right: another SUM was read", Edge::five, x -> x.right(0), 0);
        Edge.refused("right: PACKED", Edge::five, x -> x.right(1), ZipForms.STATE);
        Edge.refused("right: PACKED, STATE ahead of FAULT 1", Edge::five, x -> x.right(4), ZipForms.STATE);
        Edge.faults("right: a FOLDER", Edge::five, x -> x.right(2), 2);
        Edge.faults("right: nothing there", Edge::five, x -> x.right(3), 1);
        Edge.eachRefused("right: e", Edge::five, ZipForms.UNKNOWN, ZipForms::right, NO_ENTRY);
        for (int form = 0; form <= 2; form++) {
            int as = form;
            Edge.refused("right: not read", x -> Check.made(x, 0, as, "a", "abc"), x -> x.right(0), 1);
            Edge.refused("right: not read, of no bytes", x -> Check.made(x, 0, as, "a", ""), x -> x.right(0), 1);
            Edge.refused("right: written, not read", x -> {
                Check.made(x, 0, as, "a", "abc");
                x.write();
                x.poke(31 + (as == 2 ? 20 : 0), 1);
            }, x -> x.right(0), 1);
        }
    }

    private static void rightOfRead() {
        for (int form = 0; form <= 2; form++) {
            int as = form;
            int data = 31 + (form == 2 ? 20 : 0);
            Edge.Steps written = x -> {
                Check.made(x, 0, as, "a", "abc");
                x.write();
            };
            Edge.Steps good = x -> {
                written.on(x);
                x.read();
            };
            Edge.Steps bad = x -> {
                written.on(x);
                x.poke(data + 2, 128);
                x.read();
            };
            Edge.refused("right: read", good, x -> x.right(0), 1);
            Edge.refused("right: read, a bit is another", bad, x -> x.right(0), 0);
            Edge.refused("right: SUM as told", bad, x -> x.size(0, 2), 0x352441C2L);
            Edge.Steps grown = x -> {
                bad.on(x);
                x.data(0, 'd', 1);
            };
            Edge.refused("right: got DATA since", grown, x -> x.right(0), 1);
            CRC32 c = new CRC32();
            c.update(new byte[] {'a', 'b', (byte) ('c' ^ 128), 'd'});
            Edge.refused("right: SUM is that of DATA then", grown, x -> x.size(0, 2), c.getValue());
            Edge.refused("right: a refused data() is none", x -> {
                bad.on(x);
                x.data(0, 'd', 9);
                x.data(0, 'd', -1);
            }, x -> x.right(0), 0);
            Edge.refused("right: other calls give no DATA", x -> {
                bad.on(x);
                x.name(0, 'd', 1);
                x.part(0, 2, 0, 0);
                x.stamp(0, 2000, 1, 1, 1);
                x.attributes(0, 1);
                x.packed(0, 1, 1);
                x.write();
                x.add(0);
            }, x -> x.right(0), 0);
            Edge.refused("right: FULL of DATA is none", x -> {
                Check.made(x, 0, as, "a", "x".repeat(40));
                x.write();
                x.poke(data, 1);
                x.read();
                x.data(0, 0, 1);
            }, x -> x.right(0), 0);
        }
        Edge.refused("right: a SUM of no bytes that is told", x -> {
            Forge f = Forge.one("a");
            f.first().sum(1);
            Forge.feed(x, f.bytes());
            x.read();
        }, x -> x.right(0), 0);
        Edge.refused("right: an ENTRY that is new where a read one was", x -> {
            Edge.five(x);
            x.clear();
            Check.file(x, "a", "x");
        }, x -> x.right(0), 1);
    }

    private static void sames() {
        for (int entry = 0; entry < 5; entry++) {
            int e = entry;
            Edge.refused("same: itself", Edge::five, x -> x.same(e), e);
        }
        Edge.eachRefused("same: e", Edge::five, ZipForms.UNKNOWN, ZipForms::same, NO_ENTRY);
        Edge.refused("same: the first of two", x -> {
            Check.file(x, "a", "1");
            Check.made(x, 1, 2, "a", "2");
        }, x -> x.same(1), 0);
        Edge.refused("same: of the first itself", x -> {
            Check.file(x, "a", "1");
            Check.made(x, 1, 2, "a", "2");
        }, x -> x.same(0), 0);
        String[][] others = {{"a", "aa"}, {"aa", "a"}, {"a", "b"}, {"ab", "ac"}, {"ab", "bb"}, {"a", "A"}, {"\1", "\2"},
            {"0123456789abcdef", "0123456789abcdeF"}, {"0123456789abcdef", "0123456789abcde"},
            {"0123456789abcdef", "1123456789abcdef"}, {"\177", "\377"}};
        for (String[] names : others) {
            Edge.refused("same: " + names[0] + " and " + names[1], x -> {
                Check.file(x, names[0], "1");
                Check.file(x, names[1], "1");
            }, x -> x.same(1), 1);
        }
        Edge.refused("same: a FILE and a FOLDER", x -> {
            Check.file(x, "a", "1");
            Check.folder(x, "a");
        }, x -> x.same(1), 1);
        Edge.refused("same: 16 bytes", x -> {
            Check.file(x, "0123456789abcdef", "1");
            Check.file(x, "0123456789abcdef", "2");
        }, x -> x.same(1), 0);
        // What a longer NAME had behind is none of the NAME.
        Edge.refused("same: behind its end", x -> {
            Check.file(x, "abc", "1");
            x.clear();
            Check.file(x, "ab", "1");
            Check.file(x, "ab", "1");
        }, x -> x.same(1), 0);
    }

    private static void samesOfTwelve() {
        Edge.Steps steps = x -> {
            for (int i = 0; i < 12; i++) {
                x.entry(0, 0, i < 10 ? 'a' + i : 'k', 1);
            }
        };
        Edge.refused("same: the 12th with the 11th", steps, x -> x.same(11), 10);
        Edge.refused("same: the 11th", steps, x -> x.same(10), 10);
        Edge.refused("same: the 12th with the first", x -> {
            for (int i = 0; i < 12; i++) {
                x.entry(0, 0, i < 11 ? 'a' + i : 'a', 1);
            }
        }, x -> x.same(11), 0);
        Edge.refused("same: the 13th", steps, x -> x.same(12), ZipForms.UNKNOWN);
    }

    private static void tolds() {
        Edge.refused("told: ENTRIES", Edge::five, x -> x.told(0), 5);
        Edge.refused("told: BYTES", Edge::five, x -> x.told(1), 44 + 49 + 32 + 46 + 9 + 47 + 48 + 26);
        Edge.refused("told: bytes of THE COMMENT", Edge::five, x -> x.told(2), 4);
        Edge.refused("told: no FAULT", Edge::five, x -> x.told(3), 0);
        Edge.eachRefused("told: what", Edge::five, ZipForms.OUTSIDE, ZipForms::told, -1, 4, 5, LEAST, MOST);
    }

    private static void toldFaults() {
        Edge.Call[] faults = {x -> x.octet(3, 0), x -> x.data(2, 0, 0), x -> x.at(-1), x -> x.write(), x -> x.packed(0, 0, 0),
            x -> x.letter(0, -1), x -> x.size(3, 0), x -> x.size(2, 0), x -> x.half(-1), x -> x.right(3), x -> x.right(2),
            x -> x.extra(0, 0, 2, -1), x -> x.add(3), x -> x.octet(2, 0), x -> x.word(-1), x -> x.octet(0, -1)};
        int[] due = {1, 2, 3, 1, 2, 3, 1, 2, 3, 1, 2, 3, 1, 2, 3, 3};
        ZipForms x = Edge.after(Edge::five);
        for (int i = 0; i < faults.length; i++) {
            Check.due("told: FAULT of call " + i, faults[i].on(x), -30 - due[i]);
            Check.due("told: the latest, " + i, x.told(3), due[i]);
            // Neither a refusal, nor a FAULT of reading, nor a call that is taken makes it another.
            x.about(99, 0);
            x.told(4);
            x.at(0);
            x.attributes(0, i);
            Check.due("told: stays, " + i, x.told(3), due[i]);
        }
        x.cut(0);
        x.read();
        Check.due("told: stays by a FAULT of reading", x.told(3), 3);
        x.clear();
        x.write();
        x.read();
        Check.due("told: stays by a whole read()", x.told(3), 3);
        Edge.refused("told: ATTRIBUTES of -31 are no FAULT", y -> {
            Edge.five(y);
            y.attributes(0, -31);
        }, y -> y.about(0, 6), -31);
    }
}
