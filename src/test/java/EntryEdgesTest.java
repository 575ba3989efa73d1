/** The edges of promises 1 to 9: the last number that is taken, the first that is refused, and what stays then. */
public final class EntryEdgesTest {
    private static final int LEAST = Integer.MIN_VALUE, MOST = Integer.MAX_VALUE;
    private static final int[] NO_ENTRY = {-1, 5, 6, 11, 12, 13, LEAST, MOST};

    public static void main(String[] args) {
        newObject();
        entryKinds();
        entryForms();
        entryCounts();
        entryZeros();
        entrySlashes();
        entriesAreFull();
        entryAtFirst();
        nameCounts();
        nameZerosAndSlashes();
        namesAreFull();
        dataCounts();
        dataIsFull();
        dataOfFolders();
        packedNumbers();
        packedOfOthers();
        partIds();
        partCounts();
        partsAreFull();
        stampNumbers();
        stampBits();
        attributesOfAnyValue();
        clears();
        Check.end();
    }

    private static void none(ZipForms x) {
    }

    private static void newObject() {
        Edge.Steps none = EntryEdgesTest::none;
        Edge.refused("new: told(0)", none, x -> x.told(0), 0);
        Edge.refused("new: told(1)", none, x -> x.told(1), 0);
        Edge.refused("new: told(2)", none, x -> x.told(2), 0);
        Edge.refused("new: told(3)", none, x -> x.told(3), 0);
        Edge.refused("new: place()", none, ZipForms::place, ZipForms.NONE);
        Edge.refused("new: clear()", none, ZipForms::clear, 0);
        Edge.refused("new: cut(0)", none, x -> x.cut(0), 0);
        Edge.refused("new: name()", none, x -> x.name(0, 'a', 1), ZipForms.UNKNOWN);
        Edge.refused("new: data()", none, x -> x.data(0, 'a', 1), ZipForms.UNKNOWN);
        Edge.refused("new: packed()", none, x -> x.packed(0, 0, 0), ZipForms.UNKNOWN);
        Edge.refused("new: part()", none, x -> x.part(0, 2, 0, 0), ZipForms.UNKNOWN);
        Edge.refused("new: stamp()", none, x -> x.stamp(0, 1980, 1, 1, 0), ZipForms.UNKNOWN);
        Edge.refused("new: attributes()", none, x -> x.attributes(0, 0), ZipForms.UNKNOWN);
        Edge.refused("new: poke()", none, x -> x.poke(0, 0), ZipForms.UNKNOWN);
        Edge.refused("new: same()", none, x -> x.same(0), ZipForms.UNKNOWN);
        Edge.faults("new: at(0)", none, x -> x.at(0), 3);
        Edge.taken("new: add(0)", none, x -> x.add(0), 22);
        Edge.taken("new: the first entry()", none, x -> x.entry(0, 0, 'a', 1), 0);
    }

    private static void entryKinds() {
        Edge.eachTaken("entry: kind", Edge::five, 5, (x, v) -> x.entry(v, 0, 'k', 1), 0, 1, 2);
        Edge.eachRefused("entry: kind", Edge::five, ZipForms.OUTSIDE, (x, v) -> x.entry(v, 0, 'k', 1),
            -1, 3, 4, 256, LEAST, MOST);
        for (int kind = 0; kind <= 2; kind++) {
            ZipForms x = Edge.after(Edge::five);
            x.entry(kind, 0, 'k', 1);
            Check.due("entry: is of kind " + kind, x.about(5, 0), kind);
            Check.due("entry: METHOD of kind " + kind, x.about(5, 3), kind == 1 ? 8 : 0);
        }
    }

    private static void entryForms() {
        for (int kind = 0; kind <= 1; kind++) {
            int of = kind;
            Edge.eachTaken("entry: form", Edge::five, 5, (x, v) -> x.entry(of, v, 'k', 1), 0, 1, 2);
            Edge.eachRefused("entry: form", Edge::five, ZipForms.OUTSIDE, (x, v) -> x.entry(of, v, 'k', 1),
                -1, 3, 256, LEAST, MOST);
            for (int form = 0; form <= 2; form++) {
                ZipForms x = Edge.after(Edge::five);
                x.entry(kind, form, 'k', 1);
                Check.due("entry: FLAGS of form " + form, x.about(5, 2), form == 1 ? 8 : 0);
                Check.due("entry: WIDE of form " + form, x.about(5, 8), form == 2 ? 1 : 0);
            }
        }
        Edge.eachTaken("entry: form of a FOLDER", Edge::five, 5, (x, v) -> x.entry(2, v, 'k', 1), 0);
        Edge.eachRefused("entry: form of a FOLDER", Edge::five, ZipForms.OUTSIDE, (x, v) -> x.entry(2, v, 'k', 1),
            -1, 1, 2, 3, LEAST, MOST);
    }

    private static void entryCounts() {
        for (int kind = 0; kind <= 2; kind++) {
            int of = kind;
            Edge.eachTaken("entry: n", Edge::five, 5, (x, v) -> x.entry(of, 0, -1L, v), 1, 2, 7, 8);
            Edge.eachRefused("entry: n", Edge::five, ZipForms.OUTSIDE, (x, v) -> x.entry(of, 0, -1L, v),
                0, -1, 9, 16, 64, 65, LEAST, LEAST + 1, MOST);
            int slash = kind == 2 ? 1 : 0;
            for (int n = 1; n <= 8; n++) {
                ZipForms x = new ZipForms();
                x.entry(kind, 0, 0x3132333435363738L, n);
                Check.due("entry: NAME of " + n, x.about(0, 1), n + slash);
                Check.due("entry: its first byte", x.letter(0, 0), '8' - (n - 1));
                Check.due("entry: its last byte", x.letter(0, n - 1), '8');
                Check.due("entry: what is behind it", x.letter(0, n), slash == 1 ? '/' : -33);
                Check.due("entry: and then", x.letter(0, n + 1), -33);
            }
        }
    }

    /** Only a byte 0 among the lowest n is one of the NAME. */
    private static void entryZeros() {
        for (int kind = 0; kind <= 2; kind++) {
            int of = kind;
            for (int k = 0; k < 8; k++) {
                long a = 0x6161616161616161L & ~(255L << 8 * k);
                Edge.refused("entry: byte " + k + " is 0", Edge::five, x -> x.entry(of, 0, a, 8), ZipForms.OUTSIDE);
                int n = k + 1;
                Edge.refused("entry: byte " + k + " of " + n + " is 0", Edge::five, x -> x.entry(of, 0, a, n),
                    ZipForms.OUTSIDE);
                if (k > 0) {
                    Edge.taken("entry: the 0 is above " + k, Edge::five, x -> x.entry(of, 0, a, n - 1), 5);
                }
            }
            Edge.taken("entry: bytes 1", Edge::five, x -> x.entry(of, 0, 0x0101010101010101L, 8), 5);
        }
    }

    private static void entrySlashes() {
        for (int kind = 0; kind <= 1; kind++) {
            int of = kind;
            Edge.refused("entry: / alone", Edge::five, x -> x.entry(of, 0, '/', 1), ZipForms.OUTSIDE);
            Edge.refused("entry: / last", Edge::five, x -> x.entry(of, 0, Check.text("abcdefg/"), 8), ZipForms.OUTSIDE);
            Edge.refused("entry: // last", Edge::five, x -> x.entry(of, 0, Check.text("a//"), 3), ZipForms.OUTSIDE);
            Edge.taken("entry: / ahead", Edge::five, x -> x.entry(of, 0, Check.text("//////a"), 7), 5);
            Edge.taken("entry: / above the lowest", Edge::five, x -> x.entry(of, 0, Check.text("/a"), 1), 5);
            Edge.taken("entry: / ahead of the last", Edge::five, x -> x.entry(of, 0, Check.text("/0"), 2), 5);
        }
        Edge.taken("entry: a FOLDER / alone", Edge::five, x -> x.entry(2, 0, '/', 1), 5);
        Edge.taken("entry: a FOLDER with / last", Edge::five, x -> x.entry(2, 0, Check.text("abcdefg/"), 8), 5);
        ZipForms x = new ZipForms();
        x.entry(2, 0, '/', 1);
        Check.due("entry: a FOLDER // has", x.about(0, 1), 2);
    }

    private static void twelve(ZipForms x) {
        for (int i = 0; i < 12; i++) {
            x.entry(i % 3, 0, 'a' + i, 1);
        }
    }

    private static void entriesAreFull() {
        Edge.taken("entry: the 12th", x -> {
            twelve(x);
            x.clear();
            for (int i = 0; i < 11; i++) {
                x.entry(0, 0, 'a', 1);
            }
        }, x -> x.entry(0, 0, 'a', 1), 11);
        Edge.eachRefused("entry: the 13th, of kind", EntryEdgesTest::twelve, ZipForms.FULL,
            (x, v) -> x.entry(v, 0, 'a', 1), 0, 1, 2);
        Edge.refused("entry: kind ahead of FULL", EntryEdgesTest::twelve, x -> x.entry(3, 0, 'a', 1), ZipForms.OUTSIDE);
        Edge.refused("entry: form ahead of FULL", EntryEdgesTest::twelve, x -> x.entry(2, 1, 'a', 1), ZipForms.OUTSIDE);
        Edge.refused("entry: n ahead of FULL", EntryEdgesTest::twelve, x -> x.entry(0, 0, 'a', 0), ZipForms.OUTSIDE);
        Edge.refused("entry: 0 ahead of FULL", EntryEdgesTest::twelve, x -> x.entry(0, 0, 0, 1), ZipForms.OUTSIDE);
        Edge.refused("entry: / ahead of FULL", EntryEdgesTest::twelve, x -> x.entry(0, 0, '/', 1), ZipForms.OUTSIDE);
        ZipForms x = Edge.after(EntryEdgesTest::twelve);
        Check.due("entry: the last one is there", x.letter(11, 0), 'a' + 11);
        Check.due("entry: clear() of 12", x.clear(), 12);
        Check.due("entry: the first again", x.entry(0, 0, 'z', 1), 0);
    }

    /** What is 0 or nothing at first, also where another ENTRY was before. */
    private static void entryAtFirst() {
        for (int kind = 0; kind <= 2; kind++) {
            ZipForms x = Edge.after(Edge::five);
            x.clear();
            for (int e = 0; e < 5; e++) {
                x.entry(kind, 0, 'n', 1);
                for (int what : new int[] {2, 4, 5, 6, 7, 8}) {
                    Check.due("at first: about(" + e + ", " + what + ")", x.about(e, what), 0);
                }
                Check.due("at first: no place", x.about(e, 9), ZipForms.NONE);
                Check.due("at first: DATA is nothing", x.about(e, 10), 1);
                Check.due("at first: no PART", x.extra(e, 0, 0, 0), ZipForms.UNKNOWN);
                Check.due("at first: TRUE size", x.size(e, 1), kind == 1 ? 0 : kind == 2 ? -32 : -31);
                Check.due("at first: SUM", x.size(e, 2), kind == 1 ? 0 : kind == 2 ? -32 : -31);
                Check.due("at first: DATA gets none", x.data(e, 0, 0), kind == 2 ? -32 : 0);
            }
        }
    }

    private static void nameCounts() {
        for (int entry : new int[] {0, 1, 2, 3, 4}) {
            int had = entry == 0 ? 3 : entry == 2 ? 2 : 1;
            for (int n : new int[] {1, 2, 7, 8}) {
                Edge.taken("name: n " + n, Edge::five, x -> x.name(entry, -1L, n), had + n);
            }
            Edge.eachRefused("name: n", Edge::five, ZipForms.OUTSIDE, (x, v) -> x.name(entry, -1L, v),
                0, -1, 9, 64, 65, LEAST, MOST);
        }
        Edge.eachRefused("name: e", Edge::five, ZipForms.UNKNOWN, (x, v) -> x.name(v, 'a', 1), NO_ENTRY);
        Edge.eachRefused("name: e ahead of n", Edge::five, ZipForms.UNKNOWN, (x, v) -> x.name(v, 'a', 9), NO_ENTRY);
        Edge.refused("name: an ENTRY that went", x -> {
            Edge.five(x);
            x.clear();
        }, x -> x.name(0, 'a', 1), ZipForms.UNKNOWN);
    }

    private static void nameZerosAndSlashes() {
        for (int k = 0; k < 8; k++) {
            long a = 0x6161616161616161L & ~(255L << 8 * k);
            Edge.eachRefused("name: byte " + k + " is 0", Edge::five, ZipForms.OUTSIDE, (x, v) -> x.name(v, a, 8),
                0, 1, 2);
        }
        Edge.eachTaken("name: a byte 0 above", Edge::five, 2, (x, v) -> x.name(v, 0x0061, 1), 1, 3, 4);
        Edge.eachRefused("name: / last of a FILE", Edge::five, ZipForms.OUTSIDE,
            (x, v) -> x.name(v, Check.text("b/"), 2), 0, 1, 3, 4);
        Edge.eachRefused("name: / alone of a FILE", Edge::five, ZipForms.OUTSIDE, (x, v) -> x.name(v, '/', 1),
            0, 1, 3, 4);
        Edge.taken("name: / ahead", Edge::five, x -> x.name(0, Check.text("//b"), 3), 6);
        Edge.taken("name: / last of a FOLDER", Edge::five, x -> x.name(2, Check.text("b/"), 2), 4);
        Edge.taken("name: / alone of a FOLDER", Edge::five, x -> x.name(2, '/', 1), 3);
    }

    private static void named(ZipForms x, int kind, int letters) {
        x.entry(kind, 0, 0x3132333435363738L, Math.min(8, letters));
        if (letters > 8) {
            x.name(0, 0x4142434445464748L, letters - 8);
        }
    }

    private static void namesAreFull() {
        for (int kind = 0; kind <= 2; kind++) {
            int of = kind;
            int room = kind == 2 ? 15 : 16;
            for (int n = 1; n <= 8; n++) {
                int more = n;
                int has = room - n;
                Edge.taken("name: just 16 by " + n, x -> named(x, of, has), x -> x.name(0, -1L, more), 16);
                Edge.refused("name: 17 by " + n, x -> named(x, of, has + 1), x -> x.name(0, -1L, more), ZipForms.FULL);
            }
            Edge.refused("name: 24", x -> named(x, of, room), x -> x.name(0, -1L, 8), ZipForms.FULL);
            Edge.refused("name: n ahead of FULL", x -> named(x, of, room), x -> x.name(0, -1L, 9), ZipForms.OUTSIDE);
            Edge.refused("name: 0 ahead of FULL", x -> named(x, of, room), x -> x.name(0, 0, 1), ZipForms.OUTSIDE);
            Edge.refused("name: / and FULL", x -> named(x, of, room), x -> x.name(0, '/', 1),
                kind == 2 ? ZipForms.FULL : ZipForms.OUTSIDE);
            ZipForms x = Edge.after(y -> named(y, of, room));
            Check.due("name: byte 15", x.letter(0, 15), kind == 2 ? '/' : 'H');
            Check.due("name: byte 7", x.letter(0, 7), '8');
            Check.due("name: byte 8", x.letter(0, 8), kind == 2 ? 'B' : 'A');
        }
    }

    private static void dataCounts() {
        for (int entry : new int[] {0, 1, 3, 4}) {
            int had = entry == 0 ? 5 : entry == 1 ? 2 : 0;
            for (int n = 0; n <= 8; n++) {
                int more = n;
                Edge.taken("data: n " + n, Edge::five, x -> x.data(entry, 0, more), had + n);
            }
            Edge.eachRefused("data: n", Edge::five, ZipForms.OUTSIDE, (x, v) -> x.data(entry, 0, v),
                -1, 9, 64, 65, LEAST, MOST);
        }
        Edge.eachRefused("data: e", Edge::five, ZipForms.UNKNOWN, (x, v) -> x.data(v, 0, 0), NO_ENTRY);
        Edge.eachRefused("data: e ahead of n", Edge::five, ZipForms.UNKNOWN, (x, v) -> x.data(v, 0, -1), NO_ENTRY);
        ZipForms x = Edge.after(Edge::five);
        x.data(3, 0x00FF2F8001027F00L, 8);
        int[] due = {0, 255, '/', 128, 1, 2, 127, 0};
        for (int i = 0; i < due.length; i++) {
            Check.due("data: any byte, " + i, x.octet(3, i), due[i]);
        }
        x.data(3, 0x1234, 1);
        Check.due("data: the lowest byte alone", x.octet(3, 8), 0x34);
    }

    private static void filled(ZipForms x, int kind, int octets) {
        x.entry(kind, 0, 'f', 1);
        x.data(0, 0, octets % 8);
        for (int i = octets % 8; i < octets; i += 8) {
            x.data(0, 0x0102030405060708L, 8);
        }
    }

    private static void dataIsFull() {
        for (int kind = 0; kind <= 1; kind++) {
            int of = kind;
            for (int n = 1; n <= 8; n++) {
                int more = n;
                Edge.taken("data: just 40 by " + n, x -> filled(x, of, 40 - more), x -> x.data(0, -1L, more), 40);
                Edge.refused("data: 41 by " + n, x -> filled(x, of, 41 - more), x -> x.data(0, -1L, more),
                    ZipForms.FULL);
            }
            Edge.taken("data: 40 by 0", x -> filled(x, of, 40), x -> x.data(0, -1L, 0), 40);
            Edge.refused("data: 48", x -> filled(x, of, 40), x -> x.data(0, -1L, 8), ZipForms.FULL);
            Edge.refused("data: n ahead of FULL", x -> filled(x, of, 40), x -> x.data(0, -1L, 9), ZipForms.OUTSIDE);
        }
    }

    private static void dataOfFolders() {
        Edge.eachFaults("data: of a FOLDER, n", Edge::five, 2, (x, v) -> x.data(2, 'a', v), 0, 1, 8);
        Edge.eachRefused("data: OUTSIDE ahead of the FAULT, n", Edge::five, ZipForms.OUTSIDE,
            (x, v) -> x.data(2, 'a', v), -1, 9);
    }

    private static void packedNumbers() {
        for (int entry : new int[] {1, 4}) {
            Edge.eachTaken("packed: size", Edge::five, 1, (x, v) -> x.packed(entry, v, 7), 0, 1, 999999, 1000000);
            Edge.eachRefused("packed: size", Edge::five, ZipForms.OUTSIDE, (x, v) -> x.packed(entry, v, 7),
                -1, 1000001, LEAST, MOST);
            Edge.eachTaken("packed: SUM", Edge::five, 1, (x, v) -> x.packed(entry, 7, v), 0, 1, -1, LEAST, MOST);
            for (int sum : new int[] {0, 1, -1, LEAST, MOST}) {
                ZipForms x = Edge.after(Edge::five);
                x.packed(entry, 1000000, sum);
                Check.due("packed: TRUE size is", x.size(entry, 1), 1000000);
                Check.due("packed: SUM is", x.size(entry, 2), sum & 0xFFFFFFFFL);
                x.packed(entry, 0, sum);
                Check.due("packed: TRUE size is 0", x.size(entry, 1), 0);
            }
        }
        Edge.eachRefused("packed: e", Edge::five, ZipForms.UNKNOWN, (x, v) -> x.packed(v, 0, 0), NO_ENTRY);
        Edge.eachRefused("packed: e ahead of size", Edge::five, ZipForms.UNKNOWN, (x, v) -> x.packed(v, -1, 0),
            NO_ENTRY);
    }

    private static void packedOfOthers() {
        Edge.eachFaults("packed: of none, ENTRY", Edge::five, 2, (x, v) -> x.packed(v, 0, 0), 0, 2, 3);
        Edge.eachRefused("packed: OUTSIDE ahead of the FAULT, ENTRY", Edge::five, ZipForms.OUTSIDE,
            (x, v) -> x.packed(v, 1000001, 0), 0, 2, 3);
    }

    private static void partIds() {
        for (int entry : new int[] {1, 2, 3, 4}) {
            Edge.eachTaken("part: id", Edge::five, 1, (x, v) -> x.part(entry, v, 0, 0), 2, 3, 256, 32768, 65534, 65535);
            Edge.eachRefused("part: id", Edge::five, ZipForms.OUTSIDE, (x, v) -> x.part(entry, v, 0, 0),
                1, 0, -1, 65536, 65537, 65538, LEAST, MOST);
        }
        for (int id : new int[] {2, 32768, 65535}) {
            ZipForms x = Edge.after(Edge::five);
            x.part(3, id, 0, 0);
            Check.due("part: id is", x.extra(3, 0, 0, 0), id);
        }
        Edge.eachRefused("part: e", Edge::five, ZipForms.UNKNOWN, (x, v) -> x.part(v, 2, 0, 0), NO_ENTRY);
        Edge.eachRefused("part: e ahead of id", Edge::five, ZipForms.UNKNOWN, (x, v) -> x.part(v, 1, 0, 0), NO_ENTRY);
        Edge.eachRefused("part: e ahead of n", Edge::five, ZipForms.UNKNOWN, (x, v) -> x.part(v, 2, 0, 9), NO_ENTRY);
    }

    private static void partCounts() {
        Edge.eachTaken("part: n", Edge::five, 2, (x, v) -> x.part(0, 2, -1L, v), 0, 1, 2, 3, 4, 5, 6, 7, 8);
        Edge.eachRefused("part: n", Edge::five, ZipForms.OUTSIDE, (x, v) -> x.part(0, 2, -1L, v),
            -1, 9, 64, 65, LEAST, MOST);
        for (int n = 0; n <= 8; n++) {
            ZipForms x = new ZipForms();
            x.entry(2, 0, 'd', 1);
            x.part(0, 2, 0xFEFDFCFBFAF9F8F7L, n);
            Check.due("part: of " + n, x.extra(0, 0, 1, 0), n);
            for (int i = 0; i < n; i++) {
                Check.due("part: byte " + i + " of " + n, x.extra(0, 0, 2, i), 0xF7 + n - 1 - i);
            }
            Check.due("part: behind the last", x.extra(0, 0, 2, n), -33);
        }
    }

    private static void parted(ZipForms x, int kind, int parts) {
        x.entry(kind, 0, 'p', 1);
        for (int k = 0; k < parts; k++) {
            x.part(0, 10 + k, -1L - k, 8);
        }
    }

    private static void partsAreFull() {
        for (int kind = 0; kind <= 2; kind++) {
            int of = kind;
            for (int had = 0; had <= 2; had++) {
                int parts = had;
                Edge.taken("part: behind " + had, x -> parted(x, of, parts), x -> x.part(0, 5, 0, 8), had + 1);
            }
            Edge.eachRefused("part: a fourth of n", x -> parted(x, of, 3), ZipForms.FULL,
                (x, v) -> x.part(0, 5, 0, v), 0, 8);
            Edge.refused("part: id ahead of FULL", x -> parted(x, of, 3), x -> x.part(0, 1, 0, 0), ZipForms.OUTSIDE);
            Edge.refused("part: n ahead of FULL", x -> parted(x, of, 3), x -> x.part(0, 2, 0, 9), ZipForms.OUTSIDE);
        }
        ZipForms x = Edge.after(y -> parted(y, 0, 3));
        for (int k = 0; k < 3; k++) {
            Check.due("part: id of " + k, x.extra(0, k, 0, 0), 10 + k);
            Check.due("part: byte 0 of " + k, x.extra(0, k, 2, 0), 255);
            Check.due("part: byte 7 of " + k, x.extra(0, k, 2, 7), 255 - k);
        }
    }

    private static void stampNumbers() {
        for (int entry = 0; entry < 5; entry++) {
            int e = entry;
            Edge.eachTaken("stamp: year", Edge::five, 1, (x, v) -> x.stamp(e, v, 6, 15, 5), 1980, 1981, 2106, 2107);
            Edge.eachTaken("stamp: month", Edge::five, 1, (x, v) -> x.stamp(e, 2000, v, 15, 5), 1, 2, 11, 12);
            Edge.eachTaken("stamp: day", Edge::five, 1, (x, v) -> x.stamp(e, 2000, 2, v, 5), 1, 2, 29, 30, 31);
            Edge.eachTaken("stamp: second", Edge::five, 1, (x, v) -> x.stamp(e, 2000, 6, 15, v), 0, 1, 86398, 86399);
        }
        Edge.eachRefused("stamp: year", Edge::five, ZipForms.OUTSIDE, (x, v) -> x.stamp(1, v, 6, 15, 5),
            1979, 2108, 0, -1, LEAST, MOST);
        Edge.eachRefused("stamp: month", Edge::five, ZipForms.OUTSIDE, (x, v) -> x.stamp(1, 2000, v, 15, 5),
            0, 13, -1, LEAST, MOST);
        Edge.eachRefused("stamp: day", Edge::five, ZipForms.OUTSIDE, (x, v) -> x.stamp(1, 2000, 6, v, 5),
            0, 32, -1, LEAST, MOST);
        Edge.eachRefused("stamp: second", Edge::five, ZipForms.OUTSIDE, (x, v) -> x.stamp(1, 2000, 6, 15, v),
            -1, 86400, LEAST, MOST);
        Edge.eachRefused("stamp: e", Edge::five, ZipForms.UNKNOWN, (x, v) -> x.stamp(v, 2000, 6, 15, 5), NO_ENTRY);
        Edge.eachRefused("stamp: e ahead of OUTSIDE", Edge::five, ZipForms.UNKNOWN,
            (x, v) -> x.stamp(v, 1979, 13, 32, -1), NO_ENTRY);
    }

    private static void stampBits() {
        int[][] moments = {{1980, 1, 1, 0}, {1980, 1, 1, 1}, {1980, 1, 1, 2}, {1980, 1, 1, 59}, {1980, 1, 1, 60},
            {1980, 1, 1, 3599}, {1980, 1, 1, 3600}, {1980, 12, 31, 43199}, {1980, 12, 31, 43200}, {2043, 12, 31, 86398},
            {2044, 1, 1, 86399}, {2107, 12, 31, 86399}, {2107, 1, 31, 0}, {1981, 2, 30, 82799}, {2107, 12, 1, 82800}};
        for (int[] m : moments) {
            ZipForms x = Edge.after(Edge::five);
            x.stamp(1, m[0], m[1], m[2], m[3]);
            int hours = m[3] / 3600;
            int minutes = (m[3] - hours * 3600) / 60;
            int seconds = m[3] - hours * 3600 - minutes * 60;
            Check.due("stamp: DAY", x.about(1, 5), (m[0] - 1980) * 512 + m[1] * 32 + m[2]);
            Check.due("stamp: TIME of " + m[3], x.about(1, 4), hours * 2048 + minutes * 32 + seconds / 2);
        }
        ZipForms x = Edge.after(Edge::five);
        x.stamp(0, 2107, 12, 31, 86399);
        Check.due("stamp: the highest DAY", x.about(0, 5), 65439);
        Check.due("stamp: the highest TIME", x.about(0, 4), 49021);
        Check.due("stamp: no other ENTRY's", x.about(2, 5), 0);
    }

    private static void attributesOfAnyValue() {
        int[] values = {0, 1, -1, -2, -31, -32, -33, LEAST, LEAST + 1, MOST, MOST - 1};
        for (int entry = 0; entry < 5; entry++) {
            int e = entry;
            Edge.eachTaken("attributes:", Edge::five, 1, (x, v) -> x.attributes(e, v), values);
            for (int v : values) {
                ZipForms x = Edge.after(Edge::five);
                x.attributes(e, v);
                Check.due("attributes: are", x.about(e, 6), v);
                Check.due("attributes: no FAULT by " + v, x.told(3), 0);
            }
        }
        Edge.eachRefused("attributes: e", Edge::five, ZipForms.UNKNOWN, (x, v) -> x.attributes(v, 1), NO_ENTRY);
        for (int v : values) {
            ZipForms x = new ZipForms();
            Check.file(x, "a", "");
            x.attributes(0, v);
            x.write();
            Check.due("attributes: written", x.word(31 + 38), v & 0xFFFFFFFFL);
            x.attributes(0, 5);
            x.read();
            Check.due("attributes: read", x.about(0, 6), v);
        }
    }

    private static void clears() {
        for (int had = 0; had <= 12; had++) {
            int entries = had;
            Edge.taken("clear: of " + had, x -> {
                for (int i = 0; i < entries; i++) {
                    x.entry(0, 0, 'c', 1);
                }
            }, ZipForms::clear, had);
        }
        ZipForms x = Edge.after(Edge::five);
        x.at(-1);
        int bytes = x.told(1);
        Check.due("clear: five", x.clear(), 5);
        Check.due("clear: no ENTRIES", x.told(0), 0);
        Check.due("clear: BYTES stay", x.told(1), bytes);
        Check.due("clear: THE COMMENT stays", x.told(2), 4);
        Check.due("clear: the FAULT stays", x.told(3), 3);
        Check.due("clear: again", x.clear(), 0);
        Edge.refused("clear: of none", y -> {
            Edge.five(y);
            y.clear();
        }, ZipForms::clear, 0);
        Check.due("clear: read() brings them back", x.read(), 3);
    }
}
