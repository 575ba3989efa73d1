import java.io.ByteArrayInputStream;
import java.io.ByteArrayOutputStream;
import java.io.IOException;
import java.util.zip.CRC32;
import java.util.zip.ZipEntry;
import java.util.zip.ZipInputStream;

/** Promises 10 to 12 and 14 to 20: comment, write, add, place, feed, cut, poke, at, half, word. */
public final class BytesTest {
    public static void main(String[] args) throws IOException {
        comments();
        rowsOfAllForms();
        writeRefusals();
        writeFullEdge();
        fullOfStreamed();
        javaReadsIt();
        adds();
        addRefusals();
        addOfRenamed();
        feeds();
        cuts();
        pokes();
        plainReaders();
        places();
        Check.end();
    }

    private static void comments() {
        ZipForms x = new ZipForms();
        Check.due("comment: of 8", x.comment(Check.text("abcdefgh"), 8), 1);
        Check.due("comment: told", x.told(2), 8);
        Check.due("comment: write()", x.write(), 30);
        Check.due("comment: its number", x.half(20), 8);
        Check.due("comment: first byte", x.at(22), 'a');
        Check.due("comment: last byte", x.at(29), 'h');
        Check.due("comment: n 9", x.comment(0, 9), ZipForms.OUTSIDE);
        Check.due("comment: n -1", x.comment(0, -1), ZipForms.OUTSIDE);
        Check.due("comment: stays", x.told(2), 8);
        Check.due("comment: shorter", x.comment(0, 1), 1);
        Check.due("comment: a byte 0", x.write(), 23);
        Check.due("comment: is 0", x.at(22), 0);
        Check.due("comment: none", x.comment(1, 0), 1);
        Check.due("comment: of 0", x.told(2), 0);
        Check.due("comment: write() without", x.write(), 22);
        commentOfTwelve();
    }

    private static void commentOfTwelve() {
        ZipForms x = new ZipForms();
        x.comment(Check.text("12345678"), 8);
        x.write();
        x.feed(Check.text("wxyz"), 4);
        Check.set(x, 20, 12, 2);
        Check.due("comment of 12: read()", x.read(), 0);
        Check.due("comment of 12: told", x.told(2), 12);
        Check.due("comment of 12: stays so", x.write(), 34);
        Check.due("comment of 12: last byte", x.at(33), 'z');
        Check.due("comment of 12: goes", x.comment(97, 1), 1);
        Check.due("comment of 12: written", x.write(), 23);
    }

    private static long sum(String s) {
        CRC32 c = new CRC32();
        c.update(s.getBytes());
        return c.getValue();
    }

    private static void put(ByteArrayOutputStream o, long v, int n) {
        for (int k = 0; k < n; k++) {
            o.write((int) (v >>> 8 * k));
        }
    }

    private static void compare(String what, ZipForms x, ByteArrayOutputStream due) {
        byte[] want = due.toByteArray();
        byte[] got = Check.bytes(x);
        Check.due(what + ": length", got.length, want.length);
        for (int i = 0; i < Math.min(got.length, want.length); i++) {
            Check.due(what + ": byte " + i, got[i], want[i]);
        }
    }

    private static void putRow(ByteArrayOutputStream o, int version, int flags, int method, long[] sumAndSizes) {
        put(o, version, 2);
        put(o, flags, 2);
        put(o, method, 2);
        put(o, 2048 + 32, 2);
        put(o, 512 + 32 + 1, 2);
        for (long v : sumAndSizes) {
            put(o, v, 4);
        }
    }

    /** A streamed FILE and a wide PACKED one, each byte as the document tells it. */
    private static void rowsOfAllForms() {
        ZipForms x = new ZipForms();
        Check.made(x, 0, 1, "s", "abc");
        Check.made(x, 1, 2, "w/x", "de");
        Check.folder(x, "f");
        x.packed(1, 700000, -2);
        x.part(1, 0x1234, 0x0A0B, 2);
        x.part(1, 2, 0, 0);
        x.attributes(0, 0x81020304);
        for (int e = 0; e < 3; e++) {
            x.stamp(e, 1981, 1, 1, 3661);
        }
        x.comment(Check.text("ok"), 2);
        long sum = sum("abc");
        long[] streamed = {sum, 3, 3};
        long[] wide = {0xFFFFFFFEL, 0xFFFFFFFFL, 0xFFFFFFFFL};
        long[] none = {0, 0, 0};
        ByteArrayOutputStream o = new ByteArrayOutputStream();
        put(o, 0x04034B50L, 4);
        putRow(o, 20, 8, 0, none);
        put(o, 1, 4);
        o.writeBytes("sabc".getBytes());
        put(o, 0x08074B50L, 4);
        for (long v : streamed) {
            put(o, v, 4);
        }
        int wideAt = o.size();
        put(o, 0x04034B50L, 4);
        putRow(o, 45, 0, 8, wide);
        putWideTail(o, false, 0);
        o.writeBytes("de".getBytes());
        int folderAt = o.size();
        put(o, 0x04034B50L, 4);
        putRow(o, 20, 0, 0, none);
        put(o, 2, 4);
        o.writeBytes("f/".getBytes());
        int centreAt = o.size();
        put(o, 0x02014B50L, 4);
        put(o, 20, 2);
        putRow(o, 20, 8, 0, streamed);
        put(o, 1, 4);
        put(o, 0, 6);
        put(o, 0x81020304L, 4);
        put(o, 0, 4);
        o.writeBytes("s".getBytes());
        put(o, 0x02014B50L, 4);
        put(o, 20, 2);
        putRow(o, 45, 0, 8, wide);
        putWideTail(o, true, wideAt);
        put(o, 0x02014B50L, 4);
        put(o, 20, 2);
        putRow(o, 20, 0, 0, none);
        put(o, 2, 4);
        put(o, 0, 10);
        put(o, folderAt, 4);
        o.writeBytes("f/".getBytes());
        int centreBytes = o.size() - centreAt;
        put(o, 0x06054B50L, 4);
        put(o, 0, 4);
        put(o, 3, 2);
        put(o, 3, 2);
        put(o, centreBytes, 4);
        put(o, centreAt, 4);
        put(o, 2, 2);
        o.writeBytes("ok".getBytes());
        Check.due("rows: write()", x.write(), o.size());
        compare("rows", x, o);
        Check.due("rows: place 0", x.about(0, 9), 0);
        Check.due("rows: place 1", x.about(1, 9), wideAt);
        Check.due("rows: place 2", x.about(2, 9), folderAt);
        Check.due("rows: read()", x.read(), 3);
        x.write();
        compare("rows again", x, o);
    }

    private static void putWideTail(ByteArrayOutputStream o, boolean inCentre, int place) {
        put(o, 3, 2);
        put(o, 20 + 6 + 4, 2);
        if (inCentre) {
            put(o, 0, 6);
            put(o, 0, 4);
            put(o, place, 4);
        }
        o.writeBytes("w/x".getBytes());
        put(o, 1, 2);
        put(o, 16, 2);
        put(o, 700000, 8);
        put(o, 2, 8);
        put(o, 0x1234, 2);
        put(o, 2, 2);
        o.write(0x0A);
        o.write(0x0B);
        put(o, 2, 2);
        put(o, 0, 2);
    }

    private static void writeRefusals() {
        ZipForms x = new ZipForms();
        Check.folder(x, "d");
        Check.due("write: a FOLDER alone", x.write(), 32 + 48 + 22);
        x.entry(1, 0, 97, 1);
        Check.due("write: DATA is nothing", x.write(), -31);
        Check.due("write: the fault", x.told(3), 1);
        Check.due("write: BYTES stay", x.told(1), 102);
        Check.due("write: no place", x.about(1, 9), ZipForms.NONE);
        x.data(1, 0, 0);
        Check.due("write: is there", x.write(), 102 + 31 + 47);
        Check.due("write: its place", x.about(1, 9), 32);
    }

    /** 12 entries with 3 PARTS of 8 are beyond 2000; the same with fewer bytes are just 2000, or 2001. */
    private static void writeFullEdge() {
        ZipForms x = new ZipForms();
        for (int i = 0; i < 12; i++) {
            Check.file(x, "abcdefgh", "0123456789012345678901234567890123456789");
        }
        // Each has 38 + 40 and 54 bytes: 1584 and 22 in all.
        Check.due("write: 1606", x.write(), 1606);
        for (int i = 0; i < 12; i++) {
            x.part(i, 2, 0, 8);
        }
        Check.due("write: 1894", x.write(), 1894);
        for (int i = 0; i < 4; i++) {
            x.part(i, 2, 0, 8);
        }
        Check.due("write: 1990", x.write(), 1990);
        x.part(4, 2, 0, 0);
        x.comment(0, 2);
        Check.due("write: just 2000", x.write(), 2000);
        Check.due("write: told", x.told(1), 2000);
        Check.due("write: read()", x.read(), 12);
        x.comment(0, 3);
        Check.due("write: 2001", x.write(), ZipForms.FULL);
        Check.due("write: FULL changes nothing", x.at(1999 - 3), 2);
        Check.due("add: FULL", x.add(12), ZipForms.FULL);
        x.cut(0);
        Check.due("add: FULL of none", x.add(0), ZipForms.FULL);
        x.comment(0, 2);
        Check.due("add: just 2000", x.add(0), 2000);
        x.clear();
        x.entry(0, 0, 97, 1);
        Check.due("add: FAULT ahead of FULL", x.add(0), -31);
    }

    /** What is behind DATA counts for FULL as well: 12 of 39 + 40 + 16 + 55 bytes, 7 PARTS and THE END. */
    private static void fullOfStreamed() {
        ZipForms x = new ZipForms();
        for (int i = 0; i < 12; i++) {
            Check.made(x, 1, 1, "abcdefghi", "0123456789012345678901234567890123456789");
        }
        Check.due("STREAMED: 1822", x.write(), 1822);
        for (int i = 0; i < 7; i++) {
            x.part(i, 2, 0, 8);
        }
        Check.due("STREAMED: 1990", x.write(), 1990);
        x.comment(0, 8);
        Check.due("STREAMED: 1998", x.write(), 1998);
        x.name(0, 'x', 1);
        Check.due("STREAMED: 2000", x.write(), 2000);
        x.name(0, 'x', 1);
        Check.due("STREAMED: 2002", x.write(), ZipForms.FULL);
        Check.due("STREAMED: stays", x.told(1), 2000);
    }

    private static void javaReadsIt() throws IOException {
        ZipForms x = new ZipForms();
        Check.file(x, "one.txt", "the first");
        Check.folder(x, "dir");
        Check.made(x, 0, 2, "dir/two.bin", "the second one, a wide one");
        x.comment(Check.text("hello"), 5);
        x.write();
        String[] names = {"one.txt", "dir/", "dir/two.bin"};
        String[] texts = {"the first", "", "the second one, a wide one"};
        try (ZipInputStream in = new ZipInputStream(new ByteArrayInputStream(Check.bytes(x)))) {
            for (int i = 0; i < names.length; i++) {
                ZipEntry e = in.getNextEntry();
                Check.due("java: name " + i, e != null && e.getName().equals(names[i]) ? 1 : 0, 1);
                Check.due("java: text " + i, new String(in.readAllBytes()).equals(texts[i]) ? 1 : 0, 1);
            }
            Check.due("java: no more", in.getNextEntry() == null ? 1 : 0, 1);
        }
    }

    private static void adds() {
        ZipForms x = new ZipForms();
        Check.due("add: of none", x.add(0), 22);
        Check.due("add: again", x.add(0), 44);
        Check.due("add: its place", x.word(22 + 16), 22);
        Check.file(x, "a", "1");
        Check.due("add: one", x.add(0), 44 + 32 + 47 + 22);
        Check.due("add: place 0", x.about(0, 9), 44);
        Check.file(x, "b", "22");
        Check.due("add: another", x.add(1), 145 + 33 + 94 + 22);
        Check.due("add: place 0 stays", x.about(0, 9), 44);
        Check.due("add: place 1", x.about(1, 9), 145);
        Check.due("add: CENTRE tells place 0", x.word(178 + 42), 44);
        Check.due("add: CENTRE tells place 1", x.word(178 + 47 + 42), 145);
        Check.due("add: CENTRE's bytes", x.word(272 + 12), 94);
        Check.due("add: CENTRE's place", x.word(272 + 16), 178);
        Check.due("add: read()", x.read(), 2);
        Check.due("add: a CENTRE alone", x.add(2), 294 + 94 + 22);
        Check.due("add: read() again", x.read(), 2);
        Check.due("add: all", x.add(0), 410 + 32 + 33 + 94 + 22);
        Check.due("add: place 0 is new", x.about(0, 9), 410);
    }

    private static void addRefusals() {
        ZipForms x = new ZipForms();
        Check.due("add: UNKNOWN 1 of 0", x.add(1), ZipForms.UNKNOWN);
        Check.due("add: UNKNOWN -1", x.add(-1), ZipForms.UNKNOWN);
        x.entry(0, 0, 97, 1);
        Check.due("add: UNKNOWN 2 of 1", x.add(2), ZipForms.UNKNOWN);
        Check.due("add: STATE ahead of FAULT", x.add(1), ZipForms.STATE);
        Check.due("add: FAULT", x.add(0), -31);
        x.data(0, 1, 1);
        x.write();
        x.entry(0, 0, 98, 1);
        x.entry(0, 0, 99, 1);
        x.data(1, 1, 1);
        Check.due("add: STATE", x.add(2), ZipForms.STATE);
        Check.due("add: FAULT of a later one", x.add(1), -31);
        Check.due("add: BYTES stay", x.told(1), 101);
        x.data(2, 1, 1);
        Check.due("add: both", x.add(1), 101 + 64 + 141 + 22);
    }

    /** The CENTRE is of the entries as they are; their old LOCAL rows stay as they were. */
    private static void addOfRenamed() {
        ZipForms x = new ZipForms();
        Check.file(x, "a", "1");
        x.write();
        x.name(0, 98, 1);
        Check.due("renamed: add(1)", x.add(1), 101 + 48 + 22);
        Check.due("renamed: read()", x.read(), -17);
        Check.due("renamed: place()", x.place(), 0);
        Check.due("renamed: add(0)", x.add(0), 171 + 33 + 48 + 22);
        Check.due("renamed: read() then", x.read(), 1);
    }

    private static void feeds() {
        ZipForms x = new ZipForms();
        Check.due("feed: n 0", x.feed(1, 0), ZipForms.OUTSIDE);
        Check.due("feed: n 9", x.feed(1, 9), ZipForms.OUTSIDE);
        Check.due("feed: n -1", x.feed(1, -1), ZipForms.OUTSIDE);
        Check.due("feed: 2", x.feed(0xAA0102, 2), 2);
        Check.due("feed: highest first", x.at(0), 1);
        Check.due("feed: lowest last", x.at(1), 2);
        for (int k = 1; k < 250; k++) {
            x.feed(-1L, 8);
        }
        Check.due("feed: 1994", x.told(1), 1994);
        Check.due("feed: 7 are too many", x.feed(0, 7), ZipForms.FULL);
        Check.due("feed: OUTSIDE ahead of FULL", x.feed(0, 9), ZipForms.OUTSIDE);
        Check.due("feed: 6", x.feed(0, 6), 2000);
        Check.due("feed: 1", x.feed(0, 1), ZipForms.FULL);
        Check.due("feed: the last is there", x.at(1999), 0);
        Check.due("feed: add() is FULL", x.add(0), ZipForms.FULL);
        Check.due("feed: write() has room", x.write(), 22);
    }

    private static void cuts() {
        ZipForms x = new ZipForms();
        Check.due("cut: of none", x.cut(0), 0);
        Check.due("cut: 1 of none", x.cut(1), ZipForms.OUTSIDE);
        x.feed(0x010203, 3);
        Check.due("cut: -1", x.cut(-1), ZipForms.OUTSIDE);
        Check.due("cut: 4 of 3", x.cut(4), ZipForms.OUTSIDE);
        Check.due("cut: 3 of 3", x.cut(3), 0);
        Check.due("cut: 1 of 3", x.cut(1), 2);
        Check.due("cut: what stays", x.at(0), 1);
        Check.due("cut: what went", x.at(1), -33);
        Check.due("cut: told", x.told(1), 1);
    }

    private static void pokes() {
        ZipForms x = new ZipForms();
        x.feed(0x0FF0, 2);
        Check.due("poke: ", x.poke(0, 255), 0xF0);
        Check.due("poke: 0 keeps", x.poke(0, 0), 0xF0);
        Check.due("poke: is", x.at(0), 0xF0);
        Check.due("poke: mask 256", x.poke(1, 256), ZipForms.OUTSIDE);
        Check.due("poke: mask -1", x.poke(1, -1), ZipForms.OUTSIDE);
        Check.due("poke: stays", x.at(1), 0xF0);
        Check.due("poke: i 2", x.poke(2, 1), ZipForms.UNKNOWN);
        Check.due("poke: UNKNOWN ahead of OUTSIDE", x.poke(-1, 256), ZipForms.UNKNOWN);
        Check.due("poke: i highest", x.poke(Integer.MAX_VALUE, 1), ZipForms.UNKNOWN);
        Check.due("poke: no fault", x.told(3), 0);
    }

    private static void plainReaders() {
        ZipForms x = new ZipForms();
        Check.due("at: no bytes", x.at(0), -33);
        Check.due("at: the fault", x.told(3), 3);
        x.feed(0x010203F4F5L, 5);
        Check.due("at: 0", x.at(0), 1);
        Check.due("at: 4", x.at(4), 0xF5);
        Check.due("at: 5", x.at(5), -33);
        Check.due("half: 0", x.half(0), 0x0201);
        Check.due("half: 3", x.half(3), 0xF5F4);
        Check.due("half: 4", x.half(4), -33);
        Check.due("half: -1", x.half(-1), -33);
        Check.due("word: 0", x.word(0), 0xF4030201L);
        Check.due("word: 1", x.word(1), 0xF5F40302L);
        Check.due("word: 2", x.word(2), -33);
        Check.due("word: -1", x.word(-1), -33);
        for (int i : new int[] {Integer.MAX_VALUE, Integer.MAX_VALUE - 3, Integer.MIN_VALUE, 1999, 2000}) {
            Check.due("at: " + i, x.at(i), -33);
            Check.due("half: " + i, x.half(i), -33);
            Check.due("word: " + i, x.word(i), -33);
        }
    }

    private static void places() {
        ZipForms x = new ZipForms();
        Check.due("place: at first", x.place(), ZipForms.NONE);
        Check.due("place: read() of no bytes", x.read(), -11);
        Check.due("place: 0", x.place(), 0);
        x.feed(1, 5);
        Check.due("place: of the latest read()", x.place(), 0);
        x.read();
        Check.due("place: 5", x.place(), 5);
        x.write();
        Check.due("place: stays by write()", x.place(), 5);
        Check.due("place: a whole one", x.read(), 0);
        Check.due("place: NONE again", x.place(), ZipForms.NONE);
    }
}
