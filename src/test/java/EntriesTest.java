/** Promises 1 to 9: a new object, entry, name, data, packed, part, stamp, attributes, clear. */
public final class EntriesTest {
    public static void main(String[] args) {
        newObject();
        entryNumbers();
        entryRefusals();
        entryBeginsAnew();
        names();
        nameRefusals();
        data();
        packed();
        parts();
        stamps();
        attributes();
        clear();
        Check.end();
    }

    private static void newObject() {
        ZipForms x = new ZipForms();
        Check.due("new: told(0)", x.told(0), 0);
        Check.due("new: told(1)", x.told(1), 0);
        Check.due("new: told(2)", x.told(2), 0);
        Check.due("new: told(3)", x.told(3), 0);
        Check.due("new: place()", x.place(), ZipForms.NONE);
        Check.due("new: about(0, 0)", x.about(0, 0), ZipForms.UNKNOWN);
        Check.due("new: clear()", x.clear(), 0);
        Check.due("new: write()", x.write(), 22);
    }

    private static void entryNumbers() {
        ZipForms x = new ZipForms();
        Check.due("entry: a FILE", x.entry(0, 0, Check.text("abcdefgh"), 8), 0);
        Check.due("entry: a PACKED STREAMED one", x.entry(1, 1, Check.text("zzab"), 2), 1);
        Check.due("entry: a FOLDER", x.entry(2, 0, Check.text("d"), 1), 2);
        Check.due("entry: a WIDE FILE", x.entry(0, 2, Check.text("w"), 1), 3);
        Check.due("entry: highest byte first", x.letter(0, 0), 'a');
        Check.due("entry: lowest byte last", x.letter(0, 7), 'h');
        Check.due("entry: lowest bytes only", x.letter(1, 0), 'a');
        Check.due("entry: two bytes", x.about(1, 1), 2);
        Check.due("entry: a FOLDER's / is counted", x.about(2, 1), 2);
        Check.due("entry: a FOLDER's /", x.letter(2, 1), '/');
        Check.due("entry: a negative a", x.entry(0, 0, -1L, 8), 4);
        Check.due("entry: bytes from 0 on", x.letter(4, 0), 255);
        Check.due("entry: / within", x.entry(0, 0, Check.text("a/b"), 3), 5);
        Check.due("entry: / first", x.entry(0, 0, Check.text("/b"), 2), 6);
        Check.due("entry: a FOLDER may end with /", x.entry(2, 0, Check.text("a/"), 2), 7);
        Check.due("entry: with two /", x.about(7, 1), 3);
        for (int i = 8; i < 12; i++) {
            Check.due("entry: " + i, x.entry(1, 2, 97, 1), i);
        }
        Check.due("entry: the 13th", x.entry(0, 0, 97, 1), ZipForms.FULL);
        Check.due("entry: OUTSIDE ahead of FULL", x.entry(0, 3, 97, 1), ZipForms.OUTSIDE);
        Check.due("entry: there are 12", x.told(0), 12);
    }

    private static void entryRefusals() {
        ZipForms x = new ZipForms();
        Check.due("entry: kind -1", x.entry(-1, 0, 97, 1), ZipForms.OUTSIDE);
        Check.due("entry: kind 3", x.entry(3, 0, 97, 1), ZipForms.OUTSIDE);
        Check.due("entry: form -1", x.entry(0, -1, 97, 1), ZipForms.OUTSIDE);
        Check.due("entry: form 3", x.entry(0, 3, 97, 1), ZipForms.OUTSIDE);
        Check.due("entry: FOLDER STREAMED", x.entry(2, 1, 97, 1), ZipForms.OUTSIDE);
        Check.due("entry: FOLDER WIDE", x.entry(2, 2, 97, 1), ZipForms.OUTSIDE);
        Check.due("entry: n 0", x.entry(0, 0, 97, 0), ZipForms.OUTSIDE);
        Check.due("entry: n -1", x.entry(0, 0, 97, -1), ZipForms.OUTSIDE);
        Check.due("entry: n 9", x.entry(0, 0, -1L, 9), ZipForms.OUTSIDE);
        Check.due("entry: n least", x.entry(0, 0, -1L, Integer.MIN_VALUE), ZipForms.OUTSIDE);
        Check.due("entry: a byte 0 ahead", x.entry(0, 0, 97, 2), ZipForms.OUTSIDE);
        Check.due("entry: a byte 0 behind", x.entry(2, 0, 97 << 8, 2), ZipForms.OUTSIDE);
        Check.due("entry: a FILE ends with /", x.entry(0, 0, Check.text("a/"), 2), ZipForms.OUTSIDE);
        Check.due("entry: a PACKED one ends with /", x.entry(1, 0, Check.text("/"), 1), ZipForms.OUTSIDE);
        Check.due("entry: none came", x.told(0), 0);
        Check.due("entry: no fault", x.told(3), 0);
    }

    private static void entryBeginsAnew() {
        ZipForms x = new ZipForms();
        Check.made(x, 1, 2, "first", "data");
        x.packed(0, 5, 6);
        x.part(0, 9, 1, 1);
        x.stamp(0, 2000, 1, 1, 1000);
        x.attributes(0, 77);
        x.write();
        x.clear();
        Check.due("anew: entry()", x.entry(1, 0, 97, 1), 0);
        int[] dueAbout = {1, 1, 0, 8, 0, 0, 0, 0, 0, -1, 1};
        for (int what = 0; what < dueAbout.length; what++) {
            Check.due("anew: about(0, " + what + ")", x.about(0, what), dueAbout[what]);
        }
        Check.due("anew: TRUE size", x.size(0, 1), 0);
        Check.due("anew: SUM", x.size(0, 2), 0);
        Check.due("anew: DATA", x.data(0, 1, 1), 1);
    }

    private static void names() {
        ZipForms x = new ZipForms();
        Check.file(x, "ab", "");
        Check.folder(x, "d");
        Check.due("name: a FILE", x.name(0, Check.text("xcd"), 2), 4);
        Check.due("name: behind", x.letter(0, 2), 'c');
        Check.due("name: last", x.letter(0, 3), 'd');
        Check.due("name: a FOLDER", x.name(1, Check.text("ef"), 2), 4);
        Check.due("name: ahead of /", x.letter(1, 1), 'e');
        Check.due("name: ahead of /", x.letter(1, 2), 'f');
        Check.due("name: the /", x.letter(1, 3), '/');
        Check.due("name: 8 more", x.name(0, Check.text("12345678"), 8), 12);
        Check.due("name: 5 more are too many", x.name(0, Check.text("12345"), 5), ZipForms.FULL);
        Check.due("name: 4 more", x.name(0, Check.text("1234"), 4), 16);
        Check.due("name: 1 more", x.name(0, Check.text("1"), 1), ZipForms.FULL);
        Check.due("name: a FOLDER to 12", x.name(1, Check.text("12345678"), 8), 12);
        Check.due("name: a FOLDER beyond 16", x.name(1, Check.text("12345"), 5), ZipForms.FULL);
        Check.due("name: a FOLDER to 16", x.name(1, Check.text("1234"), 4), 16);
        Check.due("name: its / stays last", x.letter(1, 15), '/');
        Check.due("name: byte 14", x.letter(1, 14), '4');
    }

    private static void nameRefusals() {
        ZipForms x = new ZipForms();
        Check.file(x, "a", "");
        Check.folder(x, "d");
        Check.due("name: no such", x.name(2, 97, 1), ZipForms.UNKNOWN);
        Check.due("name: -1", x.name(-1, 97, 1), ZipForms.UNKNOWN);
        Check.due("name: UNKNOWN first", x.name(2, 97, 9), ZipForms.UNKNOWN);
        Check.due("name: n 9", x.name(0, -1L, 9), ZipForms.OUTSIDE);
        Check.due("name: n 0", x.name(0, 97, 0), ZipForms.OUTSIDE);
        Check.due("name: n -1", x.name(0, 97, -1), ZipForms.OUTSIDE);
        Check.due("name: a byte 0", x.name(1, 97 << 8, 2), ZipForms.OUTSIDE);
        Check.due("name: a FILE with / last", x.name(0, Check.text("b/"), 2), ZipForms.OUTSIDE);
        Check.due("name: a FOLDER with / last", x.name(1, Check.text("b/"), 2), 4);
        Check.due("name: unchanged", x.about(0, 1), 1);
        x.name(0, -1L, 8);
        Check.due("name: OUTSIDE ahead of FULL", x.name(0, Check.text("abcdefg/"), 8), ZipForms.OUTSIDE);
    }

    private static void data() {
        ZipForms x = new ZipForms();
        x.entry(0, 0, 97, 1);
        Check.folder(x, "d");
        x.entry(1, 1, 98, 1);
        Check.due("data: nothing at first", x.about(0, 10), 1);
        Check.due("data: 0 bytes", x.data(0, -1L, 0), 0);
        Check.due("data: is there then", x.about(0, 10), 0);
        Check.due("data: any bytes", x.data(0, 0x2F00FFL, 3), 3);
        Check.due("data: /", x.octet(0, 0), '/');
        Check.due("data: 0", x.octet(0, 1), 0);
        Check.due("data: 255", x.octet(0, 2), 255);
        for (int k = 1; k <= 4; k++) {
            Check.due("data: 8 more", x.data(0, k, 8), 3 + 8 * k);
        }
        Check.due("data: 6 more are too many", x.data(0, 0, 6), ZipForms.FULL);
        Check.due("data: 5 more", x.data(0, 0, 5), 40);
        Check.due("data: 0 more", x.data(0, 0, 0), 40);
        Check.due("data: 1 more", x.data(0, 0, 1), ZipForms.FULL);
        Check.due("data: OUTSIDE ahead of FULL", x.data(0, 0, 9), ZipForms.OUTSIDE);
        Check.due("data: a PACKED one", x.data(2, 7, 1), 1);
        Check.due("data: UNKNOWN", x.data(3, 0, 1), ZipForms.UNKNOWN);
        Check.due("data: UNKNOWN ahead of OUTSIDE", x.data(-1, 0, 9), ZipForms.UNKNOWN);
        Check.due("data: n -1", x.data(0, 0, -1), ZipForms.OUTSIDE);
        Check.due("data: OUTSIDE ahead of FAULT", x.data(1, 0, 9), ZipForms.OUTSIDE);
        Check.due("data: no fault yet", x.told(3), 0);
        Check.due("data: a FOLDER", x.data(1, 0, 0), -32);
        Check.due("data: the fault", x.told(3), 2);
    }

    private static void packed() {
        ZipForms x = new ZipForms();
        x.entry(1, 0, 97, 1);
        Check.file(x, "f", "1");
        Check.folder(x, "d");
        Check.due("packed: 0 at first", x.size(0, 1), 0);
        Check.due("packed: highest", x.packed(0, 1000000, -1), 1);
        Check.due("packed: TRUE size", x.size(0, 1), 1000000);
        Check.due("packed: SUM", x.size(0, 2), 0xFFFFFFFFL);
        Check.due("packed: above", x.packed(0, 1000001, 1), ZipForms.OUTSIDE);
        Check.due("packed: below", x.packed(0, -1, 1), ZipForms.OUTSIDE);
        Check.due("packed: lowest", x.packed(0, 0, 5), 1);
        Check.due("packed: SUM 5", x.size(0, 2), 5);
        Check.due("packed: UNKNOWN", x.packed(3, -1, 1), ZipForms.UNKNOWN);
        Check.due("packed: OUTSIDE ahead of FAULT", x.packed(1, -1, 1), ZipForms.OUTSIDE);
        Check.due("packed: a FILE", x.packed(1, 1, 1), -32);
        Check.due("packed: a FOLDER", x.packed(2, 1, 1), -32);
        x.data(0, 1, 1);
        Check.due("packed: DATA does not change SUM", x.size(0, 2), 5);
        Check.due("packed: nor TRUE size", x.size(0, 1), 0);
    }

    private static void parts() {
        ZipForms x = new ZipForms();
        Check.folder(x, "d");
        Check.due("part: id 1", x.part(0, 1, 0, 0), ZipForms.OUTSIDE);
        Check.due("part: id 65536", x.part(0, 65536, 0, 0), ZipForms.OUTSIDE);
        Check.due("part: n 9", x.part(0, 2, 0, 9), ZipForms.OUTSIDE);
        Check.due("part: n -1", x.part(0, 2, 0, -1), ZipForms.OUTSIDE);
        Check.due("part: UNKNOWN", x.part(1, 1, 0, 9), ZipForms.UNKNOWN);
        Check.due("part: empty", x.part(0, 2, 5, 0), 1);
        Check.due("part: of 8", x.part(0, 65535, 0x0102030405060708L, 8), 2);
        Check.due("part: same id", x.part(0, 2, 0xAABB, 1), 3);
        Check.due("part: a fourth", x.part(0, 2, 0, 0), ZipForms.FULL);
        Check.due("part: OUTSIDE ahead of FULL", x.part(0, 0, 0, 0), ZipForms.OUTSIDE);
        Check.due("part: three", x.about(0, 7), 3);
        Check.due("part: byte 0", x.extra(0, 1, 2, 0), 1);
        Check.due("part: byte 7", x.extra(0, 1, 2, 7), 8);
        Check.due("part: lowest byte", x.extra(0, 2, 2, 0), 0xBB);
    }

    private static void stamps() {
        ZipForms x = new ZipForms();
        Check.file(x, "a", "");
        Check.due("stamp: TIME at first", x.about(0, 4), 0);
        Check.due("stamp: DAY at first", x.about(0, 5), 0);
        Check.due("stamp: first", x.stamp(0, 1980, 1, 1, 0), 1);
        Check.due("stamp: first DAY", x.about(0, 5), 33);
        Check.due("stamp: first TIME", x.about(0, 4), 0);
        Check.due("stamp: last", x.stamp(0, 2107, 12, 31, 86399), 1);
        Check.due("stamp: last DAY", x.about(0, 5), 127 * 512 + 12 * 32 + 31);
        Check.due("stamp: last TIME", x.about(0, 4), 23 * 2048 + 59 * 32 + 29);
        Check.due("stamp: 31 of February", x.stamp(0, 2001, 2, 31, 3661), 1);
        Check.due("stamp: TIME", x.about(0, 4), 2048 + 32);
        int[][] outside = {{1979, 1, 1, 0}, {2108, 1, 1, 0}, {2000, 0, 1, 0}, {2000, 13, 1, 0},
            {2000, 1, 0, 0}, {2000, 1, 32, 0}, {2000, 1, 1, -1}, {2000, 1, 1, 86400}};
        for (int[] o : outside) {
            Check.due("stamp: OUTSIDE", x.stamp(0, o[0], o[1], o[2], o[3]), ZipForms.OUTSIDE);
            Check.due("stamp: UNKNOWN", x.stamp(1, o[0], o[1], o[2], o[3]), ZipForms.UNKNOWN);
        }
        Check.due("stamp: unchanged", x.about(0, 4), 2048 + 32);
    }

    private static void attributes() {
        ZipForms x = new ZipForms();
        Check.file(x, "a", "");
        Check.due("attributes: at first", x.about(0, 6), 0);
        Check.due("attributes: least", x.attributes(0, Integer.MIN_VALUE), 1);
        Check.due("attributes: are", x.about(0, 6), Integer.MIN_VALUE);
        Check.due("attributes: UNKNOWN", x.attributes(1, 5), ZipForms.UNKNOWN);
        Check.due("attributes: below", x.attributes(-1, 5), ZipForms.UNKNOWN);
    }

    private static void clear() {
        ZipForms x = new ZipForms();
        Check.file(x, "a", "");
        Check.file(x, "b", "");
        x.comment(97, 1);
        x.write();
        int bytes = x.told(1);
        Check.due("clear: two", x.clear(), 2);
        Check.due("clear: none", x.told(0), 0);
        Check.due("clear: again", x.clear(), 0);
        Check.due("clear: BYTES stay", x.told(1), bytes);
        Check.due("clear: COMMENT stays", x.told(2), 1);
        Check.due("clear: UNKNOWN", x.about(0, 0), ZipForms.UNKNOWN);
        Check.due("clear: read()", x.read(), 2);
    }
}
