/** Promises 21 to 28: about, letter, octet, size, extra, right, same, told. */
public final class AboutTest {
    public static void main(String[] args) {
        abouts();
        aboutFolderData();
        aboutPlaces();
        letters();
        octets();
        sizes();
        sizesOfNothing();
        extras();
        rights();
        rightAfterReading();
        rightAfterDataOfNone();
        sames();
        tolds();
        Check.end();
    }

    /** A FILE, a PACKED STREAMED one, a FOLDER, a WIDE FILE; only the first has DATA. */
    private static ZipForms four() {
        ZipForms x = new ZipForms();
        Check.file(x, "abc", "hello");
        Check.made(x, 1, 1, "p", null);
        Check.folder(x, "d");
        Check.made(x, 0, 2, "w", null);
        return x;
    }

    private static void abouts() {
        ZipForms x = four();
        x.part(3, 5, 0, 0);
        x.attributes(1, -2);
        x.stamp(2, 1990, 2, 3, 7200);
        int[][] due = {
            {0, 3, 0, 0, 0, 0, 0, 0, 0, -1, 0},
            {1, 1, 8, 8, 0, 0, -2, 0, 0, -1, 1},
            {2, 2, 0, 0, 4096, 10 * 512 + 2 * 32 + 3, 0, 0, 0, -1, 1},
            {0, 1, 0, 0, 0, 0, 0, 1, 1, -1, 1}};
        for (int e = 0; e < due.length; e++) {
            for (int what = 0; what < due[e].length; what++) {
                Check.due("about(" + e + ", " + what + ")", x.about(e, what), due[e][what]);
            }
        }
        Check.due("about: what -1", x.about(0, -1), ZipForms.OUTSIDE);
        Check.due("about: what 11", x.about(0, 11), ZipForms.OUTSIDE);
        Check.due("about: UNKNOWN", x.about(4, 0), ZipForms.UNKNOWN);
        Check.due("about: UNKNOWN ahead of OUTSIDE", x.about(-1, 11), ZipForms.UNKNOWN);
        Check.due("about: highest", x.about(Integer.MAX_VALUE, 0), ZipForms.UNKNOWN);
    }

    private static void aboutFolderData() {
        ZipForms x = new ZipForms();
        Check.folder(x, "d");
        Check.due("FOLDER: DATA is nothing", x.about(0, 10), 1);
        x.data(0, 97, 1);
        Check.due("FOLDER: still nothing behind data()", x.about(0, 10), 1);
        Check.due("FOLDER: write() needs no DATA of it", x.write(), 32 + 48 + 22);
        Check.due("FOLDER: add() needs none", x.add(1), 102 + 48 + 22);
        Check.due("FOLDER: read()", x.read(), 1);
        Check.due("FOLDER: nothing behind read()", x.about(0, 10), 1);
        x.clear();
        Check.file(x, "f", "1");
        x.clear();
        Check.folder(x, "d");
        Check.due("FOLDER: nothing where a FILE was", x.about(0, 10), 1);
        x.clear();
        Check.made(x, 0, 0, "e", null);
        x.data(0, 0, 0);
        Check.due("FILE: of no bytes is not nothing", x.about(0, 10), 0);
        x.write();
        x.read();
        Check.due("FILE: of no bytes, read, is not nothing", x.about(0, 10), 0);
    }

    private static void aboutPlaces() {
        ZipForms x = new ZipForms();
        Check.file(x, "a", "1");
        Check.file(x, "b", "1");
        x.write();
        Check.due("place: of write()", x.about(1, 9), 32);
        Check.file(x, "c", "1");
        Check.due("place: of a new one", x.about(2, 9), ZipForms.NONE);
        x.cut(0);
        Check.due("place: stays by cut()", x.about(1, 9), 32);
        x.name(0, 97, 1);
        x.data(0, 97, 1);
        Check.due("place: stays by name() and data()", x.about(0, 9), 0);
        x.feed(0, 5);
        x.add(0);
        Check.due("place: of add()", x.about(0, 9), 5);
        Check.due("place: of add(), 2", x.about(2, 9), 5 + 34 + 32);
        Check.due("place: read()", x.read(), 3);
        Check.due("place: of read()", x.about(1, 9), 5 + 34);
    }

    private static void letters() {
        ZipForms x = four();
        Check.due("letter: first", x.letter(0, 0), 'a');
        Check.due("letter: last", x.letter(0, 2), 'c');
        Check.due("letter: 3", x.letter(0, 3), -33);
        Check.due("letter: -1", x.letter(0, -1), -33);
        Check.due("letter: highest", x.letter(0, Integer.MAX_VALUE), -33);
        Check.due("letter: UNKNOWN ahead of FAULT", x.letter(4, -1), ZipForms.UNKNOWN);
        Check.due("letter: a FOLDER's /", x.letter(2, 1), '/');
        x.name(0, 0xFEFFL, 2);
        Check.due("letter: from 0 on", x.letter(0, 3), 254);
    }

    private static void octets() {
        ZipForms x = four();
        x.data(0, 200, 1);
        Check.due("octet: first", x.octet(0, 0), 'h');
        Check.due("octet: from 0 on", x.octet(0, 5), 200);
        Check.due("octet: 6", x.octet(0, 6), -33);
        Check.due("octet: -1", x.octet(0, -1), -33);
        Check.due("octet: nothing there", x.octet(1, -1), -31);
        Check.due("octet: the fault", x.told(3), 1);
        Check.due("octet: nothing there, WIDE", x.octet(3, 0), -31);
        Check.due("octet: a FOLDER", x.octet(2, 0), -32);
        Check.due("octet: UNKNOWN", x.octet(4, 0), ZipForms.UNKNOWN);
        x.data(1, 0, 0);
        Check.due("octet: of none", x.octet(1, 0), -33);
    }

    private static void sizes() {
        ZipForms x = four();
        Check.due("size: DATA", x.size(0, 0), 5);
        Check.due("size: TRUE size", x.size(0, 1), 5);
        Check.due("size: SUM of hello", x.size(0, 2), 0x3610A686L);
        x.data(3, 0, 0);
        Check.due("size: SUM of none", x.size(3, 2), 0);
        x.data(3, Check.text("12345678"), 8);
        x.data(3, '9', 1);
        Check.due("size: SUM of 123456789", x.size(3, 2), 0xCBF43926L);
        x.data(1, 7, 2);
        x.packed(1, 40000, -1);
        Check.due("size: PACKED DATA", x.size(1, 0), 2);
        Check.due("size: PACKED TRUE size", x.size(1, 1), 40000);
        Check.due("size: PACKED SUM", x.size(1, 2), 0xFFFFFFFFL);
        Check.due("size: what 3", x.size(0, 3), ZipForms.OUTSIDE);
        Check.due("size: what -1", x.size(0, -1), ZipForms.OUTSIDE);
        Check.due("size: UNKNOWN ahead of OUTSIDE", x.size(4, 3), ZipForms.UNKNOWN);
        Check.due("size: OUTSIDE ahead of FAULT", x.size(2, 3), ZipForms.OUTSIDE);
        Check.due("size: no fault yet", x.told(3), 0);
    }

    private static void sizesOfNothing() {
        ZipForms x = four();
        for (int what = 0; what < 3; what++) {
            Check.due("size: a FOLDER, " + what, x.size(2, what), -32);
            Check.due("size: a FILE of nothing, " + what, x.size(3, what), -31);
        }
        Check.due("size: a PACKED one of nothing", x.size(1, 0), -31);
        Check.due("size: its TRUE size", x.size(1, 1), 0);
        Check.due("size: its SUM", x.size(1, 2), 0);
    }

    private static void extras() {
        ZipForms x = four();
        x.part(3, 65535, 0x0102FFL, 3);
        x.part(3, 2, 9, 0);
        Check.due("extra: id", x.extra(3, 0, 0, -1), 65535);
        Check.due("extra: how many", x.extra(3, 0, 1, 99), 3);
        Check.due("extra: byte 0", x.extra(3, 0, 2, 0), 1);
        Check.due("extra: byte 2", x.extra(3, 0, 2, 2), 255);
        Check.due("extra: byte 3", x.extra(3, 0, 2, 3), -33);
        Check.due("extra: byte -1", x.extra(3, 0, 2, -1), -33);
        Check.due("extra: an empty one", x.extra(3, 1, 2, 0), -33);
        Check.due("extra: PART 2", x.extra(3, 2, 0, 0), ZipForms.UNKNOWN);
        Check.due("extra: PART -1", x.extra(3, -1, 0, 0), ZipForms.UNKNOWN);
        Check.due("extra: ENTRY 4", x.extra(4, 0, 0, 0), ZipForms.UNKNOWN);
        Check.due("extra: UNKNOWN ahead of OUTSIDE", x.extra(3, 2, 3, 0), ZipForms.UNKNOWN);
        Check.due("extra: what 3", x.extra(3, 0, 3, 0), ZipForms.OUTSIDE);
        Check.due("extra: what -1", x.extra(3, 0, -1, 99), ZipForms.OUTSIDE);
    }

    private static void rights() {
        ZipForms x = four();
        Check.due("right: not read", x.right(0), 1);
        Check.due("right: PACKED", x.right(1), ZipForms.STATE);
        Check.due("right: no fault yet", x.told(3), 0);
        Check.due("right: a FOLDER", x.right(2), -32);
        Check.due("right: nothing", x.right(3), -31);
        Check.due("right: UNKNOWN", x.right(4), ZipForms.UNKNOWN);
    }

    private static void rightAfterReading() {
        ZipForms x = new ZipForms();
        Check.file(x, "a", "hello");
        x.write();
        Check.due("right: read()", x.read(), 1);
        Check.due("right: as told", x.right(0), 1);
        x.poke(31, 1);
        Check.due("right: other DATA", x.read(), 1);
        Check.due("right: is not", x.right(0), 0);
        Check.due("right: SUM as told", x.size(0, 2), 0x3610A686L);
        x.write();
        Check.due("right: SUM as told is written", x.word(14), 0x3610A686L);
        Check.due("right: still not", x.right(0), 0);
        x.data(0, '!', 1);
        Check.due("right: got DATA", x.right(0), 1);
        Check.due("right: SUM is that of DATA", x.size(0, 2) == 0x3610A686L ? 1 : 0, 0);
        x.write();
        x.read();
        Check.due("right: read again", x.right(0), 1);
    }

    /** A call of data() with no bytes is taken as giving DATA, too. */
    private static void rightAfterDataOfNone() {
        ZipForms x = new ZipForms();
        Check.file(x, "a", "hello");
        x.write();
        x.poke(31, 1);
        x.read();
        Check.due("right: refused data()", x.data(0, 0, 9), ZipForms.OUTSIDE);
        Check.due("right: is not", x.right(0), 0);
        x.data(0, 0, 0);
        Check.due("right: of 0 bytes", x.right(0), 1);
    }

    private static void sames() {
        ZipForms x = new ZipForms();
        Check.file(x, "a", "");
        Check.file(x, "ab", "");
        Check.made(x, 1, 1, "a", "");
        Check.folder(x, "a");
        Check.folder(x, "a");
        Check.file(x, "ac", "");
        Check.file(x, "bc", "");
        int[] due = {0, 1, 0, 3, 3, 5, 6};
        for (int e = 0; e < due.length; e++) {
            Check.due("same(" + e + ")", x.same(e), due[e]);
        }
        x.name(0, 'c', 1);
        Check.due("same: renamed", x.same(5), 0);
        Check.due("same: the other", x.same(2), 2);
        Check.due("same: UNKNOWN", x.same(7), ZipForms.UNKNOWN);
        Check.due("same: -1", x.same(-1), ZipForms.UNKNOWN);
    }

    private static void tolds() {
        ZipForms x = four();
        x.comment(0, 3);
        x.feed(0, 7);
        Check.due("told: ENTRIES", x.told(0), 4);
        Check.due("told: BYTES", x.told(1), 7);
        Check.due("told: COMMENT", x.told(2), 3);
        Check.due("told: no FAULT", x.told(3), 0);
        Check.due("told: what 4", x.told(4), ZipForms.OUTSIDE);
        Check.due("told: what -1", x.told(-1), ZipForms.OUTSIDE);
        x.write();
        Check.due("told: FAULT 1", x.told(3), 1);
        x.data(2, 0, 1);
        Check.due("told: FAULT 2", x.told(3), 2);
        x.word(4);
        Check.due("told: FAULT 3", x.told(3), 3);
        x.at(0);
        x.read();
        x.poke(100, 1);
        x.clear();
        Check.due("told: the latest stays", x.told(3), 3);
    }
}
