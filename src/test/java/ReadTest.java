/** Promise 13, with the terms of READING: each KIND with its place, their order, and what a whole one leaves. */
public final class ReadTest {
    // One FILE "ab" of 3 bytes: LOCAL 0 to 32, DATA to 35, CENTRE 35 to 83, THE END 83 to 105.
    private static final int CENTRE = 35, END = 83, ALL = 105;

    public static void main(String[] args) {
        endIsFound();
        endIsMissing();
        centreIsOutside();
        rowsAreBroken();
        rowIsOfNoForm();
        extraIsOfNoForm();
        sizesAreWrong();
        wideSizesAreWrong();
        localIsMissing();
        localIsOther();
        dataIsBeyond();
        behindIsOther();
        bytesAreShared();
        bytesBehindAreShared();
        namesAreUnsafe();
        orderOfFaults();
        notLookedAt();
        faultChangesNothing();
        wholeReplacesAll();
        newCentreBehindOld();
        Check.end();
    }

    private static ZipForms one() {
        ZipForms x = new ZipForms();
        Check.file(x, "ab", "xyz");
        x.write();
        return x;
    }

    private static void fails(String what, ZipForms x, int kind, int place) {
        Check.due(what + ": read()", x.read(), -10 - kind);
        Check.due(what + ": place()", x.place(), place);
    }

    private static void isWhole(String what, ZipForms x, int entries) {
        Check.due(what + ": read()", x.read(), entries);
        Check.due(what + ": place()", x.place(), ZipForms.NONE);
    }

    private static void endIsFound() {
        ZipForms x = one();
        isWhole("plain", x, 1);
        // The SIGN stands in the comment too, but has no 22 bytes there.
        x.comment(0x504B0506L, 4);
        x.write();
        isWhole("a SIGN in the comment", x, 1);
        Check.due("a SIGN in the comment: told(2)", x.told(2), 4);
        // A SIGN that is closer to the end is passed over if its comment's number is another one.
        ZipForms y = one();
        y.cut(END);
        Check.due("two ENDs: add()", y.add(1), END + 48 + 22);
        int inner = y.told(1) - 22;
        for (int k = 0; k < 12; k++) {
            y.feed('c', 1);
        }
        Check.set(y, inner + 20, 12, 2);
        isWhole("a comment of 12", y, 1);
        y.feed('c', 1);
        Check.set(y, inner + 20, 13, 2);
        fails("a comment of 13", y, 1, y.told(1));
    }

    private static void endIsMissing() {
        ZipForms x = new ZipForms();
        fails("no bytes", x, 1, 0);
        x.write();
        x.cut(21);
        fails("21 bytes", x, 1, 21);
        x.feed(0, 1);
        isWhole("22 bytes", x, 0);
        x.feed(0, 1);
        fails("a byte behind", x, 1, 23);
        Check.set(x, 20, 1);
        isWhole("a comment of it", x, 0);
        Check.set(x, 20, 2);
        fails("a comment beyond", x, 1, 23);
        Check.set(x, 20, 1);
        Check.set(x, 21, 1);
        fails("a comment of 257", x, 1, 23);
        ZipForms y = one();
        y.poke(END + 3, 1);
        fails("no SIGN of THE END", y, 1, ALL);
    }

    private static void centreIsOutside() {
        ZipForms x = one();
        x.poke(END + 12, 1);
        fails("a CENTRE beyond THE END", x, 2, END);
        x.poke(END + 12, 1);
        x.poke(END + 19, 0x80);
        fails("a CENTRE's place below 0", x, 2, END);
        x.poke(END + 19, 0x80);
        Check.set(x, END + 12, 0xFFFFFFFFL, 4);
        Check.set(x, END + 16, 0xFFFFFFFFL, 4);
        fails("both all bits", x, 2, END);
        Check.set(x, END + 12, 48, 4);
        Check.set(x, END + 16, CENTRE, 4);
        x.poke(END + 8, 3);
        fails("two numbers of rows", x, 2, END);
        x.poke(END + 10, 3);
        fails("two rows told of one", x, 3, END);
        Check.set(x, END + 8, 13, 2);
        Check.set(x, END + 10, 13, 2);
        fails("13 rows", x, 2, END);
        Check.set(x, END + 8, 12, 2);
        Check.set(x, END + 10, 12, 2);
        fails("12 rows told of one", x, 3, END);
    }

    private static void rowsAreBroken() {
        for (int i = 0; i < 4; i++) {
            ZipForms x = one();
            x.poke(CENTRE + i, 1);
            fails("no SIGN of a row, byte " + i, x, 3, CENTRE);
        }
        ZipForms x = one();
        x.poke(CENTRE + 32, 1);
        fails("a row's comment", x, 3, CENTRE);
        x.poke(CENTRE + 32, 1);
        x.poke(CENTRE + 33, 1);
        fails("a row's comment of 256", x, 3, CENTRE);
        x.poke(CENTRE + 33, 1);
        Check.set(x, CENTRE + 28, 3, 2);
        fails("a NAME beyond", x, 3, CENTRE);
        Check.set(x, CENTRE + 28, 65535, 2);
        Check.set(x, CENTRE + 30, 65535, 2);
        fails("a NAME far beyond", x, 3, CENTRE);
        Check.set(x, CENTRE + 28, 1, 2);
        Check.set(x, CENTRE + 30, 0, 2);
        fails("a byte behind the last row", x, 3, END - 1);
        Check.set(x, CENTRE + 28, 2, 2);
        Check.set(x, END + 12, 45, 4);
        fails("a CENTRE of 45 bytes", x, 3, CENTRE);
        Check.set(x, END + 12, 47, 4);
        fails("a CENTRE of 47 bytes", x, 3, CENTRE);
        Check.set(x, END + 12, 48, 4);
        Check.set(x, END + 8, 0, 2);
        Check.set(x, END + 10, 0, 2);
        fails("no rows in 48 bytes", x, 3, CENTRE);
        Check.set(x, END + 12, 0, 4);
        isWhole("no rows in 0 bytes", x, 0);
        secondRowIsBroken();
    }

    private static void secondRowIsBroken() {
        ZipForms x = new ZipForms();
        Check.file(x, "a", "");
        Check.file(x, "b", "");
        x.write();
        Check.set(x, 62 + 10, 5);
        x.poke(62 + 47, 1);
        fails("KIND 3 of the second ahead of KIND 4 of the first", x, 3, 62 + 47);
    }

    private static void rowIsOfNoForm() {
        for (int method : new int[] {1, 7, 9, 0x100, 0x800}) {
            ZipForms x = one();
            Check.set(x, CENTRE + 10, method, 2);
            fails("METHOD " + method, x, 4, CENTRE);
        }
        for (int flags : new int[] {1, 9, 0x10, 0x800, 0x808}) {
            ZipForms x = one();
            Check.set(x, CENTRE + 8, flags, 2);
            fails("FLAGS " + flags, x, 4, CENTRE);
        }
        ZipForms x = one();
        Check.set(x, CENTRE + 28, 0, 2);
        Check.set(x, CENTRE + 30, 2, 2);
        fails("no NAME", x, 4, CENTRE);
        // A NAME of 16 with a PART of 0 bytes: as a NAME of 17 with 3 extra bytes it is none.
        ZipForms y = new ZipForms();
        Check.file(y, "0123456789abcdef", "");
        y.part(0, 5, 0, 0);
        y.write();
        isWhole("a NAME of 16", y, 1);
        int centre = 50;
        Check.set(y, centre + 28, 20, 2);
        Check.set(y, centre + 30, 0, 2);
        fails("a NAME of 20", y, 4, centre);
    }

    /** A FILE "a" with the extra bytes given, the same in both rows. */
    private static ZipForms withExtra(int... extra) {
        ZipForms x = new ZipForms();
        long n = extra.length;
        feedNumbers(x, new long[] {0x04034B50L, 4, 20, 2, 0, 12, 0, 8, 1, 2, n, 2, 'a', 1});
        feedOctets(x, extra);
        int centre = x.told(1);
        feedNumbers(x, new long[] {0x02014B50L, 4, 20, 2, 20, 2, 0, 12, 0, 8, 1, 2, n, 2, 0, 6, 0, 8, 'a', 1});
        feedOctets(x, extra);
        int end = x.told(1);
        feedNumbers(x, new long[] {0x06054B50L, 4, 0, 4, 1, 2, 1, 2, end - centre, 4, centre, 4, 0, 2});
        return x;
    }

    private static void feedNumbers(ZipForms x, long[] numberAndSize) {
        for (int i = 0; i < numberAndSize.length; i += 2) {
            for (int k = 0; k < numberAndSize[i + 1]; k++) {
                x.feed(k < 8 ? numberAndSize[i] >>> 8 * k : 0, 1);
            }
        }
    }

    private static void feedOctets(ZipForms x, int[] octets) {
        for (int v : octets) {
            x.feed(v, 1);
        }
    }

    private static void extraIsOfNoForm() {
        isWhole("no extra", withExtra(), 1);
        isWhole("a PART of 0", withExtra(2, 0, 0, 0), 1);
        isWhole("a PART of 8", withExtra(255, 255, 8, 0, 1, 2, 3, 4, 5, 6, 7, 8), 1);
        isWhole("three PARTS", withExtra(2, 0, 0, 0, 3, 0, 1, 0, 9, 2, 0, 0, 0), 1);
        int centre = 31;
        fails("1 byte", withExtra(2), 4, centre + 1);
        fails("3 bytes", withExtra(2, 0, 0), 4, centre + 3);
        fails("id 0", withExtra(0, 0, 0, 0), 4, centre + 4);
        fails("id 1 of 0", withExtra(1, 0, 0, 0), 4, centre + 4);
        fails("id 1 told as 16, of 0", withExtra(1, 0, 16, 0), 4, centre + 4);
        fails("a PART of 9", withExtra(2, 0, 9, 0, 1, 2, 3, 4, 5, 6, 7, 8, 9), 4, centre + 13);
        fails("a PART beyond", withExtra(2, 0, 2, 0, 1), 4, centre + 5);
        fails("a byte behind a PART", withExtra(2, 0, 0, 0, 1), 4, centre + 5);
        fails("four PARTS", withExtra(2, 0, 0, 0, 2, 0, 0, 0, 2, 0, 0, 0, 2, 0, 0, 0), 4, centre + 16);
        fails("id 1 behind", withExtra(2, 0, 0, 0, 1, 0, 16, 0, 0, 0, 0, 0, 0, 0, 0, 0, 0, 0, 0, 0, 0, 0, 0, 0),
            4, centre + 24);
        fails("id 1 twice", withExtra(1, 0, 16, 0, 0, 0, 0, 0, 0, 0, 0, 0, 0, 0, 0, 0, 0, 0, 0, 0,
            1, 0, 16, 0, 0, 0, 0, 0, 0, 0, 0, 0, 0, 0, 0, 0, 0, 0, 0, 0), 4, centre + 40);
        fails("id 1, sizes not all bits", withExtra(1, 0, 16, 0, 0, 0, 0, 0, 0, 0, 0, 0, 0, 0, 0, 0, 0, 0, 0, 0),
            5, centre + 20);
        fails("id 1 with four PARTS", withExtra(1, 0, 16, 0, 0, 0, 0, 0, 0, 0, 0, 0, 0, 0, 0, 0, 0, 0, 0, 0,
            2, 0, 0, 0, 2, 0, 0, 0, 2, 0, 0, 0, 2, 0, 0, 0), 4, centre + 36);
    }

    private static void setSizes(ZipForms x, int centre, long size, long trueSize) {
        Check.set(x, centre + 20, size, 4);
        Check.set(x, centre + 24, trueSize, 4);
    }

    private static void sizesAreWrong() {
        ZipForms x = one();
        setSizes(x, CENTRE, 0xFFFFFFFFL, 0xFFFFFFFFL);
        fails("all bits without a PART 1", x, 5, CENTRE);
        setSizes(x, CENTRE, 3, 4);
        fails("METHOD 0 and two sizes", x, 5, CENTRE);
        setSizes(x, CENTRE, 41, 41);
        fails("a size of 41", x, 5, CENTRE);
        setSizes(x, CENTRE, 40, 40);
        fails("a size of 40 is another one in the LOCAL row", x, 7, 0);
        ZipForms y = new ZipForms();
        Check.made(y, 1, 0, "ab", "xyz");
        y.packed(0, 1000000, 1);
        y.write();
        isWhole("a TRUE size of 1000000", y, 1);
        setSizes(y, CENTRE, 3, 1000001);
        fails("a TRUE size of 1000001", y, 5, CENTRE);
        setSizes(y, CENTRE, 3, 0xFFFFFFFFL);
        fails("one of all bits", y, 5, CENTRE);
        foldersAreWrong();
    }

    private static void foldersAreWrong() {
        int centre = 32;
        ZipForms x = folderRead();
        isWhole("a FOLDER", x, 1);
        setSizes(x, centre, 1, 1);
        fails("a FOLDER with sizes", x, 5, centre);
        x = folderRead();
        Check.set(x, centre + 10, 8);
        fails("a FOLDER with METHOD 8", x, 5, centre);
        setSizes(x, centre, 0, 1);
        fails("a FOLDER with a TRUE size", x, 5, centre);
        // "/" alone is a FOLDER as well, which is told ahead of its not being SAFE.
        ZipForms slash = new ZipForms();
        Check.made(slash, 1, 0, "a", "");
        slash.write();
        Check.set(slash, 30, '/');
        Check.set(slash, 31 + 46, '/');
        fails("/ alone with METHOD 8", slash, 5, 31);
        x = folderRead();
        Check.set(x, centre + 8, 8);
        fails("a FOLDER with FLAGS 8", x, 5, centre);
        ZipForms wide = new ZipForms();
        Check.made(wide, 0, 2, "ab", "");
        wide.write();
        centre = 52;
        Check.set(wide, centre + 47, '/');
        fails("a FOLDER with a PART 1", wide, 5, centre);
        // The SUM of a FOLDER is none of the checks; its own is 0.
        x = folderRead();
        Check.set(x, 14, 5);
        Check.set(x, 32 + 16, 5);
        isWhole("a FOLDER with a SUM", x, 1);
        x.write();
        Check.due("a FOLDER with a SUM: write()", x.word(14), 0);
    }

    private static ZipForms folderRead() {
        ZipForms x = new ZipForms();
        Check.folder(x, "d");
        x.write();
        return x;
    }

    private static void wideSizesAreWrong() {
        // LOCAL 0 to 52, DATA to 55, CENTRE from 55; PART 1 at 103: TRUE size at 107, size at 115.
        int centre = 55;
        ZipForms x = wide(0);
        isWhole("WIDE", x, 1);
        setSizes(x, centre, 3, 0xFFFFFFFFL);
        fails("with a PART 1 only the TRUE size", x, 5, centre);
        setSizes(x, centre, 0xFFFFFFFFL, 3);
        fails("with a PART 1 only the size", x, 5, centre);
        setSizes(x, centre, 3, 3);
        fails("with a PART 1 neither", x, 5, centre);
        x = wide(0);
        Check.set(x, 107, 4);
        fails("WIDE, METHOD 0 and two sizes", x, 5, centre);
        x = wide(0);
        Check.set(x, 107 + 7, 128);
        Check.set(x, 115 + 7, 128);
        fails("WIDE sizes below 0", x, 5, centre);
        x = wide(0);
        Check.set(x, 107 + 4, 1);
        Check.set(x, 115 + 4, 1);
        fails("WIDE sizes above 32 bits", x, 5, centre);
        x = wide(1);
        Check.set(x, 107, 1000001, 8);
        fails("WIDE TRUE size above", x, 5, centre);
        Check.set(x, 107, -1, 8);
        fails("WIDE TRUE size below 0", x, 5, centre);
        Check.set(x, 107, 1000000, 8);
        fails("WIDE TRUE size another one", x, 7, 0);
        Check.set(x, 36, 1000000, 8);
        isWhole("WIDE TRUE size 1000000", x, 1);
        Check.due("WIDE TRUE size 1000000: size()", x.size(0, 1), 1000000);
        x = wide(0);
        Check.set(x, centre + 8, 8);
        fails("FLAGS 8 and a PART 1", x, 5, centre);
    }

    private static ZipForms wide(int kind) {
        ZipForms x = new ZipForms();
        Check.made(x, kind, 2, "ab", "xyz");
        x.packed(0, 3, 1);
        x.write();
        return x;
    }

    private static void localIsMissing() {
        for (int i = 0; i < 4; i++) {
            ZipForms x = one();
            x.poke(i, 1);
            fails("no SIGN of a LOCAL row, byte " + i, x, 6, 0);
        }
        ZipForms x = one();
        Check.set(x, CENTRE + 42, 1, 4);
        fails("a LOCAL row at 1", x, 6, 1);
        Check.set(x, CENTRE + 42, CENTRE, 4);
        fails("a LOCAL row at the CENTRE", x, 6, CENTRE);
        Check.set(x, CENTRE + 42, 0xFFFFFFFFL, 4);
        fails("a LOCAL row at all bits", x, 6, -1);
        Check.set(x, CENTRE + 42, 0x80000000L, 4);
        fails("a LOCAL row at the least int", x, 6, Integer.MIN_VALUE);
        Check.set(x, CENTRE + 42, 0x7FFFFFFFL, 4);
        fails("a LOCAL row at the highest int", x, 6, Integer.MAX_VALUE);
        Check.set(x, CENTRE + 42, 0, 4);
        Check.set(x, 26, 6, 2);
        fails("a LOCAL row beyond the CENTRE's place", x, 6, 0);
        Check.set(x, 26, 5, 2);
        fails("a LOCAL row to the CENTRE's place", x, 7, 0);
        Check.set(x, 26, 2, 2);
        Check.set(x, 28, 65535, 2);
        fails("a LOCAL row's extra bytes beyond", x, 6, 0);
    }

    private static void localIsOther() {
        int[] differing = {4, 5, 6, 7, 8, 9, 10, 11, 12, 13, 14, 15, 16, 17, 18, 21, 22, 25, 26, 28, 30, 31};
        for (int i : differing) {
            ZipForms x = one();
            x.poke(i, 1);
            fails("another byte " + i + " in the LOCAL row", x, 7, 0);
        }
        for (int i : new int[] {6, 7, 12, 13, 14, 15, 16, 19, 46, 47}) {
            ZipForms x = one();
            x.poke(CENTRE + i, 1);
            fails("another byte " + i + " in the CENTRE row", x, 7, 0);
        }
        ZipForms x = one();
        x.poke(4, 3);
        x.poke(CENTRE + 6, 3);
        isWhole("the same other VERSION in both", x, 1);
        x.write();
        Check.due("VERSION is 20 again", x.half(4), 20);
        ZipForms y = new ZipForms();
        Check.file(y, "a", "");
        y.part(0, 5, 7, 1);
        y.write();
        y.poke(35, 1);
        fails("another extra byte", y, 7, 0);
        for (int i : new int[] {14, 17, 18, 21, 22, 25}) {
            ZipForms z = new ZipForms();
            Check.made(z, 0, 1, "a", "q");
            z.write();
            z.poke(i, 1);
            fails("STREAMED, byte " + i + " is not 0", z, 7, 0);
        }
        streamedWithItsSum();
    }

    private static void streamedWithItsSum() {
        ZipForms z = new ZipForms();
        Check.made(z, 0, 1, "a", "q");
        z.write();
        int centre = 31 + 1 + 16;
        for (int k = 0; k < 12; k++) {
            Check.set(z, 14 + k, z.at(centre + 16 + k));
        }
        fails("STREAMED with its SUM and sizes", z, 7, 0);
    }

    private static void dataIsBeyond() {
        ZipForms x = one();
        for (int size : new int[] {4, 40}) {
            Check.set(x, 18, size, 4);
            Check.set(x, 22, size, 4);
            setSizes(x, CENTRE, size, size);
            fails("DATA of " + size, x, 8, 32);
        }
        Check.set(x, 18, 2, 4);
        Check.set(x, 22, 2, 4);
        setSizes(x, CENTRE, 2, 2);
        isWhole("DATA of 2 leaves a byte", x, 1);
        Check.due("DATA of 2: size()", x.size(0, 0), 2);
    }

    private static void behindIsOther() {
        // LOCAL 0 to 31, DATA to 34, what is behind to 50, CENTRE from there.
        ZipForms x = new ZipForms();
        Check.made(x, 1, 1, "a", "xyz");
        x.packed(0, 77, 99);
        x.write();
        isWhole("STREAMED", x, 1);
        for (int i = 34; i < 50; i++) {
            x.poke(i, 1);
            fails("another byte " + i + " behind", x, 8, 31);
            x.poke(i, 1);
        }
        isWhole("STREAMED again", x, 1);
        for (int i : new int[] {16, 20, 24}) {
            x.poke(50 + i, 4);
            fails("another byte " + i + " in the CENTRE, STREAMED", x, 8, 31);
            x.poke(50 + i, 4);
        }
        setSizes(x, 50, 4, 77);
        fails("what is behind goes beyond", x, 8, 31);
    }

    private static void bytesAreShared() {
        // LOCAL rows at 0 and 32, CENTRE from 64, its rows at 64 and 111.
        ZipForms x = two();
        isWhole("two", x, 2);
        Check.set(x, 111 + 42, 0, 4);
        fails("one LOCAL row for two", x, 9, 0);
        x = two();
        Check.set(x, 64 + 42, 32, 4);
        fails("the later LOCAL row for two", x, 9, 32);
        x = two();
        Check.set(x, 64 + 42, 32, 4);
        Check.set(x, 111 + 42, 0, 4);
        isWhole("in the other order", x, 2);
        Check.due("in the other order: place 0", x.about(0, 9), 32);
        Check.due("in the other order: place 1", x.about(1, 9), 0);
        x = two();
        growFirst(x, 2);
        fails("DATA into the next LOCAL row", x, 9, 32);
        // A LOCAL row within DATA.
        ZipForms y = new ZipForms();
        y.entry(0, 0, 'a', 1);
        y.data(0, 0x504B030414000000L, 8);
        y.data(0, 0, 8);
        y.data(0, 0, 8);
        y.data(0, 0x000001000000L << 16, 8);
        Check.due("within: DATA", y.data(0, 0, 0), 32);
        y.write();
        // 31 to 63 is DATA: a LOCAL row with a NAME of 1 byte there, and 1 byte more.
        Check.set(y, 31 + 26, 1, 2);
        Check.set(y, 31 + 28, 0, 2);
        Check.set(y, 31 + 30, 'a');
        y.cut(63);
        y.clear();
        Check.file(y, "a", "");
        addRowsByHand(y);
        fails("a LOCAL row within DATA", y, 9, 31);
    }

    /** A CENTRE of two rows: the FILE of 32 bytes at 0, and the one of none at 31. */
    private static void addRowsByHand(ZipForms y) {
        int centre = y.told(1);
        long sum = y.word(14);
        feedNumbers(y, new long[] {0x02014B50L, 4, 20, 2, 20, 2, 0, 8, sum, 4, 32, 4, 32, 4, 1, 2, 0, 2,
            0, 6, 0, 4, 0, 4, 'a', 1});
        feedNumbers(y, new long[] {0x02014B50L, 4, 20, 2, 20, 2, 0, 8, 0, 4, 0, 4, 0, 4, 1, 2, 0, 2,
            0, 6, 0, 4, 31, 4, 'a', 1});
        feedNumbers(y, new long[] {0x06054B50L, 4, 0, 4, 2, 2, 2, 2, 94, 4, centre, 4, 0, 2});
    }

    /** The SUM behind the DATA of the first is the SIGN of the second one's LOCAL row, its size the VERSION. */
    private static void bytesBehindAreShared() {
        ZipForms x = new ZipForms();
        feedNumbers(x, new long[] {0x04034B50L, 4, 20, 2, 8, 2, 8, 2, 0, 4, 0, 12, 1, 2, 0, 2, 'a', 1, 'D', 1,
            0x08074B50L, 4, 0x04034B50L, 4, 1, 4, 0, 4});
        int place = 31 + 1 + 4;
        feedNumbers(x, new long[] {0, 2, 0, 12, 1, 2, 0, 2, 'b', 1});
        int centre = x.told(1);
        feedNumbers(x, new long[] {0x02014B50L, 4, 20, 2, 20, 2, 8, 2, 8, 2, 0, 4, 0x04034B50L, 4, 1, 4, 0, 4,
            1, 2, 0, 2, 0, 6, 0, 4, 0, 4, 'a', 1});
        feedNumbers(x, new long[] {0x02014B50L, 4, 20, 2, 1, 2, 0, 2, 0, 2, 0, 4, 0, 12,
            1, 2, 0, 2, 0, 6, 0, 4, place, 4, 'b', 1});
        feedNumbers(x, new long[] {0x06054B50L, 4, 0, 4, 2, 2, 2, 2, 94, 4, centre, 4, 0, 2});
        fails("a LOCAL row within what is behind DATA", x, 9, place);
    }

    private static void growFirst(ZipForms x, int size) {
        Check.set(x, 18, size, 4);
        Check.set(x, 22, size, 4);
        setSizes(x, 64, size, size);
    }

    private static ZipForms two() {
        ZipForms x = new ZipForms();
        Check.file(x, "a", "1");
        Check.file(x, "a", "1");
        x.write();
        return x;
    }

    private static void namesAreUnsafe() {
        String[] unsafe = {"/a", "..", "../a", "a/..", "a/../b", "a//b", "a\\b", "\\", "//a", "a/b/..", "/..",
            "a\\..", "..\\a", "/"};
        String[] safe = {"a", ".", "...", "a/b", "a/.", "./a", "a/...", "..a", "a..", "a/..b", "a..b/c", "a.", " "};
        for (String name : unsafe) {
            isNamed(name, false, name.endsWith("/"));
        }
        for (String name : safe) {
            isNamed(name, true, false);
            isNamed(name, true, true);
        }
        for (String name : new String[] {"..", "a/..", "a/", "/a", "a\\b", "a//b"}) {
            isNamed(name, false, true);
        }
    }

    private static void isNamed(String name, boolean isSafe, boolean asFolder) {
        ZipForms x = new ZipForms();
        if (asFolder) {
            Check.folder(x, name);
        } else {
            Check.file(x, name, "");
        }
        x.write();
        String what = "the NAME " + name + (asFolder ? "/" : "");
        if (isSafe) {
            isWhole(what, x, 1);
        } else {
            fails(what, x, 10, 30 + name.length() + (asFolder ? 1 : 0));
        }
    }

    /** From the last KIND to the first: each one is told ahead of those that were there before. */
    private static void orderOfFaults() {
        ZipForms x = new ZipForms();
        Check.made(x, 0, 1, "a", "1");
        Check.made(x, 0, 1, "..", "1");
        x.write();
        // LOCAL rows at 0 and 48, CENTRE at 97, its rows at 97 and 144, THE END at 192.
        fails("order: 10", x, 10, 144);
        Check.set(x, 144 + 42, 0, 4);
        Check.set(x, 144 + 28, 1, 2);
        Check.set(x, 144 + 30, 1, 2);
        fails("order: 4 of the second", x, 4, 144);
        Check.set(x, 144 + 28, 2, 2);
        Check.set(x, 144 + 30, 0, 2);
        fails("order: 7 ahead of 9 and 10", x, 7, 0);
        Check.set(x, 144 + 42, 48, 4);
        x.poke(48 + 32 + 1, 1);
        fails("order: 8 ahead of 10", x, 8, 80);
        x.poke(48 + 30, 1);
        fails("order: 7 ahead of 8", x, 7, 48);
        x.poke(48, 1);
        fails("order: 6 ahead of 7", x, 6, 48);
        setSizes(x, 144, 1, 2);
        fails("order: 5 ahead of 6", x, 5, 144);
        Check.set(x, 144 + 10, 3);
        fails("order: 4 ahead of 5", x, 4, 144);
        x.poke(31, 1);
        fails("order: DATA itself is not looked at", x, 4, 144);
        x.poke(32, 1);
        fails("order: 8 of the first ahead of 4 of the second", x, 8, 31);
        x.poke(144, 1);
        fails("order: 3 ahead of all of a row", x, 3, 144);
        x.poke(192 + 8, 1);
        fails("order: 2 ahead of 3", x, 2, 192);
        x.poke(192, 1);
        fails("order: 1 ahead of 2", x, 1, 214);
    }

    private static void notLookedAt() {
        for (int i : new int[] {CENTRE + 4, CENTRE + 5, CENTRE + 34, CENTRE + 35, CENTRE + 36, CENTRE + 37,
            CENTRE + 38, CENTRE + 41, END + 4, END + 5, END + 6, END + 7, 32, 33, 34}) {
            ZipForms x = one();
            x.poke(i, 0xFF);
            isWhole("byte " + i, x, 1);
        }
        ZipForms x = one();
        x.poke(CENTRE + 41, 0x80);
        x.read();
        Check.due("ATTRIBUTES below 0", x.about(0, 6), Integer.MIN_VALUE);
    }

    private static void faultChangesNothing() {
        ZipForms x = one();
        x.cut(0);
        x.clear();
        x.comment(Check.text("note"), 4);
        Check.made(x, 1, 2, "kept", "data");
        x.packed(0, 7, 8);
        x.feed(1, 3);
        fails("changes nothing", x, 1, 3);
        Check.due("changes nothing: ENTRIES", x.told(0), 1);
        Check.due("changes nothing: COMMENT", x.told(2), 4);
        Check.due("changes nothing: machine's FAULT", x.told(3), 0);
        Check.due("changes nothing: NAME", x.letter(0, 0), 'k');
        Check.due("changes nothing: SUM", x.size(0, 2), 8);
        Check.due("changes nothing: place", x.about(0, 9), ZipForms.NONE);
        // A fault of the last row alone.
        ZipForms y = new ZipForms();
        Check.file(y, "new", "1");
        Check.file(y, "..", "2");
        y.comment(97, 1);
        y.write();
        y.clear();
        Check.file(y, "old", "xy");
        y.comment(0, 0);
        Check.due("fault of the last row", y.read(), -20);
        Check.due("fault of the last row: ENTRIES", y.told(0), 1);
        Check.due("fault of the last row: NAME", y.letter(0, 0), 'o');
        Check.due("fault of the last row: DATA", y.size(0, 0), 2);
        Check.due("fault of the last row: COMMENT", y.told(2), 0);
        Check.due("fault of the last row: place", y.about(0, 9), ZipForms.NONE);
    }

    private static void wholeReplacesAll() {
        ZipForms x = new ZipForms();
        Check.file(x, "f", "12");
        Check.made(x, 1, 1, "p", "");
        Check.folder(x, "d");
        Check.made(x, 1, 2, "w", "345");
        x.packed(1, 5, -1);
        x.packed(3, 999999, 3);
        x.part(2, 300, 0x0102, 2);
        x.part(2, 301, 0, 0);
        x.stamp(3, 2020, 5, 6, 7);
        x.attributes(2, -5);
        x.write();
        x.comment(1, 5);
        while (x.told(0) < 12) {
            Check.file(x, "more", null);
        }
        isWhole("whole", x, 4);
        int[][] due = {
            {0, 1, 0, 0, 0, 0, 0, 0, 0, 0, 0},
            {1, 1, 8, 8, 0, 0, 0, 0, 0, 33, 0},
            {2, 2, 0, 0, 0, 0, -5, 2, 0, 80, 1},
            {1, 1, 0, 8, 3, 40 * 512 + 5 * 32 + 6, 0, 0, 1, 122, 0}};
        for (int e = 0; e < due.length; e++) {
            for (int what = 0; what < due[e].length; what++) {
                Check.due("whole: about(" + e + ", " + what + ")", x.about(e, what), due[e][what]);
            }
        }
        Check.due("whole: SUM", x.size(1, 2), 0xFFFFFFFFL);
        Check.due("whole: TRUE size", x.size(3, 1), 999999);
        Check.due("whole: size", x.size(3, 0), 3);
        Check.due("whole: DATA", x.octet(3, 2), '5');
        Check.due("whole: PART's id", x.extra(2, 0, 0, 0), 300);
        Check.due("whole: PART's byte", x.extra(2, 0, 2, 1), 2);
        Check.due("whole: an empty PART", x.extra(2, 1, 1, 0), 0);
        Check.due("whole: COMMENT", x.told(2), 0);
        Check.due("whole: the fifth", x.about(4, 0), ZipForms.UNKNOWN);
        Check.due("whole: add(4)", x.add(4) > 0 ? 1 : 0, 1);
        isWhole("whole again", x, 4);
    }

    private static void newCentreBehindOld() {
        ZipForms x = one();
        x.comment(Check.text("old"), 3);
        x.write();
        x.read();
        x.comment(Check.text("newer"), 5);
        Check.file(x, "c", "4");
        Check.due("new CENTRE: add(1)", x.add(1), 108 + 32 + 48 + 47 + 27);
        isWhole("new CENTRE", x, 2);
        Check.due("new CENTRE: COMMENT", x.told(2), 5);
        Check.due("new CENTRE: cut()", x.cut(108), 154);
        isWhole("old CENTRE", x, 1);
        Check.due("old CENTRE: COMMENT", x.told(2), 3);
    }
}
