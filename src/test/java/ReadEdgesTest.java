import java.nio.charset.StandardCharsets;
import java.util.function.Consumer;

/**
 * The edges of promise 13: each half of each KIND by itself, in bytes that are right but for it, with its place,
 * next to the last bytes that are whole; and which of two FAULTS is told.
 */
public final class ReadEdgesTest {
    public static void main(String[] args) {
        kind1Lengths();
        kind1Signs();
        kind1Comments();
        kind1LastPlace();
        kind2Centre();
        kind2WrapsAround();
        kind2Rows();
        kind3Rows();
        kind3Lengths();
        kind3End();
        kind4Methods();
        kind4Names();
        kind4Flags();
        kind4Parts();
        kind4WideParts();
        kind5AllBits();
        kind5Folders();
        kind5Sizes();
        kind5WideSizes();
        kind5WideStreamed();
        kind6Signs();
        kind6Beyond();
        kind6Places();
        kind7Fields();
        kind7Lengths();
        kind7Extra();
        kind7Streamed();
        kind7Wide();
        kind8Data();
        kind8Behind();
        kind8Beyond();
        kind9Locals();
        kind9Data();
        kind9Behind();
        kind10Names();
        kind10Behind();
        kind10Longest();
        firstOfTwo();
        rowByRow();
        notLookedAt();
        twelveRows();
        sumAsTold();
        noBytes();
        Check.end();
    }

    /** Two FILES of 3 bytes each, "one" and "two", that are whole. */
    private static Forge two() {
        Forge f = new Forge();
        f.item("one").data("abc").sum(0x352441C2L);
        f.item("two").data("xyz").sum(0xEB8EBA67L);
        return f;
    }

    private static void whole(String what, Forge f, Consumer<Forge> change) {
        change.accept(f);
        f.isWhole(what);
    }

    /** A FAULT at the CENTRE row of the first item. */
    private static void atRow(String what, int kind, Forge f, Consumer<Forge.Item> change) {
        change.accept(f.first());
        f.bytes();
        f.fails(what, kind, f.first().rowPlace);
    }

    /** A FAULT at the LOCAL row's place of the first item. */
    private static void atLocal(String what, int kind, Forge f, Consumer<Forge.Item> change) {
        change.accept(f.first());
        f.bytes();
        f.fails(what, kind, f.first().place);
    }

    private static void atData(String what, Forge f, Consumer<Forge.Item> change) {
        change.accept(f.first());
        f.bytes();
        f.fails(what, 8, f.first().dataPlace);
    }

    private static void atEnd(String what, Consumer<Forge> change) {
        Forge f = two();
        change.accept(f);
        f.bytes();
        f.fails(what, 2, f.endPlace);
    }

    private static void kind1Lengths() {
        for (int n = 0; n < 22; n++) {
            int length = n;
            Edge.unread("1: " + n + " bytes", x -> {
                x.write();
                x.cut(length);
            }, 1, n);
        }
        new Forge().isWhole("1: 22 bytes");
        for (int n = 1; n <= 30; n++) {
            Forge f = new Forge();
            f.beyond = "x".repeat(n);
            f.fails("1: " + n + " bytes behind THE END", 1, 22 + n);
        }
        two().isWhole("1: two");
        int all = two().bytes().length;
        for (int n = 1; n <= 22; n++) {
            int cut = n;
            Edge.unread("1: " + n + " bytes are missing", x -> {
                Forge.feed(x, two().bytes());
                x.cut(all - cut);
            }, 1, all - n);
        }
    }

    private static void kind1Signs() {
        for (int at = 0; at < 4; at++) {
            for (int bit = 0; bit < 8; bit++) {
                int i = at;
                int mask = 1 << bit;
                Edge.unread("1: SIGN's byte " + at, x -> {
                    x.write();
                    x.poke(i, mask);
                }, 1, 22);
            }
        }
    }

    private static void kind1Comments() {
        for (int n = 0; n <= 13; n++) {
            Forge f = new Forge();
            f.comment = "abcdefghijklm".substring(0, n);
            if (n <= 12) {
                f.isWhole("1: a COMMENT of " + n);
            } else {
                f.fails("1: a COMMENT of " + n, 1, 22 + n);
            }
            for (int lie : new int[] {1, -1, 2, 256, 0x8000}) {
                Forge g = new Forge();
                g.comment = f.comment;
                g.commentLie = lie;
                g.fails("1: a COMMENT of " + n + " told as " + lie + " more", 1, 22 + n);
            }
        }
        Forge long256 = new Forge();
        long256.comment = "c".repeat(256);
        long256.fails("1: a COMMENT of 256", 1, 278);
    }

    /** Two places with the SIGN of which both are right: the number of one stands in the middle of the other. */
    private static void kind1LastPlace() {
        String later = Forge.number(0x06054B50L, 4) + Forge.number(0, 12) + Forge.number(4, 4) + Forge.number(0, 2);
        byte[] both = (Forge.number(0x06054B50L, 4) + later).getBytes(StandardCharsets.ISO_8859_1);
        ZipForms x = new ZipForms();
        x.comment(0, 7);
        Forge.feed(x, both);
        Check.due("1: the later of two", x.read(), 0);
        Check.due("1: its COMMENT", x.told(2), 0);
        x.poke(24, 1);
        Check.due("1: the later one is none", x.read(), 0);
        Check.due("1: the COMMENT of the one ahead", x.told(2), 4);
        x.poke(20, 1);
        Check.due("1: neither is one", x.read(), -11);
        Check.due("1: at how many BYTES there are", x.place(), 26);
        // The later one is taken also where it then has a FAULT that the one ahead would not have.
        Forge.feed(x, both);
        x.poke(4 + 8, 1);
        Check.due("1: the later of two has a FAULT", x.read(), -12);
        Check.due("1: at the later one", x.place(), 4);
        // A SIGN without 22 bytes behind it, in THE COMMENT.
        Forge f = new Forge();
        f.comment = "ab" + Forge.number(0x06054B50L, 4) + "cdefgh";
        f.isWhole("1: a SIGN in THE COMMENT");
        // A whole END ahead of THE END is none: its bytes are just bytes.
        Forge old = two();
        old.behindRows = Forge.number(0x06054B50L, 4) + Forge.number(0, 18);
        old.isWhole("1: an END ahead of THE END");
    }

    private static void kind2Centre() {
        whole("2: the CENTRE ends at THE END", two(), f -> f.behindRows = "");
        for (int n = 1; n <= 3; n++) {
            String gap = "g".repeat(n);
            whole("2: it ends " + n + " ahead of THE END", two(), f -> {
                f.behindRows = gap;
                f.comment = "a COMMENT";
            });
        }
        int centre = 72;
        int length = 98;
        atEnd("2: its bytes are 1 more", f -> f.toldLength = length + 1L);
        atEnd("2: its place is 1 more", f -> f.toldCentre = centre + 1L);
        // With a byte between it and THE END these are FAULTS of the rows.
        Forge f = two();
        f.behindRows = "g";
        f.toldLength = length + 1L;
        f.fails("2: bytes to THE END, 3", 3, centre + length);
        f.toldLength = length + 2L;
        f.fails("2: bytes beyond it", 2, centre + length + 1);
        f.toldLength = null;
        f.toldCentre = centre + 1L;
        f.fails("2: a place to THE END, 3", 3, centre + 1);
        f.toldCentre = centre + 2L;
        f.fails("2: a place beyond it", 2, centre + length + 1);
        // The NAME of the last row is THE END's SIGN itself: all is right but that the CENTRE ends behind its place.
        Forge own = Forge.one("PK\5\6");
        own.first().centre.name = "";
        own.first().centre.nameLie = 4;
        own.toldLength = 50L;
        own.bytes();
        own.fails("2: a row into THE END", 2, own.endPlace);
        Forge none = new Forge();
        none.toldCentre = 1L;
        none.fails("2: a CENTRE of no rows behind THE END's place", 2, 0);
        none.beforeCentre = "zz";
        none.toldCentre = 2L;
        none.isWhole("2: a CENTRE of no rows at THE END's place");
        none.toldCentre = 0L;
        none.isWhole("2: a CENTRE of no rows at 0");
        none.toldCentre = 3L;
        none.fails("2: one behind THE END's place", 2, 2);
    }

    private static void kind2WrapsAround() {
        long[][] placeAndLength = {{0xFFFFFFFFL, 1}, {1, 0xFFFFFFFFL}, {0x80000000L, 0x80000000L}, {0x80000000L, 0},
            {0, 0x80000000L}, {0xFFFFFFFFL, 0xFFFFFFFFL}, {0x7FFFFFFFL, 1}, {1, 0x7FFFFFFFL}, {0x7FFFFFFFL, 0},
            {0xFFFFFFFFL - 97, 98 + 72}, {72, 0xFFFFFFFFL - 71}, {72 + (1L << 31), 98}, {72, 98 + (1L << 31)},
            {0xFFFFFF00L, 98}, {72, 0xFFFFFF00L}};
        for (long[] p : placeAndLength) {
            atEnd("2: place " + p[0] + ", bytes " + p[1], f -> {
                f.toldCentre = p[0];
                f.toldLength = p[1];
            });
        }
    }

    private static void kind2Rows() {
        for (int lie : new int[] {1, -1, 256, 0x8000}) {
            atEnd("2: the first number of rows by " + lie, f -> f.rowsLie = lie);
            atEnd("2: the second number of rows by " + lie, f -> f.sameRowsLie = lie);
        }
        for (int rows : new int[] {13, 14, 256 + 2, 0x8002, 65535}) {
            atEnd("2: " + rows + " rows", f -> {
                f.rowsLie = rows - 2;
                f.sameRowsLie = rows - 2;
            });
        }
        Forge f = two();
        f.rowsLie = 10;
        f.sameRowsLie = 10;
        f.bytes();
        f.fails("2: 12 rows are not too many", 3, f.endPlace);
        rows(12).isWhole("2: 12 rows");
        Forge more = rows(13);
        more.bytes();
        more.fails("2: 13 rows that are there", 2, more.endPlace);
    }

    /** So many FILES of no bytes. */
    private static Forge rows(int count) {
        Forge f = new Forge();
        for (int i = 0; i < count; i++) {
            f.item("f" + i);
        }
        return f;
    }

    private static void kind3Rows() {
        for (int at = 0; at < 4; at++) {
            long mask = 1L << 8 * at;
            atRow("3: SIGN's byte " + at, 3, two(), it -> it.centre.sign ^= mask);
            Forge f = two();
            f.second().centre.sign ^= mask << 7;
            f.bytes();
            f.fails("3: the second SIGN's byte " + at, 3, f.second().rowPlace);
        }
        for (int zero : new int[] {1, 2, 128, 255, 256, 0x8000, 65535}) {
            atRow("3: the first 0 is " + zero, 3, two(), it -> it.zero = zero);
            Forge f = two();
            f.second().zero = zero;
            f.bytes();
            f.fails("3: the second row's first 0 is " + zero, 3, f.second().rowPlace);
        }
        for (long other : new long[] {1, 256, 1L << 16, 1L << 31, 0xFFFFFFFFL}) {
            whole("3: other 0s are not looked at", two(), f -> f.first().otherZeros = other);
        }
        for (int made : new int[] {0, 19, 45, 255, 65535}) {
            whole("3: nor is the 20 ahead of VERSION", two(), f -> f.first().madeBy = made);
        }
    }

    private static void kind3Lengths() {
        Forge f = Forge.one("name");
        for (int lie : new int[] {1, 2, 256, 0x7000, 0xFFFB}) {
            f.first().centre.nameLie = lie;
            f.bytes();
            f.fails("3: a NAME of " + lie + " more", 3, f.centrePlace);
        }
        f.first().centre.nameLie = 0;
        for (int lie : new int[] {1, 2, 256, 0x7000, 0xFFFF}) {
            f.first().centre.extraLie = lie;
            f.fails("3: extra bytes of " + lie + " more", 3, f.centrePlace);
        }
        f.first().centre.nameLie = 0xFFFB;
        f.fails("3: both numbers all bits", 3, f.centrePlace);
        // The CENTRE's bytes end within the row, while THE BYTES go on.
        Forge cut = Forge.one("name");
        for (long length : new long[] {0, 1, 3, 4, 32, 45, 46, 49}) {
            cut.toldLength = length;
            cut.bytes();
            cut.fails("3: a CENTRE of " + length, 3, cut.centrePlace);
        }
        cut.toldLength = 50L;
        cut.isWhole("3: a CENTRE of 50");
        Forge second = two();
        for (long length : new long[] {49, 50, 95, 97}) {
            second.toldLength = length;
            second.bytes();
            second.fails("3: two rows in " + length, 3, second.second().rowPlace);
        }
    }

    private static void kind3End() {
        Forge f = two();
        f.rowsLie = -1;
        f.sameRowsLie = -1;
        f.bytes();
        f.fails("3: a row too many", 3, f.second().rowPlace);
        f.rowsLie = -2;
        f.sameRowsLie = -2;
        f.fails("3: two rows too many", 3, f.centrePlace);
        f.rowsLie = 1;
        f.sameRowsLie = 1;
        f.fails("3: a row too few", 3, f.endPlace);
        Forge behind = Forge.one("abcd");
        behind.first().centre.nameLie = -1;
        behind.bytes();
        behind.fails("3: a byte behind the last row", 3, behind.endPlace - 1);
        behind.first().centre.nameLie = -3;
        behind.fails("3: three bytes behind it", 3, behind.endPlace - 3);
        Forge none = new Forge();
        none.beforeCentre = "abc";
        none.toldCentre = 1L;
        none.toldLength = 1L;
        none.fails("3: no rows in a byte", 3, 1);
        none.toldLength = 0L;
        none.isWhole("3: no rows in no bytes");
    }

    private static void kind4Methods() {
        for (int method : new int[] {1, 2, 7, 9, 10, 255, 256, 0x0800, 0x0808, 0x8000, 65535}) {
            atRow("4: METHOD " + method, 4, two(), it -> it.method(method));
        }
        whole("4: METHOD 0", two(), f -> f.first().method(0));
        whole("4: METHOD 8", two(), f -> f.first().method(8));
    }

    private static void kind4Names() {
        for (int n : new int[] {1, 2, 15, 16}) {
            Forge.one("n".repeat(n)).isWhole("4: a NAME of " + n);
        }
        for (int n : new int[] {0, 17, 18, 32, 256, 257}) {
            atRow("4: a NAME of " + n, 4, Forge.one("n".repeat(n)), it -> it.attributes = 1);
        }
        atRow("4: a FOLDER of 17", 4, Forge.one("n".repeat(16) + "/"), it -> it.attributes = 1);
        Forge.one("n".repeat(15) + "/").isWhole("4: a FOLDER of 16");
        Forge.one("n/").isWhole("4: a FOLDER of 2");
        // Bytes of any sort may stand in a NAME that is read.
        Forge.one("\0").isWhole("4: a NAME of a byte 0");
        Forge.one("a\0\377\200").isWhole("4: a NAME of other bytes");
        whole("4: a NAME of 1 with extra bytes", Forge.one("n"), f -> f.first().extra(Forge.part(2, "")));
        atRow("4: a NAME of 0 with extra bytes", 4, Forge.one(""), it -> it.extra(Forge.part(2, "")));
    }

    private static void kind4Flags() {
        for (int flags : new int[] {1, 2, 4, 7, 9, 12, 16, 24, 255, 256, 0x0800, 0x0808, 0x8000, 65535}) {
            atRow("4: FLAGS " + flags, 4, two(), it -> it.flags(flags));
        }
        whole("4: FLAGS 0", two(), f -> f.first().flags(0));
        whole("4: FLAGS 8", two(), f -> f.first().streamed());
    }

    private static void extra(String what, boolean isWhole, String extra) {
        Forge f = two();
        f.first().extra(extra);
        if (isWhole) {
            f.isWhole("4: " + what);
        } else {
            f.bytes();
            f.fails("4: " + what, 4, f.first().rowPlace);
        }
    }

    private static void kind4Parts() {
        for (int n = 0; n <= 8; n++) {
            extra("a PART of " + n, true, Forge.part(2, "p".repeat(n)));
        }
        for (int n : new int[] {9, 10, 16, 256, 264}) {
            extra("a PART of " + n, false, Forge.part(2, "p".repeat(n)));
        }
        for (int id : new int[] {2, 3, 255, 256, 257, 0x8000, 65535}) {
            extra("id " + id, true, Forge.part(id, "p"));
        }
        extra("id 0", false, Forge.part(0, "p"));
        extra("id 1 of 1", false, Forge.part(1, "p"));
        extra("id 1 of 0", false, Forge.part(1, ""));
        extra("id 0 of 0", false, Forge.part(0, ""));
        String part = Forge.part(7, "");
        extra("two PARTS", true, part + part);
        extra("three PARTS", true, part + part + part);
        extra("three PARTS of 8", true, Forge.part(7, "12345678").repeat(3));
        extra("four PARTS", false, part + part + part + part);
        extra("four PARTS of 8", false, Forge.part(7, "12345678").repeat(4));
        extra("id 1 as the second", false, part + Forge.part(1, ""));
        extra("id 0 as the third", false, part + part + Forge.part(0, ""));
        extra("a PART of 9 as the third", false, part + part + Forge.part(7, "123456789"));
        for (int n = 1; n <= 3; n++) {
            extra(n + " bytes", false, part.substring(0, n));
            extra(n + " bytes behind a PART", false, part + part.substring(0, n));
            extra(n + " bytes behind three", false, part + part + part + part.substring(0, n));
        }
        extra("a PART that lacks its last byte", false, Forge.number(7, 2) + Forge.number(2, 2) + "1");
        extra("a PART that lacks all", false, Forge.number(7, 2) + Forge.number(8, 2));
        extra("a second one that lacks a byte", false, part + Forge.number(7, 2) + Forge.number(1, 2));
    }

    private static void wideExtra(String what, boolean isWhole, String extra) {
        Forge f = two();
        f.first().version(45).sizes(Forge.ALL_BITS, Forge.ALL_BITS).extra(extra);
        if (isWhole) {
            f.isWhole("4: " + what);
        } else {
            f.bytes();
            f.fails("4: " + what, 4, f.first().rowPlace);
        }
    }

    private static void kind4WideParts() {
        String wide = Forge.part(1, Forge.number(3, 8) + Forge.number(3, 8));
        String part = Forge.part(7, "12345678");
        wideExtra("PART 1", true, wide);
        wideExtra("PART 1 and three", true, wide + part + part + part);
        wideExtra("PART 1 and four", false, wide + part + part + part + part);
        wideExtra("PART 1 behind another", false, part + wide);
        wideExtra("PART 1 twice", false, wide + wide);
        wideExtra("PART 1 of 15", false, Forge.part(1, Forge.number(3, 8) + Forge.number(3, 7)));
        wideExtra("PART 1 of 17", false, Forge.part(1, Forge.number(3, 8) + Forge.number(3, 9)));
        wideExtra("PART 1 of 8", false, Forge.part(1, Forge.number(3, 8)));
        wideExtra("PART 1 of 0", false, Forge.part(1, ""));
        wideExtra("PART 1 that lacks a byte", false, wide.substring(0, 19));
        wideExtra("PART 1 that lacks all", false, wide.substring(0, 4));
        wideExtra("PART 1 of 16 + 256", false, Forge.part(1, "w".repeat(272)));
        wideExtra("PART 1 told as 16 + 256", false, Forge.number(1, 2) + Forge.number(272, 2) + wide.substring(4));
        wideExtra("PART 1 told as 15", false, Forge.number(1, 2) + Forge.number(15, 2) + wide.substring(4));
        wideExtra("PART 1 told as 17", false, Forge.number(1, 2) + Forge.number(17, 2) + wide.substring(4));
        wideExtra("PART 257", false, Forge.part(257, Forge.number(3, 8) + Forge.number(3, 8)));
        for (int n = 1; n <= 3; n++) {
            wideExtra("PART 1 and " + n + " bytes", false, wide + part.substring(0, n));
        }
        wideExtra("PART 1 and id 0", false, wide + Forge.part(0, ""));
        wideExtra("PART 1 and a PART of 9", false, wide + Forge.part(2, "123456789"));
    }

    private static void kind5AllBits() {
        atRow("5: both all bits without a PART 1", 5, two(), it -> it.sizes(Forge.ALL_BITS, Forge.ALL_BITS));
        atRow("5: and METHOD 8", 5, two(), it -> it.method(8).sizes(Forge.ALL_BITS, Forge.ALL_BITS));
        atRow("5: and a PART that is not 1", 5, two(),
            it -> it.extra(Forge.part(2, "12345678")).sizes(Forge.ALL_BITS, Forge.ALL_BITS));
        whole("5: with a PART 1", two(), f -> f.first().wide(3, 3));
        atRow("5: with one, the size is not", 5, two(), it -> it.wide(3, 3).sizes(3, Forge.ALL_BITS));
        atRow("5: with one, the TRUE size is not", 5, two(), it -> it.wide(3, 3).sizes(Forge.ALL_BITS, 3));
        atRow("5: with one, neither is", 5, two(), it -> it.wide(3, 3).sizes(3, 3));
        atRow("5: with one, a bit is missing", 5, two(), it -> it.wide(3, 3).sizes(Forge.ALL_BITS - 1, Forge.ALL_BITS));
        atRow("5: with one, the highest is", 5, two(), it -> it.wide(3, 3).sizes(Forge.ALL_BITS, 0x7FFFFFFFL));
    }

    private static void kind5Folders() {
        Forge.one("d/").isWhole("5: a FOLDER");
        whole("5: a FOLDER with PARTS", Forge.one("d/"), f -> f.first().extra(Forge.part(2, "12345678").repeat(3)));
        atRow("5: a FOLDER with DATA", 5, Forge.one("d/"), it -> it.data("x"));
        atRow("5: a FOLDER with DATA of 40", 5, Forge.one("d/"), it -> it.data("x".repeat(40)));
        atRow("5: a FOLDER with METHOD 8", 5, Forge.one("d/"), it -> it.method(8));
        atRow("5: a FOLDER with METHOD 8 and a TRUE size", 5, Forge.one("d/"), it -> it.method(8).sizes(0, 1));
        atRow("5: a FOLDER with FLAGS 8", 5, Forge.one("d/"), it -> it.streamed());
        atRow("5: a FOLDER with a PART 1", 5, Forge.one("d/"), it -> it.wide(0, 0));
        atRow("5: a FOLDER with a PART 1 of DATA", 5, Forge.one("d/"), it -> it.data("x").wide(1, 1));
        whole("5: a FILE with METHOD 8", Forge.one("d"), f -> f.first().method(8));
        whole("5: a FILE with FLAGS 8", Forge.one("d"), f -> f.first().streamed());
        whole("5: a FILE with a PART 1", Forge.one("d"), f -> f.first().wide(0, 0));
        whole("5: a FILE with / ahead of its end", Forge.one("d/d"), f -> f.first().data("x"));
    }

    private static void kind5Sizes() {
        whole("5: METHOD 0 with sizes of 0", Forge.one("a"), f -> f.first().data(""));
        whole("5: a size of 39", Forge.one("a"), f -> f.first().data("x".repeat(39)));
        whole("5: a size of 40", Forge.one("a"), f -> f.first().data("x".repeat(40)));
        atRow("5: a size of 41", 5, Forge.one("a"), it -> it.data("x".repeat(41)));
        atRow("5: a size of 256", 5, Forge.one("a"), it -> it.data("x".repeat(256)));
        whole("5: a PACKED size of 40", Forge.one("a"), f -> f.first().method(8).data("x".repeat(40)).sizes(40, 7));
        atRow("5: a PACKED size of 41", 5, Forge.one("a"), it -> it.method(8).data("x".repeat(41)).sizes(41, 7));
        whole("5: a STREAMED size of 40", Forge.one("a"), f -> f.first().data("x".repeat(40)).streamed());
        atRow("5: a STREAMED size of 41", 5, Forge.one("a"), it -> it.data("x".repeat(41)).streamed());
        for (long size : new long[] {0x80000000L, 0xFFFFFFFEL, 0x7FFFFFFFL, 1L << 16}) {
            atRow("5: a size of " + size, 5, Forge.one("a"), it -> it.method(8).sizes(size, 0));
            atRow("5: sizes of " + size, 5, Forge.one("a"), it -> it.sizes(size, size));
            atRow("5: a TRUE size of " + size * 16, 5, Forge.one("a"), it -> it.method(8).sizes(0, size * 16 | size));
        }
        atRow("5: a size of all bits alone", 5, Forge.one("a"), it -> it.method(8).sizes(Forge.ALL_BITS, 0));
        atRow("5: a TRUE size of all bits alone", 5, Forge.one("a"), it -> it.method(8).sizes(0, Forge.ALL_BITS));
        for (long real : new long[] {0, 1, 999999, 1000000}) {
            whole("5: a TRUE size of " + real, Forge.one("a"), f -> f.first().method(8).data("x").sizes(1, real));
            ZipForms x = new ZipForms();
            Forge f = Forge.one("a");
            f.first().method(8).data("x").sizes(1, real);
            Forge.feed(x, f.bytes());
            x.read();
            Check.due("5: it is " + real, x.size(0, 1), real);
        }
        atRow("5: a TRUE size of 1000001", 5, Forge.one("a"), it -> it.method(8).data("x").sizes(1, 1000001));
        atRow("5: METHOD 0, a TRUE size of 1 more", 5, two(), it -> it.sizes(3, 4));
        atRow("5: METHOD 0, a TRUE size of 1 less", 5, two(), it -> it.sizes(3, 2));
        atRow("5: METHOD 0, a TRUE size of 0", 5, two(), it -> it.sizes(3, 0));
        atRow("5: METHOD 0, a size of 0", 5, two(), it -> it.sizes(0, 3));
        atRow("5: METHOD 0, STREAMED, two sizes", 5, two(), it -> it.sizes(3, 4).streamed());
    }

    private static void kind5WideSizes() {
        whole("5: WIDE, a size of 40", Forge.one("a"), f -> f.first().data("x".repeat(40)).wide(40, 40));
        atRow("5: WIDE, a size of 41", 5, Forge.one("a"), it -> it.data("x".repeat(41)).wide(41, 41));
        whole("5: WIDE, sizes of 0", Forge.one("a"), f -> f.first().wide(0, 0));
        for (long real : new long[] {0, 1, 999999, 1000000}) {
            whole("5: WIDE, a TRUE size of " + real, Forge.one("a"), f -> f.first().method(8).data("x").wide(1, real));
            Forge f = Forge.one("a");
            f.first().method(8).data("x").wide(1, real);
            ZipForms x = new ZipForms();
            Forge.feed(x, f.bytes());
            x.read();
            Check.due("5: WIDE, it is " + real, x.size(0, 1), real);
        }
        long[] tooMuch = {1000001, 1L << 31, 1L << 32, (1L << 32) + 1, 1L << 40, 1L << 62, Long.MAX_VALUE, Long.MIN_VALUE,
            Long.MIN_VALUE + 1, -1, -2, 0xFFFFFFFFL, 0xFFFFFFFF00000000L, 0xFFFFFFFF00000001L};
        for (long v : tooMuch) {
            atRow("5: WIDE, a TRUE size of " + v, 5, Forge.one("a"), it -> it.method(8).data("x").wide(1, v));
            atRow("5: WIDE, a size of " + v, 5, Forge.one("a"), it -> it.method(8).data("x").wide(v, 1));
            atRow("5: WIDE, both of " + v, 5, Forge.one("a"), it -> it.data("x").wide(v, v));
        }
        atRow("5: WIDE, METHOD 0, two sizes", 5, two(), it -> it.wide(3, 4));
        atRow("5: WIDE, METHOD 0, two sizes, less", 5, two(), it -> it.wide(3, 2));
        atRow("5: WIDE, METHOD 0, they differ far above", 5, two(), it -> it.wide(3, 3 + (1L << 32)));
    }

    private static void kind5WideStreamed() {
        atRow("5: FLAGS 8 and a PART 1", 5, two(), it -> it.wide(3, 3).streamed());
        atRow("5: FLAGS 8 and a PART 1 with all bits in both rows", 5, two(), it -> it.wide(3, 3).flags(8));
        atRow("5: the same, PACKED", 5, two(), it -> it.method(8).wide(3, 3).flags(8));
        whole("5: FLAGS 8 and another PART", two(), f -> f.first().extra(Forge.part(2, "12345678")).streamed());
    }

    private static void kind6Signs() {
        for (int at = 0; at < 4; at++) {
            long mask = 1L << 8 * at;
            atLocal("6: SIGN's byte " + at, 6, two(), it -> it.local.sign ^= mask);
            Forge f = two();
            f.second().local.sign ^= mask << 7;
            f.bytes();
            f.fails("6: the second SIGN's byte " + at, 6, f.second().place);
        }
    }

    private static void kind6Beyond() {
        // A LOCAL row just to the CENTRE's place, then one byte, or more, beyond it.
        Forge f = Forge.one("name");
        f.isWhole("6: a LOCAL row to the CENTRE's place");
        for (int lie : new int[] {1, 2, 256, 0xFFFB}) {
            f.first().local.nameLie = lie;
            f.fails("6: NAME's number " + lie + " more", 6, 0);
        }
        f.first().local.nameLie = 0;
        for (int lie : new int[] {1, 256, 0xFFFF}) {
            f.first().local.extraLie = lie;
            f.fails("6: the extra bytes' number " + lie + " more", 6, 0);
        }
        f.first().local.extraLie = 0;
        f.beforeCentre = "z";
        f.isWhole("6: a byte between");
        f.first().local.extraLie = 1;
        f.fails("6: the row to the CENTRE's place has others, 7", 7, 0);
        f.first().local.extraLie = 2;
        f.fails("6: the row beyond it", 6, 0);
        // The least LOCAL row, of 30 bytes, ends at the CENTRE's place.
        Forge least = Forge.one("n");
        least.first().local.name = "";
        least.fails("6: 30 bytes to the CENTRE's place, 7", 7, 0);
        least.first().local.nameLie = 1;
        least.fails("6: 30 bytes, and one beyond", 6, 0);
        // The LOCAL row is all right, but behind the CENTRE.
        Forge turned = two();
        turned.isBehindCentre = true;
        turned.bytes();
        turned.fails("6: behind the CENTRE", 6, turned.first().place);
        // The fixed bytes of a row go beyond the CENTRE's place.
        for (int n : new int[] {0, 3, 4, 26, 29}) {
            Forge g = Forge.one("n");
            g.beforeCentre = Forge.number(0x04034B50L, 4) + "z".repeat(26);
            g.beforeCentre = g.beforeCentre.substring(0, n);
            g.bytes();
            long place = g.centrePlace - n;
            g.first().toldPlace = place;
            g.fails("6: " + n + " bytes ahead of the CENTRE", 6, (int) place);
        }
    }

    private static void kind6Places() {
        for (long place : new long[] {1, 2, 30, 35, 37, 42, 43, 71, 72, 73, 169, 170, 171, 191, 192, 193, 1999, 2000,
            2001, 65536, 0x7FFFFFFFL, 0x7FFFFFE1L, 0x7FFFFFE2L, 0x80000000L, 0x80000001L, 0xFFFFFFE1L, 0xFFFFFFE2L,
            0xFFFFFFE3L, 0xFFFFFFFEL, 0xFFFFFFFFL}) {
            Forge f = two();
            f.first().toldPlace = place;
            f.fails("6: the place " + place, 6, (int) place);
        }
        // A gap ahead of, and between, LOCAL rows is none of the checks.
        Forge f = two();
        f.first().gap = "gap";
        f.second().gap = "another";
        f.beforeCentre = "the last";
        f.isWhole("6: gaps");
    }

    private static void kind7Fields() {
        for (int bit = 0; bit < 16; bit++) {
            int mask = 1 << bit;
            atLocal("7: VERSION, bit " + bit, 7, two(), it -> it.local.version ^= mask);
            atLocal("7: METHOD, bit " + bit, 7, two(), it -> it.local.method ^= mask);
            atLocal("7: FLAGS, bit " + bit, 7, two(), it -> it.local.flags ^= mask);
            atLocal("7: TIME, bit " + bit, 7, two(), it -> it.local.time ^= mask);
            atLocal("7: DAY, bit " + bit, 7, two(), it -> it.local.day ^= mask);
            atLocal("7: VERSION in the CENTRE, bit " + bit, 7, two(), it -> it.centre.version ^= mask);
            atLocal("7: TIME in the CENTRE, bit " + bit, 7, two(), it -> it.centre.time ^= mask);
            atLocal("7: DAY in the CENTRE, bit " + bit, 7, two(), it -> it.centre.day ^= mask);
        }
        for (int bit = 0; bit < 32; bit++) {
            long mask = 1L << bit;
            atLocal("7: SUM, bit " + bit, 7, two(), it -> it.local.sum ^= mask);
            atLocal("7: size, bit " + bit, 7, two(), it -> it.local.size ^= mask);
            atLocal("7: TRUE size, bit " + bit, 7, two(), it -> it.local.real ^= mask);
            atLocal("7: SUM in the CENTRE, bit " + bit, 7, two(), it -> it.centre.sum ^= mask);
        }
        atLocal("7: METHOD 8 in the CENTRE alone", 7, two(), it -> it.centre.method = 8);
        atLocal("7: FLAGS 8 in the CENTRE alone", 7, two(), it -> it.centre.flags = 8);
        whole("7: TIME and DAY the same in both", two(), f -> {
            f.first().local.time = 65535;
            f.first().centre.time = 65535;
            f.first().local.day = 65535;
            f.first().centre.day = 65535;
        });
        whole("7: SUM the same in both", two(), f -> f.first().sum(0xFFFFFFFFL));
        whole("7: VERSION the same in both", two(), f -> f.first().version(65535));
    }

    private static void kind7Lengths() {
        String[] others = {"onf", "pne", "ooe", "One", "one\0"};
        for (String other : others) {
            atLocal("7: NAME " + other, 7, two(), it -> it.local.name = other);
        }
        atLocal("7: a shorter NAME", 7, two(), it -> it.local.name = "on");
        atLocal("7: a longer NAME", 7, two(), it -> it.local.name = "onee");
        // The same bytes, but another number of them are the NAME's.
        String part = Forge.part(0x6262, "");
        atLocal("7: the extra bytes are the NAME's", 7, two(), it -> {
            it.extra(part);
            it.local.nameLie = 4;
            it.local.extraLie = -4;
        });
        atLocal("7: the NAME's bytes are extra ones", 7, two(), it -> {
            it.local.nameLie = -2;
            it.local.extraLie = 2;
        });
        for (int lie : new int[] {256, 512, 1024}) {
            atLocal("7: NAME's number by " + lie, 7, two(), it -> {
                it.behind = "z".repeat(1100);
                it.local.nameLie = lie;
            });
            atLocal("7: the extra bytes' number by " + lie, 7, two(), it -> {
                it.behind = "z".repeat(1100);
                it.local.extraLie = lie;
            });
        }
        Forge last = two();
        last.second().local.name = "twp";
        last.bytes();
        last.fails("7: of the second", 7, last.second().place);
        Forge sixteen = Forge.one("0123456789abcdef");
        sixteen.first().local.name = "0123456789abcdeF";
        sixteen.fails("7: the 16th byte of a NAME", 7, 0);
    }

    private static void kind7Extra() {
        String three = Forge.part(2, "12345678") + Forge.part(3, "") + Forge.part(4, "z");
        whole("7: the same extra bytes", two(), f -> f.first().extra(three));
        for (int i = 0; i < three.length(); i++) {
            int at = i;
            atLocal("7: extra byte " + i, 7, two(), it -> {
                it.extra(three);
                it.local.extra = three.substring(0, at) + (char) (three.charAt(at) ^ 1) + three.substring(at + 1);
            });
        }
        atLocal("7: no extra bytes in the LOCAL row", 7, two(), it -> it.centre.extra = three);
        atLocal("7: extra bytes in the LOCAL row alone", 7, two(), it -> it.local.extra = three);
        atLocal("7: a PART less", 7, two(), it -> {
            it.extra(three);
            it.local.extra = three.substring(0, 16);
        });
    }

    private static void kind7Streamed() {
        whole("7: STREAMED, all are 0", two(), f -> f.first().streamed());
        for (int bit = 0; bit < 32; bit++) {
            long mask = 1L << bit;
            atLocal("7: STREAMED, SUM's bit " + bit, 7, two(), it -> it.streamed().local.sum = mask);
            atLocal("7: STREAMED, size's bit " + bit, 7, two(), it -> it.streamed().local.size = mask);
            atLocal("7: STREAMED, TRUE size's bit " + bit, 7, two(), it -> it.streamed().local.real = mask);
        }
        atLocal("7: STREAMED, the right SUM", 7, two(), it -> it.streamed().local.sum = it.centre.sum);
        atLocal("7: STREAMED, the right size", 7, two(), it -> it.streamed().local.size = 3);
        atLocal("7: STREAMED, the right TRUE size", 7, two(), it -> it.streamed().local.real = 3);
        atLocal("7: not STREAMED, all are 0", 7, two(), it -> {
            it.streamed();
            it.flags(0);
        });
        whole("7: STREAMED, all are 0 in both rows", Forge.one("a"), f -> f.first().streamed());
    }

    private static void kind7Wide() {
        for (int i = 4; i < 20; i++) {
            int at = i;
            atLocal("7: WIDE, byte " + i + " of PART 1", 7, two(), it -> {
                it.wide(3, 3);
                String extra = it.local.extra;
                it.local.extra = extra.substring(0, at) + (char) (extra.charAt(at) ^ 1) + extra.substring(at + 1);
            });
        }
        atLocal("7: WIDE, the LOCAL size is told", 7, two(), it -> it.wide(3, 3).local.size = 3);
        atLocal("7: WIDE, the LOCAL TRUE size is told", 7, two(), it -> it.wide(3, 3).local.real = 3);
        atLocal("7: WIDE, the LOCAL SUM is 0", 7, two(), it -> it.wide(3, 3).local.sum = 0);
        whole("7: WIDE with VERSION 20 in both", two(), f -> f.first().wide(3, 3).version(20));
        atLocal("7: WIDE with VERSION 20 in one", 7, two(), it -> it.wide(3, 3).local.version = 20);
    }

    private static void kind8Data() {
        Forge f = Forge.one("a");
        f.first().data("abc");
        f.isWhole("8: DATA to the CENTRE's place");
        f.first().data = "ab";
        f.fails("8: DATA by 1 beyond", 8, 31);
        f.first().data = "";
        f.fails("8: DATA by 3 beyond", 8, 31);
        f.first().sizes(40, 40);
        f.fails("8: DATA by 40 beyond", 8, 31);
        f.first().data = "x".repeat(39);
        f.fails("8: DATA of 40 by 1 beyond", 8, 31);
        Forge packed = Forge.one("a");
        packed.first().method(8).sizes(1, 0);
        packed.fails("8: PACKED DATA by 1 beyond", 8, 31);
        Forge wide = Forge.one("a");
        wide.first().wide(1, 1);
        wide.fails("8: WIDE DATA by 1 beyond", 8, 51);
        wide.beforeCentre = "x";
        wide.first().data = "";
        wide.bytes();
        Edge.taken("8: a byte that is there", x -> Forge.feed(x, wide.bytes()), ZipForms::read, 1);
        // What is told as DATA may be fewer bytes than there are ahead of the next.
        Forge fewer = two();
        fewer.second().gap = "more";
        fewer.isWhole("8: bytes behind DATA");
    }

    private static void kind8Behind() {
        for (int kind : new int[] {0, 8}) {
            Forge f = two();
            f.first().method(kind).streamed();
            f.isWhole("8: STREAMED");
            String behind = f.first().behind;
            for (int i = 0; i < 16; i++) {
                for (int bit : new int[] {1, 128}) {
                    Forge g = two();
                    g.first().method(kind).streamed();
                    g.first().behind = behind.substring(0, i) + (char) (behind.charAt(i) ^ bit) + behind.substring(i + 1);
                    g.fails("8: byte " + i + " behind DATA", 8, 33);
                }
            }
        }
        atData("8: STREAMED, another SUM in the CENTRE", two(), it -> it.streamed().centre.sum ^= 1);
        atData("8: STREAMED, another TRUE size in the CENTRE", two(), it -> it.method(8).streamed().centre.real = 4);
        atData("8: STREAMED, all 0 behind DATA", two(), it -> it.streamed().behind = Forge.number(0, 16));
        atData("8: STREAMED, without a SIGN", two(), it -> it.streamed().behind = it.behind.substring(4) + "....");
        // Of one that is not STREAMED nothing is behind DATA.
        whole("8: not STREAMED", two(), f -> f.second().gap = Forge.number(0x08074B50L, 4));
    }

    private static void kind8Beyond() {
        for (int n = 1; n <= 16; n++) {
            Forge f = Forge.one("a");
            f.first().data("abc").sum(5).streamed();
            f.first().behind = f.first().behind.substring(0, 16 - n);
            f.fails("8: what is behind DATA by " + n + " beyond", 8, 31);
        }
        Forge f = Forge.one("a");
        f.first().data("abc").sum(5).streamed();
        f.isWhole("8: what is behind DATA to the CENTRE's place");
        f.beforeCentre = "z";
        f.isWhole("8: a byte behind it");
        // All that is behind DATA is as told, but its last 12 bytes are the CENTRE's: SIGN, the 20, VERSION to METHOD.
        Forge own = Forge.one("a");
        own.first().version(0).data("12345678").sum(0x02014B50L).streamed();
        own.first().behind = own.first().behind.substring(0, 4);
        own.first().madeBy = 8;
        own.fails("8: as told, but into the CENTRE", 8, 31);
    }

    private static void kind9Locals() {
        Forge f = rows(2);
        f.second().named("f0");
        f.isWhole("9: two of one NAME");
        f.second().toldPlace = 0L;
        f.fails("9: the same LOCAL row", 9, 0);
        f.second().toldPlace = null;
        f.first().toldPlace = 32L;
        f.fails("9: the same LOCAL row, the later one", 9, 32);
        f.second().toldPlace = 0L;
        f.isWhole("9: each the other's");
        Forge three = rows(3);
        Forge.Item third = three.items.get(2);
        third.named("f0").toldPlace = 0L;
        three.fails("9: the third with the first", 9, 0);
        third.named("f1").toldPlace = 32L;
        three.fails("9: the third with the second", 9, 32);
        third.named("f2").toldPlace = null;
        three.isWhole("9: they touch, but share none");
        three.isReversed = true;
        three.isWhole("9: they touch, in the other order");
    }

    /** An ENTRY "i" whose LOCAL row stands in the DATA of the ENTRY "o". */
    private static Forge inner(int ahead, int behind) {
        Forge f = Forge.one("o");
        String row = Forge.number(0x04034B50L, 4) + Forge.number(20, 2) + Forge.number(0, 20) + Forge.number(1, 2)
            + Forge.number(0, 2) + "i";
        f.first().data("-".repeat(ahead) + row + "+".repeat(behind));
        Forge.Item inner = f.item("i");
        inner.isPut = false;
        inner.toldPlace = 31L + ahead;
        return f;
    }

    private static void kind9Data() {
        for (int[] n : new int[][] {{0, 0}, {1, 0}, {0, 1}, {9, 0}, {0, 9}, {4, 5}}) {
            inner(n[0], n[1]).fails("9: within DATA", 9, 31 + n[0]);
            Forge reversed = inner(n[0], n[1]);
            reversed.isReversed = true;
            reversed.fails("9: DATA around one of a row before", 9, 0);
        }
        Forge f = two();
        f.isReversed = true;
        f.isWhole("9: DATA to one of a row before");
        f.first().sizes(4, 4);
        f.fails("9: DATA by 1 into one of a row before", 9, 0);
        f.isReversed = false;
        f.fails("9: DATA by 1 into the next", 9, 36);
        f.first().sizes(3, 3);
        f.isWhole("9: DATA to the next");
        f.second().gap = "g";
        f.first().sizes(4, 4);
        f.first().data = "abcd";
        f.isWhole("9: a byte more between");
    }

    /** The SUM behind the DATA of "a" is the SIGN of the LOCAL row of "b", its size the VERSION. */
    private static void kind9Behind() {
        Forge f = Forge.one("a");
        f.first().method(8).data("D").sizes(1, 0).sum(0x04034B50L).streamed();
        f.beforeCentre = Forge.number(0, 14) + Forge.number(1, 2) + Forge.number(0, 2) + "b";
        f.item("b").version(1).isPut = false;
        f.second().toldPlace = 36L;
        f.fails("9: within what is behind DATA", 9, 36);
        f.isReversed = true;
        f.fails("9: what is behind DATA into one of a row before", 9, 0);
        Forge touching = two();
        touching.first().streamed();
        touching.isWhole("9: what is behind DATA to the next");
        touching.isReversed = true;
        touching.isWhole("9: what is behind DATA to one of a row before");
    }

    private static void named(String name, boolean isSafe) {
        Forge f = two();
        f.first().named(name);
        if (name.endsWith("/")) {
            f.first().data("").sum(0);
        }
        if (isSafe) {
            f.isWhole("10: " + name);
        } else {
            f.bytes();
            f.fails("10: " + name, 10, f.first().rowPlace);
        }
    }

    private static void kind10Names() {
        String[] unsafe = {"/", "//", "/a", "/a/", "/.", "/..", "//a", "\\", "\\a", "a\\", "a\\b", "a\\/", "a/\\", "a/\\b",
            "..", "../", "../a", "../a/", "a/..", "a/../", "a/../b", "a/b/..", "a/b/../", "../..", "../../", "a//", "a//b",
            "a//b/", "a/b//", "a/b//c", "a///", "./..", "./../", "...\\", "..\\a", ".//"};
        for (String name : unsafe) {
            named(name, false);
        }
        String[] safe = {"a", "a/", ".", "./", "./.", "././", "...", ".../", "a/.", "a/./", "a/...", ".../a", "..a", "a..",
            "..a/", "a../", "..a/b", "a../b", "a/..b", "a/b..", "a/b../", "....", ". .", ".. ", " ..", "a/b/c/d/e",
            "a/b/c/d/e/", ".a", "a.", ".a/.b", "a|b", "a:b", "c:", "-", " ", " /", "*", "a\0"};
        for (String name : safe) {
            named(name, true);
        }
        for (int letter = 0; letter < 256; letter++) {
            String name = String.valueOf((char) letter);
            named(name, letter != '/' && letter != '\\');
            named("a" + name + "b", letter != '\\');
            named(name + name, letter != '/' && letter != '\\' && letter != '.');
        }
        Forge second = two();
        second.second().named("../two");
        second.bytes();
        second.fails("10: of the second", 10, second.second().rowPlace);
    }

    /** What stands behind a NAME is none of its letters. */
    private static void kind10Behind() {
        for (String name : new String[] {"a", "a/", "a/b", "a/b/", "."}) {
            for (int id : new int[] {'/', '\\', '.', '.' << 8 | '.', '/' << 8 | '/', '\\' << 8 | '/'}) {
                Forge f = Forge.one(name);
                f.first().extra(Forge.part(id, "/..\\"));
                f.isWhole("10: " + name + " and extra bytes");
            }
        }
        Forge f = Forge.one("..");
        f.first().extra(Forge.part('.', "a"));
        f.bytes();
        f.fails("10: .. and extra bytes", 10, f.first().rowPlace);
    }

    private static void kind10Longest() {
        named("0123456789abc/..", false);
        named("0123456789abc/.a", true);
        named("0123456789ab/../", false);
        named("0123456789ab/.a/", true);
        named("0123456789abcd//", false);
        named("0123456789abcde\\", false);
        named("0123456789abcdef", true);
        named("/123456789abcdef", false);
        named("../3456789abcdef", false);
        named("..23456789abcdef", true);
        named("a/../56789abcdef", false);
        named("//////////////..", false);
        named("a/b/c/d/e/f/g/hi", true);
        named("a/b/c/d/e/f/g/..", false);
    }

    /** From the last KIND to the first: a change that brings an earlier one makes that the one that is told. */
    private static void firstOfTwo() {
        Forge f = new Forge();
        f.item("..").data("abc").sum(5).streamed();
        f.item("..").data("abc").sum(5).streamed();
        f.bytes();
        Forge.Item first = f.first();
        Forge.Item second = f.second();
        f.fails("first: 10 of the first", 10, first.rowPlace);
        first.named("ok");
        second.named("..");
        f.bytes();
        f.fails("first: 10 of the second", 10, second.rowPlace);
        second.named("ok");
        second.toldPlace = 0L;
        f.fails("first: 9", 9, 0);
        second.named("..");
        second.toldPlace = null;
        second.behind = Forge.number(0, 16);
        f.bytes();
        f.fails("first: 8 ahead of 10", 8, second.dataPlace);
        second.local.time = 1;
        f.fails("first: 7 ahead of 8", 7, second.place);
        second.local.sign = 0;
        f.fails("first: 6 ahead of 7", 6, second.place);
        second.centre.real = 1000001;
        f.fails("first: 5 ahead of 6", 5, second.rowPlace);
        second.centre.flags = 1;
        f.fails("first: 4 ahead of 5", 4, second.rowPlace);
        second.zero = 1;
        f.fails("first: 3 ahead of 4", 3, second.rowPlace);
        f.rowsLie = 1;
        f.fails("first: 2 ahead of 3", 2, f.endPlace);
        f.commentLie = 1;
        f.fails("first: 1 ahead of 2", 1, f.bytes().length);
        nineAheadOfTen();
    }

    private static void nineAheadOfTen() {
        Forge f = rows(2);
        f.first().named("a");
        f.second().named("..");
        f.bytes();
        f.fails("first: 10", 10, f.second().rowPlace);
        // The first one's DATA goes over the LOCAL row of the second.
        f.first().sizes(1, 1);
        f.fails("first: 9 ahead of 10", 9, f.second().place);
        f.second().local.day = 1;
        f.fails("first: 7 ahead of 9", 7, f.second().place);
    }

    /** Each row's KINDS 4 to 10 are met ahead of the next row's, KIND 3 of all rows ahead of these. */
    private static void rowByRow() {
        Forge f = rows(3);
        f.first().named("..");
        f.second().method(3);
        f.bytes();
        f.fails("rows: 10 of the first ahead of 4 of the second", 10, f.first().rowPlace);
        f.first().named("f0");
        f.second().method(0);
        f.second().named("f0").toldPlace = 0L;
        f.items.get(2).method(3);
        f.fails("rows: 9 of the second ahead of 4 of the third", 9, 0);
        f.second().toldPlace = null;
        f.bytes();
        f.fails("rows: 4 of the third", 4, f.items.get(2).rowPlace);
        f.second().local.sign = 0;
        f.fails("rows: 6 of the second ahead of it", 6, f.second().place);
        f.first().sizes(1, 1);
        f.first().local.size = 0;
        f.fails("rows: 7 of the first ahead of these", 7, 0);
        f.items.get(2).centre.sign = 0;
        f.fails("rows: 3 of the third ahead of all", 3, f.items.get(2).rowPlace);
        f.items.get(2).centre.sign = 0x02014B50L;
        f.second().zero = 1;
        f.fails("rows: 3 of the second", 3, f.second().rowPlace);
        f.second().zero = 0;
        f.items.get(2).centre.nameLie = -1;
        f.bytes();
        f.fails("rows: 3 behind the last ahead of 4 to 10", 3, f.endPlace - 1);
    }

    private static void notLookedAt() {
        for (int attributes : new int[] {1, -1, Integer.MIN_VALUE, Integer.MAX_VALUE}) {
            whole("any: ATTRIBUTES", two(), f -> f.first().attributes = attributes);
        }
        whole("any: 0s of THE END", two(), f -> f.endZeros = 0xFFFFFFFFL);
        whole("any: DATA has another SUM", two(), f -> f.first().sum(1));
        whole("any: a FOLDER's SUM", Forge.one("d/"), f -> f.first().sum(7));
    }

    private static void twelveRows() {
        Forge f = rows(12);
        Forge.Item last = f.items.get(11);
        last.named("0123456789abcdef").data("x".repeat(40)).sum(9).extra(Forge.part(9, "12345678").repeat(3));
        f.isWhole("12 rows");
        last.named("0123456789abc/..");
        f.bytes();
        f.fails("12 rows, the last is not SAFE", 10, last.rowPlace);
    }

    private static void sumAsTold() {
        Forge f = two();
        f.first().sum(0xFFFFFFFFL);
        ZipForms x = new ZipForms();
        Forge.feed(x, f.bytes());
        x.read();
        Check.due("SUM: as told", x.size(0, 2), 0xFFFFFFFFL);
        Check.due("SUM: DATA has another", x.right(0), 0);
        Check.due("SUM: the other FILE has its own", x.right(1), 1);
        Check.due("SUM: write()", x.write(), f.bytes().length);
        Check.due("SUM: written as told", x.word(14), 0xFFFFFFFFL);
        Check.due("SUM: and in the CENTRE", x.word(72 + 16), 0xFFFFFFFFL);
    }

    private static void noBytes() {
        Edge.unread("no BYTES", x -> {
        }, 1, 0);
        Edge.unread("no BYTES, but ENTRIES", x -> {
            Edge.five(x);
            x.cut(0);
        }, 1, 0);
        Edge.unread("no BYTES behind a FAULT of the machine", x -> {
            Edge.five(x);
            x.at(-1);
            x.cut(0);
        }, 1, 0);
    }
}
