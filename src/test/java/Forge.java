import java.io.ByteArrayOutputStream;
import java.nio.charset.StandardCharsets;
import java.util.ArrayList;
import java.util.Collections;
import java.util.List;

/**
 * Bytes by the form of zip, made by hand: every number of a row can be another one than is right.
 *
 * Each row is right by itself at first, so that a test changes the one thing that it is about.
 */
final class Forge {
    static final long ALL_BITS = 0xFFFFFFFFL;

    /** What a LOCAL and a CENTRE row both tell; the numbers of NAME and extra bytes follow from these, plus a lie. */
    static final class Row {
        long sign;
        int version = 20;
        int flags = 0;
        int method = 0;
        int time = 0;
        int day = 0;
        long sum = 0;
        long size = 0;
        long real = 0;
        String name;
        String extra = "";
        int nameLie = 0;
        int extraLie = 0;

        private void put(ByteArrayOutputStream o) {
            Forge.put(o, version, 2);
            Forge.put(o, flags, 2);
            Forge.put(o, method, 2);
            Forge.put(o, time, 2);
            Forge.put(o, day, 2);
            Forge.put(o, sum, 4);
            Forge.put(o, size, 4);
            Forge.put(o, real, 4);
            Forge.put(o, name.length() + nameLie, 2);
            Forge.put(o, extra.length() + extraLie, 2);
        }
    }

    /** One ENTRY: its two rows, its DATA, and what is behind DATA. */
    static final class Item {
        final Row local = new Row();
        final Row centre = new Row();
        String gap = "";
        String data = "";
        String behind = "";
        int madeBy = 20;
        int zero = 0;
        long otherZeros = 0;
        int attributes = 0;
        /** The place that the CENTRE row tells, where it is not the right one. */
        Long toldPlace = null;
        /** Whether it has a LOCAL row of its own, rather than one among the bytes of another. */
        boolean isPut = true;
        int place = 0;
        int dataPlace = 0;
        int rowPlace = 0;

        Item named(String name) {
            local.name = name;
            centre.name = name;
            return this;
        }

        Item extra(String extra) {
            local.extra = extra;
            centre.extra = extra;
            return this;
        }

        Item sizes(long size, long real) {
            local.size = size;
            centre.size = size;
            local.real = real;
            centre.real = real;
            return this;
        }

        Item sum(long sum) {
            local.sum = sum;
            centre.sum = sum;
            return this;
        }

        Item method(int method) {
            local.method = method;
            centre.method = method;
            return this;
        }

        Item flags(int flags) {
            local.flags = flags;
            centre.flags = flags;
            return this;
        }

        Item version(int version) {
            local.version = version;
            centre.version = version;
            return this;
        }

        Item data(String text) {
            data = text;
            return sizes(text.length(), text.length());
        }

        /** All bits in the rows, and a PART 1 ahead of the other extra bytes. */
        Item wide(long size, long real) {
            String more = centre.extra;
            return version(45).sizes(ALL_BITS, ALL_BITS)
                .extra(number(1, 2) + number(16, 2) + number(real, 8) + number(size, 8) + more);
        }

        /** FLAGS 8, nothing in the LOCAL row, and all of it behind DATA. */
        Item streamed() {
            flags(8);
            local.sum = 0;
            local.size = 0;
            local.real = 0;
            behind = number(0x08074B50L, 4) + number(centre.sum, 4) + number(centre.size, 4) + number(centre.real, 4);
            return this;
        }
    }

    final List<Item> items = new ArrayList<>();
    String beforeCentre = "";
    String behindRows = "";
    String comment = "";
    String beyond = "";
    int commentLie = 0;
    int rowsLie = 0;
    int sameRowsLie = 0;
    long endZeros = 0;
    Long toldCentre = null;
    Long toldLength = null;
    /** Whether the LOCAL rows stand behind the CENTRE rather than ahead of it. */
    boolean isBehindCentre = false;
    /** Whether the CENTRE has the rows from the last to the first. */
    boolean isReversed = false;
    int centrePlace = 0;
    int endPlace = 0;

    /** A FILE of no bytes that is right. */
    Item item(String name) {
        Item it = new Item().named(name);
        it.local.sign = 0x04034B50L;
        it.centre.sign = 0x02014B50L;
        items.add(it);
        return it;
    }

    static Forge one(String name) {
        Forge f = new Forge();
        f.item(name);
        return f;
    }

    Item first() {
        return items.get(0);
    }

    Item second() {
        return items.get(1);
    }

    /** The items as the CENTRE has them. */
    private List<Item> rows() {
        List<Item> rows = new ArrayList<>(items);
        if (isReversed) {
            Collections.reverse(rows);
        }
        return rows;
    }

    /** The bytes; the places are known behind this. */
    byte[] bytes() {
        // The places of a CENTRE that stands ahead of its LOCAL rows are known only once these have been put.
        if (isBehindCentre) {
            made();
        }
        return made();
    }

    private byte[] made() {
        ByteArrayOutputStream o = new ByteArrayOutputStream();
        if (!isBehindCentre) {
            putLocals(o);
        }
        put(o, beforeCentre);
        centrePlace = o.size();
        for (Item it : rows()) {
            it.rowPlace = o.size();
            putCentre(o, it);
        }
        int length = o.size() - centrePlace;
        if (isBehindCentre) {
            putLocals(o);
        }
        put(o, behindRows);
        endPlace = o.size();
        putEnd(o, length);
        return o.toByteArray();
    }

    private void putLocals(ByteArrayOutputStream o) {
        for (Item it : items) {
            if (!it.isPut) {
                continue;
            }
            put(o, it.gap);
            it.place = o.size();
            put(o, it.local.sign, 4);
            it.local.put(o);
            put(o, it.local.name + it.local.extra);
            it.dataPlace = o.size();
            put(o, it.data + it.behind);
        }
    }

    private static void putCentre(ByteArrayOutputStream o, Item it) {
        put(o, it.centre.sign, 4);
        put(o, it.madeBy, 2);
        it.centre.put(o);
        put(o, it.zero, 2);
        put(o, it.otherZeros, 4);
        put(o, it.attributes, 4);
        put(o, it.toldPlace != null ? it.toldPlace : it.place, 4);
        put(o, it.centre.name + it.centre.extra);
    }

    private void putEnd(ByteArrayOutputStream o, int length) {
        put(o, 0x06054B50L, 4);
        put(o, endZeros, 4);
        put(o, items.size() + rowsLie, 2);
        put(o, items.size() + sameRowsLie, 2);
        put(o, toldLength != null ? toldLength : length, 4);
        put(o, toldCentre != null ? toldCentre : centrePlace, 4);
        put(o, comment.length() + commentLie, 2);
        put(o, comment + beyond);
    }

    private static void put(ByteArrayOutputStream o, long v, int n) {
        put(o, number(v, n));
    }

    private static void put(ByteArrayOutputStream o, String s) {
        o.writeBytes(s.getBytes(StandardCharsets.ISO_8859_1));
    }

    /** The n bytes of a number, the lowest first. */
    static String number(long v, int n) {
        StringBuilder s = new StringBuilder();
        for (int k = 0; k < n; k++) {
            s.append((char) (v >>> 8 * k & 255));
        }
        return s.toString();
    }

    /** A PART as it stands among the extra bytes. */
    static String part(int id, String octets) {
        return number(id, 2) + number(octets.length(), 2) + octets;
    }

    /** What x has from now on as THE BYTES. */
    static void feed(ZipForms x, byte[] bytes) {
        x.cut(0);
        for (int i = 0; i < bytes.length; i += 8) {
            int n = Math.min(8, bytes.length - i);
            long a = 0;
            for (int k = 0; k < n; k++) {
                a = a << 8 | bytes[i + k] & 255;
            }
            x.feed(a, n);
        }
    }

    /** It can not be read, and all else stays: ENTRIES and a COMMENT that were there before among it. */
    void fails(String what, int kind, int place) {
        byte[] bytes = bytes();
        Edge.unread(what, x -> {
            x.comment(Check.text("before"), 6);
            Check.made(x, 1, 2, "old", "data");
            x.packed(0, 9, 9);
            x.part(0, 77, 1, 2);
            x.write();
            feed(x, bytes);
        }, kind, place);
    }

    /** It can be read: the ENTRIES are as the CENTRE tells. */
    void isWhole(String what) {
        byte[] bytes = bytes();
        ZipForms x = new ZipForms();
        x.read();
        feed(x, bytes);
        Check.due(what + ": read()", x.read(), items.size());
        Check.due(what + ": place()", x.place(), ZipForms.NONE);
        Check.due(what + ": told(0)", x.told(0), items.size());
        Check.due(what + ": told(1)", x.told(1), bytes.length);
        for (int e = 0; e < items.size(); e++) {
            isRead(what + ", ENTRY " + e, bytes, e);
        }
        String read = Edge.comment(y -> {
            feed(y, bytes);
            y.read();
        });
        Check.due(what + ": THE COMMENT", read.equals(comment) ? 1 : 0, 1);
    }

    private void isRead(String what, byte[] bytes, int e) {
        ZipForms x = new ZipForms();
        feed(x, bytes);
        x.read();
        Item it = rows().get(e);
        Row row = it.centre;
        boolean isFolder = row.name.endsWith("/");
        boolean isPacked = row.method == 8;
        int[] due = {isFolder ? 2 : isPacked ? 1 : 0, row.name.length(), row.flags, row.method, row.time, row.day,
            it.attributes};
        for (int k = 0; k < due.length; k++) {
            Check.due(what + ": about(" + k + ")", x.about(e, k), due[k]);
        }
        Check.due(what + ": about(8)", x.about(e, 8), row.extra.startsWith(number(1, 2)) ? 1 : 0);
        Check.due(what + ": about(9)", x.about(e, 9), it.toldPlace != null ? it.toldPlace : it.place);
        Check.due(what + ": about(10)", x.about(e, 10), isFolder ? 1 : 0);
        for (int i = 0; i < row.name.length(); i++) {
            Check.due(what + ": letter(" + i + ")", x.letter(e, i), row.name.charAt(i));
        }
        if (!isFolder) {
            Check.due(what + ": SUM", x.size(e, 2), row.sum);
            Check.due(what + ": how many bytes", x.size(e, 0), it.data.length());
        }
        for (int i = 0; i < it.data.length(); i++) {
            Check.due(what + ": octet(" + i + ")", x.octet(e, i), it.data.charAt(i));
        }
        areRead(what, x, e, row.extra);
    }

    /** The PARTS are those of the extra bytes, without the one of id 1. */
    private static void areRead(String what, ZipForms x, int e, String extra) {
        int k = 0;
        int i = 0;
        while (i < extra.length()) {
            int id = extra.charAt(i) | extra.charAt(i + 1) << 8;
            int n = extra.charAt(i + 2) | extra.charAt(i + 3) << 8;
            i += 4;
            if (id != 1) {
                Check.due(what + ": id of PART " + k, x.extra(e, k, 0, 0), id);
                Check.due(what + ": bytes of PART " + k, x.extra(e, k, 1, 0), n);
                for (int j = 0; j < n; j++) {
                    Check.due(what + ": byte " + j + " of PART " + k, x.extra(e, k, 2, j), extra.charAt(i + j));
                }
                k++;
            }
            i += n;
        }
        Check.due(what + ": about(7)", x.about(e, 7), k);
    }
}
