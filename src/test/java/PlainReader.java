import java.nio.ByteBuffer;
import java.nio.ByteOrder;
import java.util.ArrayList;
import java.util.List;

/** A second reader of the document's terms, with the Java library and exceptions: WildTest and RunsTest compare with it. */
final class PlainReader {
    static final class Fault extends Exception {
        private static final long serialVersionUID = 1;
        final int kind;
        final long place;

        Fault(int kind, long place) {
            this.kind = kind;
            this.place = place;
        }
    }

    private final ByteBuffer b;
    private final List<long[]> spans = new ArrayList<>();
    private int centre;
    /** What was read, once entries() has ended without a Fault. */
    final List<PlainZip.Item> items = new ArrayList<>();
    String comment = "";

    PlainReader(byte[] bytes) {
        b = ByteBuffer.wrap(bytes).order(ByteOrder.LITTLE_ENDIAN);
    }

    private int u2(int i) {
        return b.getShort(i) & 0xFFFF;
    }

    private long u4(int i) {
        return b.getInt(i) & 0xFFFFFFFFL;
    }

    private String text(int i, int n) {
        StringBuilder s = new StringBuilder();
        for (int k = 0; k < n; k++) {
            s.append((char) (b.get(i + k) & 255));
        }
        return s.toString();
    }

    private static void need(boolean good, int kind, long place) throws Fault {
        if (!good) {
            throw new Fault(kind, place);
        }
    }

    /** How many entries there are. */
    int entries() throws Fault {
        int end = -1;
        for (int i = 0; i + 22 <= b.capacity(); i++) {
            if (u4(i) == 0x06054B50L && u2(i + 20) <= 12 && i + 22 + u2(i + 20) == b.capacity()) {
                end = i;
            }
        }
        need(end >= 0, 1, b.capacity());
        long centreEnd = u4(end + 16) + u4(end + 12);
        need(centreEnd <= end && u2(end + 8) == u2(end + 10) && u2(end + 8) <= 12, 2, end);
        centre = (int) u4(end + 16);
        int row = centre;
        List<Integer> rows = new ArrayList<>();
        for (int k = 0; k < u2(end + 8); k++) {
            need(row + 46 <= centreEnd, 3, row);
            need(u4(row) == 0x02014B50L && u2(row + 32) == 0, 3, row);
            int next = row + 46 + u2(row + 28) + u2(row + 30);
            need(next <= centreEnd, 3, row);
            rows.add(row);
            row = next;
        }
        need(row == centreEnd, 3, row);
        for (int r : rows) {
            row(r);
        }
        comment = text(end + 22, u2(end + 20));
        return rows.size();
    }

    private void row(int r) throws Fault {
        int flags = u2(r + 8);
        int method = u2(r + 10);
        int n = u2(r + 28);
        int x = u2(r + 30);
        need(method == 0 || method == 8, 4, r);
        need(n >= 1 && n <= 16, 4, r);
        need(flags == 0 || flags == 8, 4, r);
        boolean wide = wide(r, r + 46 + n, r + 46 + n + x);
        String name = text(r + 46, n);
        long size = u4(r + 20);
        long real = u4(r + 24);
        int told = (size == 0xFFFFFFFFL ? 1 : 0) + (real == 0xFFFFFFFFL ? 1 : 0);
        need(wide ? told == 2 : told != 2, 5, r);
        if (wide) {
            real = b.getLong(r + 46 + n + 4);
            size = b.getLong(r + 46 + n + 12);
        }
        if (name.endsWith("/")) {
            need(size == 0 && real == 0 && method != 8 && flags != 8 && !wide, 5, r);
        }
        need(method == 8 || size == real, 5, r);
        need(size >= 0 && size <= 40 && real >= 0 && real <= 1000000, 5, r);
        need(flags == 0 || !wide, 5, r);
        long behind = local(r, (int) size, (int) real, flags == 8);
        long place = u4(r + 42);
        for (long[] s : spans) {
            need(behind <= s[0] || s[1] <= place, 9, place);
        }
        spans.add(new long[] {place, behind});
        need(isSafe(name), 10, r);
        items.add(item(r, name, wide, (int) size, (int) real));
    }

    private PlainZip.Item item(int r, String name, boolean wide, int size, int real) {
        PlainZip.Item it = new PlainZip.Item();
        it.kind = name.endsWith("/") ? 2 : u2(r + 10) == 8 ? 1 : 0;
        it.form = wide ? 2 : u2(r + 8) == 8 ? 1 : 0;
        it.name = name;
        it.time = u2(r + 12);
        it.day = u2(r + 14);
        it.attributes = b.getInt(r + 38);
        it.local = b.getInt(r + 42);
        int to = r + 46 + name.length() + u2(r + 30);
        for (int i = r + 46 + name.length() + (wide ? 20 : 0); i < to; i += 4 + u2(i + 2)) {
            it.ids.add(u2(i));
            it.parts.add(text(i + 4, u2(i + 2)));
        }
        if (it.kind != 2) {
            it.data = text(it.local + 30 + name.length() + u2(r + 30), size);
            it.real = real;
            it.sum = b.getInt(r + 16);
            it.isSumTold = true;
        }
        return it;
    }

    private boolean wide(int r, int from, int to) throws Fault {
        boolean wide = false;
        int parts = 0;
        int i = from;
        while (i < to) {
            need(to - i >= 4, 4, r);
            int id = u2(i);
            int n = u2(i + 2);
            need(i + 4 + n <= to, 4, r);
            if (id == 1) {
                need(i == from && n == 16, 4, r);
                wide = true;
            } else {
                parts++;
                need(id >= 2 && n <= 8 && parts <= 3, 4, r);
            }
            i += 4 + n;
        }
        return wide;
    }

    private long local(int r, int size, int real, boolean streamed) throws Fault {
        long place = u4(r + 42);
        need(place + 30 <= centre, 6, place);
        int p = (int) place;
        need(u4(p) == 0x04034B50L, 6, p);
        int behind = p + 30 + u2(p + 26) + u2(p + 28);
        need(behind <= centre, 6, p);
        need(text(p + 4, 10).equals(text(r + 6, 10)), 7, p);
        need(text(p + 26, behind - p - 26).equals(
            text(r + 28, 4) + text(r + 46, u2(r + 28) + u2(r + 30))), 7, p);
        for (int k = 0; k < 12; k += 4) {
            need(u4(p + 14 + k) == (streamed ? 0 : u4(r + 16 + k)), 7, p);
        }
        int dataEnd = behind + size;
        int end = streamed ? dataEnd + 16 : dataEnd;
        need(end <= centre, 8, behind);
        if (streamed) {
            need(u4(dataEnd) == 0x08074B50L && u4(dataEnd + 4) == u4(r + 16), 8, behind);
            need(u4(dataEnd + 8) == size && u4(dataEnd + 12) == real, 8, behind);
        }
        return end;
    }

    private static boolean isSafe(String name) {
        if (name.startsWith("/") || name.contains("\\")) {
            return false;
        }
        String path = name.endsWith("/") ? name.substring(0, name.length() - 1) : name;
        for (String step : path.split("/", -1)) {
            if (step.isEmpty() || step.equals("..")) {
                return false;
            }
        }
        return true;
    }
}
