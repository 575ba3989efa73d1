import java.nio.charset.StandardCharsets;
import java.util.ArrayList;
import java.util.List;
import java.util.zip.CRC32;

/** The whole document once more, with the Java library and exceptions: RunsTest compares every answer with it. */
final class PlainZip {
    private static final int UNKNOWN = -2, OUTSIDE = -3, STATE = -4, FULL = -5, NULL = -31, CAST = -32, INDEX = -33;

    /** A refusal or a FAULT ends a call where it is met. */
    private static final class No extends RuntimeException {
        private static final long serialVersionUID = 1;
        final int answer;

        No(int answer) {
            this.answer = answer;
        }
    }

    static final class Item {
        int kind;
        int form;
        String name = "";
        /** Nothing at first. */
        String data = null;
        int real = 0;
        int sum = 0;
        /** By packed() or by read(), rather than that of DATA. */
        boolean isSumTold = false;
        int time = 0;
        int day = 0;
        int attributes = 0;
        int local = -1;
        final List<Integer> ids = new ArrayList<>();
        final List<String> parts = new ArrayList<>();

        private int trueSize() {
            return kind == 1 ? real : data.length();
        }

        private long sum() {
            return kind == 1 || isSumTold ? sum & 0xFFFFFFFFL : sumOf(data);
        }

        /** From VERSION to DAY, as in both rows. */
        private String head() {
            return number(form == 2 ? 45 : 20, 2) + number(form == 1 ? 8 : 0, 2) + number(kind == 1 ? 8 : 0, 2)
                + number(time, 2) + number(day, 2);
        }

        private String sumAndSizes() {
            if (kind == 2) {
                return number(0, 4) + number(0, 4) + number(0, 4);
            }
            return number(sum(), 4) + number(form == 2 ? -1 : data.length(), 4) + number(form == 2 ? -1 : trueSize(), 4);
        }

        private String extra() {
            String s = form == 2 ? part(1, number(trueSize(), 8) + number(data.length(), 8)) : "";
            for (int k = 0; k < ids.size(); k++) {
                s += part(ids.get(k), parts.get(k));
            }
            return s;
        }

        private String lengths() {
            return number(name.length(), 2) + number(extra().length(), 2);
        }

        private String localBytes() {
            String row = number(0x04034B50, 4) + head() + (form == 1 ? "\0".repeat(12) : sumAndSizes()) + lengths() + name
                + extra();
            String behind = form == 1 ? number(0x08074B50, 4) + sumAndSizes() : "";
            return row + (kind == 2 ? "" : data) + behind;
        }

        private String centreBytes() {
            return number(0x02014B50, 4) + number(20, 2) + head() + sumAndSizes() + lengths() + "\0".repeat(6)
                + number(attributes, 4) + number(local, 4) + name + extra();
        }
    }

    private List<Item> items = new ArrayList<>();
    private String bytes = "";
    private String comment = "";
    private int fault = 0;
    private int place = -1;

    private static String number(long v, int n) {
        return Forge.number(v, n);
    }

    private static String part(int id, String octets) {
        return Forge.part(id, octets);
    }

    private static long sumOf(String s) {
        CRC32 c = new CRC32();
        c.update(s.getBytes(StandardCharsets.ISO_8859_1));
        return c.getValue();
    }

    private static void need(boolean isGood, int answer) {
        if (!isGood) {
            throw new No(answer);
        }
    }

    private static boolean isIn(long v, long least, long most) {
        return v >= least && v <= most;
    }

    /** The lowest n bytes of a, the highest of them first. */
    private static String text(long a, int n) {
        StringBuilder s = new StringBuilder(Forge.number(a, n));
        return s.reverse().toString();
    }

    private Item item(long e) {
        need(isIn(e, 0, items.size() - 1), UNKNOWN);
        return items.get((int) e);
    }

    /** The answer of the call of this name. */
    long call(String call, long... a) {
        try {
            return answer(call, a);
        } catch (No no) {
            fault = no.answer <= NULL ? -30 - no.answer : fault;
            return no.answer;
        }
    }

    private long answer(String call, long[] a) {
        switch (call) {
            case "entry": return entry(a);
            case "name": return name(item(a[0]), a[1], a[2]);
            case "data": return data(item(a[0]), a[1], a[2]);
            case "packed": return packed(item(a[0]), a[1], a[2]);
            case "part": return part(item(a[0]), a);
            case "stamp": return stamp(item(a[0]), a);
            case "attributes":
                item(a[0]).attributes = (int) a[1];
                return 1;
            case "clear":
                int gone = items.size();
                items.clear();
                return gone;
            case "comment":
                need(isIn(a[1], 0, 8), OUTSIDE);
                comment = text(a[0], (int) a[1]);
                return 1;
            case "write": return put("", 0);
            case "add": return add(a[0]);
            case "read": return read();
            case "place": return place;
            case "feed":
                need(isIn(a[1], 1, 8), OUTSIDE);
                need(bytes.length() + a[1] <= 2000, FULL);
                bytes += text(a[0], (int) a[1]);
                return bytes.length();
            case "cut":
                need(isIn(a[0], 0, bytes.length()), OUTSIDE);
                int before = bytes.length();
                bytes = bytes.substring(0, (int) a[0]);
                return before - a[0];
            case "poke": return poke(a[0], a[1]);
            case "at": return number(a[0], bytes, 1);
            case "half": return number(a[0], bytes, 2);
            case "word": return number(a[0], bytes, 4);
            default: return look(call, a);
        }
    }

    private long look(String call, long[] a) {
        switch (call) {
            case "about": return about(item(a[0]), a[1]);
            case "letter": return number(a[1], item(a[0]).name, 1);
            case "octet": return number(a[1], dataOf(item(a[0])), 1);
            case "size": return size(item(a[0]), a[1]);
            case "extra": return extra(item(a[0]), a);
            case "right": return right(item(a[0]));
            case "same":
                String name = item(a[0]).name;
                for (int i = 0; i < items.size(); i++) {
                    if (items.get(i).name.equals(name)) {
                        return i;
                    }
                }
                return -1;
            case "told":
                need(isIn(a[0], 0, 3), OUTSIDE);
                return List.of(items.size(), bytes.length(), comment.length(), fault).get((int) a[0]);
            default: throw new IllegalArgumentException(call);
        }
    }

    private static String letters(int kind, long a, long n) {
        need(isIn(n, 1, 8), OUTSIDE);
        String s = text(a, (int) n);
        need(s.indexOf(0) < 0 && (kind == 2 || !s.endsWith("/")), OUTSIDE);
        return s;
    }

    private int entry(long[] a) {
        need(isIn(a[0], 0, 2) && isIn(a[1], 0, a[0] == 2 ? 0 : 2), OUTSIDE);
        Item it = new Item();
        it.kind = (int) a[0];
        it.form = (int) a[1];
        it.name = letters(it.kind, a[2], a[3]) + (it.kind == 2 ? "/" : "");
        need(items.size() < 12, FULL);
        items.add(it);
        return items.size() - 1;
    }

    private static int name(Item it, long a, long n) {
        String more = letters(it.kind, a, n);
        need(it.name.length() + n <= 16, FULL);
        int at = it.name.length() - (it.kind == 2 ? 1 : 0);
        it.name = it.name.substring(0, at) + more + it.name.substring(at);
        return it.name.length();
    }

    private static int data(Item it, long a, long n) {
        need(isIn(n, 0, 8), OUTSIDE);
        need(it.kind != 2, CAST);
        String all = (it.data == null ? "" : it.data) + text(a, (int) n);
        need(all.length() <= 40, FULL);
        it.data = all;
        it.isSumTold = false;
        return all.length();
    }

    private static int packed(Item it, long size, long sum) {
        need(isIn(size, 0, 1000000), OUTSIDE);
        need(it.kind == 1, CAST);
        it.real = (int) size;
        it.sum = (int) sum;
        return 1;
    }

    private static int part(Item it, long[] a) {
        need(isIn(a[1], 2, 65535) && isIn(a[3], 0, 8), OUTSIDE);
        need(it.ids.size() < 3, FULL);
        it.ids.add((int) a[1]);
        it.parts.add(text(a[2], (int) a[3]));
        return it.ids.size();
    }

    private static int stamp(Item it, long[] a) {
        need(isIn(a[1], 1980, 2107) && isIn(a[2], 1, 12) && isIn(a[3], 1, 31) && isIn(a[4], 0, 86399), OUTSIDE);
        int second = (int) a[4];
        it.day = (int) (a[1] - 1980 << 9 | a[2] << 5 | a[3]);
        it.time = second / 3600 << 11 | second % 3600 / 60 << 5 | second % 60 >> 1;
        return 1;
    }

    private int put(String ahead, int from) {
        need(items.stream().allMatch(it -> it.kind == 2 || it.data != null), NULL);
        List<Integer> places = new ArrayList<>();
        StringBuilder s = new StringBuilder(ahead);
        for (int i = 0; i < items.size(); i++) {
            places.add(i < from ? items.get(i).local : s.length());
            s.append(i < from ? "" : items.get(i).localBytes());
        }
        int length = items.stream().mapToInt(it -> it.centreBytes().length()).sum();
        need(s.length() + length + 22 + comment.length() <= 2000, FULL);
        int centre = s.length();
        for (int i = 0; i < items.size(); i++) {
            items.get(i).local = places.get(i);
            s.append(items.get(i).centreBytes());
        }
        s.append(number(0x06054B50, 4)).append(number(0, 4)).append(number(items.size(), 2));
        s.append(number(items.size(), 2)).append(number(length, 4)).append(number(centre, 4));
        bytes = s.append(number(comment.length(), 2)).append(comment).toString();
        return bytes.length();
    }

    private int add(long e) {
        need(isIn(e, 0, items.size()), UNKNOWN);
        need(items.subList(0, (int) e).stream().allMatch(it -> it.local >= 0), STATE);
        return put(bytes, (int) e);
    }

    private int read() {
        PlainReader reader = new PlainReader(bytes.getBytes(StandardCharsets.ISO_8859_1));
        try {
            int count = reader.entries();
            items = new ArrayList<>(reader.items);
            comment = reader.comment;
            place = -1;
            return count;
        } catch (PlainReader.Fault f) {
            place = (int) f.place;
            return -10 - f.kind;
        }
    }

    private int poke(long i, long mask) {
        need(isIn(i, 0, bytes.length() - 1), UNKNOWN);
        need(isIn(mask, 0, 255), OUTSIDE);
        char is = (char) (bytes.charAt((int) i) ^ mask);
        bytes = bytes.substring(0, (int) i) + is + bytes.substring((int) i + 1);
        return is;
    }

    private static long number(long i, String s, int n) {
        need(isIn(i, 0, s.length() - n), INDEX);
        long v = 0;
        for (int k = n - 1; k >= 0; k--) {
            v = v * 256 + s.charAt((int) i + k);
        }
        return v;
    }

    private static String dataOf(Item it) {
        need(it.kind != 2, CAST);
        need(it.data != null, NULL);
        return it.data;
    }

    private static int about(Item it, long what) {
        need(isIn(what, 0, 10), OUTSIDE);
        int[] all = {it.kind, it.name.length(), it.form == 1 ? 8 : 0, it.kind == 1 ? 8 : 0, it.time, it.day, it.attributes,
            it.parts.size(), it.form == 2 ? 1 : 0, it.local, it.data == null ? 1 : 0};
        return all[(int) what];
    }

    private static long size(Item it, long what) {
        need(isIn(what, 0, 2), OUTSIDE);
        if (it.kind != 1 || what == 0) {
            dataOf(it);
        }
        return what == 0 ? it.data.length() : what == 1 ? it.trueSize() : it.sum();
    }

    private static long extra(Item it, long[] a) {
        need(isIn(a[1], 0, it.parts.size() - 1), UNKNOWN);
        need(isIn(a[2], 0, 2), OUTSIDE);
        String octets = it.parts.get((int) a[1]);
        return a[2] == 0 ? it.ids.get((int) a[1]) : a[2] == 1 ? octets.length() : number(a[3], octets, 1);
    }

    private static int right(Item it) {
        need(it.kind != 1, STATE);
        return sumOf(dataOf(it)) == it.sum() ? 1 : 0;
    }
}
