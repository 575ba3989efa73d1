import java.nio.charset.StandardCharsets;

/** What the tests share: counting wrong answers, and texts as the numbers that calls take. */
final class Check {
    private static int wrong = 0;

    private Check() {
    }

    static void due(String call, long got, long want) {
        if (got != want) {
            wrong++;
            System.out.println(call + " answered " + got + ", due is " + want);
        }
    }

    static void end() {
        System.out.println(wrong == 0 ? "all answers are as due" : wrong + " answers are not as due");
        if (wrong != 0) {
            System.exit(1);
        }
    }

    /** The number whose lowest bytes are the text's, the first letter highest. */
    static long text(String s) {
        long a = 0;
        for (byte b : s.getBytes(StandardCharsets.ISO_8859_1)) {
            a = a << 8 | b & 255;
        }
        return a;
    }

    static int file(ZipForms x, String name, String data) {
        return made(x, 0, 0, name, data);
    }

    static int folder(ZipForms x, String name) {
        return made(x, 2, 0, name, null);
    }

    /** An entry with a name of up to 16 letters and, where data is not null, its data. */
    static int made(ZipForms x, int kind, int form, String name, String data) {
        int first = Math.min(8, name.length());
        int e = x.entry(kind, form, text(name.substring(0, first)), first);
        if (name.length() > 8) {
            x.name(e, text(name.substring(8)), name.length() - 8);
        }
        if (data != null) {
            x.data(e, 0, 0);
        }
        for (int i = 0; data != null && i < data.length(); i += 8) {
            int to = Math.min(i + 8, data.length());
            x.data(e, text(data.substring(i, to)), to - i);
        }
        return e;
    }

    /** By words, since an object is good for 512 calls alone. */
    static byte[] bytes(ZipForms x) {
        byte[] all = new byte[x.told(1)];
        int words = all.length / 4 * 4;
        for (int i = 0; i < words; i += 4) {
            long word = x.word(i);
            for (int k = 0; k < 4; k++) {
                all[i + k] = (byte) (word >>> 8 * k);
            }
        }
        for (int i = words; i < all.length; i++) {
            all[i] = (byte) x.at(i);
        }
        return all;
    }

    /** Makes byte i the value v. */
    static void set(ZipForms x, int i, int v) {
        x.poke(i, (x.at(i) ^ v) & 255);
    }

    /** Makes the n bytes from i on the number v, lowest byte first. */
    static void set(ZipForms x, int i, long v, int n) {
        for (int k = 0; k < n; k++) {
            set(x, i + k, (int) (v >>> 8 * k) & 255);
        }
    }
}
