/**
 * For edges: the answer of a call behind a run of calls, and whether all that can be seen is as it was.
 *
 * The run is made again on a new object for each look, since the document promises nothing of an object
 * behind its 512th call, and a look at everything needs more calls than that.
 */
final class Edge {
    /** Calls that a run begins with: 300 at most, so that a look has room behind them. */
    interface Steps {
        void on(ZipForms x);
    }

    interface Call {
        long on(ZipForms x);
    }

    interface CallOf {
        long on(ZipForms x, int v);
    }

    private static final int LOOKS = 200;

    private Edge() {
    }

    /**
     * ENTRIES of all sorts, with a COMMENT and BYTES: 0 a FILE "abc" that was read with another SUM than DATA has,
     * 1 a PACKED STREAMED one, 2 a FOLDER, 3 a WIDE FILE and 4 a PACKED one without DATA.
     */
    static void five(ZipForms x) {
        Check.file(x, "abc", "hello");
        Check.made(x, 1, 1, "p", "zz");
        Check.folder(x, "d");
        x.packed(1, 1234, -5);
        x.part(0, 500, 0x0102, 2);
        x.stamp(1, 2001, 2, 3, 4567);
        x.attributes(2, 99);
        x.comment(Check.text("note"), 4);
        x.write();
        x.poke(30 + 3 + 6, 1);
        x.read();
        Check.made(x, 0, 2, "w", null);
        Check.made(x, 1, 0, "q", null);
    }

    static ZipForms after(Steps steps) {
        ZipForms x = new ZipForms();
        steps.on(x);
        return x;
    }

    static void taken(String what, Steps before, Call call, long want) {
        ZipForms x = after(before);
        int fault = x.told(3);
        Check.due(what, call.on(x), want);
        Check.due(what + ": told(3)", x.told(3), fault);
    }

    static void eachTaken(String what, Steps before, long want, CallOf call, int... values) {
        for (int v : values) {
            taken(what + " " + v, before, x -> call.on(x, v), want);
        }
    }

    static void eachRefused(String what, Steps before, long want, CallOf call, int... values) {
        for (int v : values) {
            refused(what + " " + v, before, x -> call.on(x, v), want);
        }
    }

    static void eachFaults(String what, Steps before, int fault, CallOf call, int... values) {
        for (int v : values) {
            faults(what + " " + v, before, x -> call.on(x, v), fault);
        }
    }

    /** A refusal, or a look: the call answers so and nothing changes. */
    static void refused(String what, Steps before, Call call, long want) {
        ZipForms x = after(before);
        int fault = x.told(3);
        int place = x.place();
        Check.due(what, call.on(x), want);
        Check.due(what + ": told(3)", x.told(3), fault);
        Check.due(what + ": place()", x.place(), place);
        staysAsItWas(what, before, call);
    }

    /** A FAULT of the machine: told(3) tells it then, and nothing else changes. */
    static void faults(String what, Steps before, Call call, int fault) {
        ZipForms x = after(before);
        int place = x.place();
        Check.due(what, call.on(x), -30 - fault);
        Check.due(what + ": told(3)", x.told(3), fault);
        Check.due(what + ": place()", x.place(), place);
        staysAsItWas(what, before, call);
    }

    /** A FAULT of reading: place() tells where, and nothing else changes. */
    static void unread(String what, Steps before, int kind, int place) {
        ZipForms x = after(before);
        int fault = x.told(3);
        Check.due(what + ": read()", x.read(), -10 - kind);
        Check.due(what + ": place()", x.place(), place);
        Check.due(what + ": told(3)", x.told(3), fault);
        staysAsItWas(what, before, ZipForms::read);
    }

    private static void staysAsItWas(String what, Steps before, Call call) {
        String ahead = seen(before);
        String behind = seen(x -> {
            before.on(x);
            call.on(x);
        });
        Check.due(what + ": something changed", ahead.equals(behind) ? 0 : 1, 0);
    }

    /** All that can be seen but the latest FAULT and the place of a reading's fault, which differ by it. */
    static String seen(Steps steps) {
        StringBuilder s = new StringBuilder();
        ZipForms x = after(steps);
        int entries = x.told(0);
        s.append(entries).append(' ').append(x.told(1)).append(' ').append(x.told(2)).append('\n');
        for (byte b : bytes(steps)) {
            s.append(b).append(' ');
        }
        for (int e = 0; e < entries; e++) {
            s.append('\n');
            seeEntry(after(steps), e, s);
        }
        return s.append('\n').append(comment(steps)).toString();
    }

    static byte[] bytes(Steps steps) {
        ZipForms x = after(steps);
        byte[] all = new byte[x.told(1)];
        for (int i = 0; i < all.length; i++) {
            x = i % LOOKS == 0 ? after(steps) : x;
            all[i] = (byte) x.at(i);
        }
        return all;
    }

    /** THE COMMENT can be seen only where it is written. */
    static String comment(Steps steps) {
        ZipForms x = after(steps);
        x.clear();
        x.write();
        StringBuilder s = new StringBuilder();
        for (int i = 22; i < x.told(1); i++) {
            s.append((char) x.at(i));
        }
        return s.toString();
    }

    private static void seeEntry(ZipForms x, int e, StringBuilder s) {
        for (int what = 0; what <= 10; what++) {
            s.append(x.about(e, what)).append(' ');
        }
        for (int i = 0; i <= 16; i++) {
            s.append(x.letter(e, i)).append(' ');
        }
        for (int i = 0; i <= 40; i++) {
            s.append(x.octet(e, i)).append(' ');
        }
        for (int what = 0; what <= 2; what++) {
            s.append(x.size(e, what)).append(' ');
        }
        s.append(x.right(e)).append(' ').append(x.same(e));
        for (int k = 0; k < 3; k++) {
            s.append(" / ").append(x.extra(e, k, 0, 0)).append(' ').append(x.extra(e, k, 1, 0));
            for (int i = 0; i <= 8; i++) {
                s.append(' ').append(x.extra(e, k, 2, i));
            }
        }
    }
}
