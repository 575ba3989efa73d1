import java.util.Arrays;

/** The edges of promises 10 to 12 and 14 to 20: the bytes, and their plain readers. */
public final class ByteEdgesTest {
    private static final int LEAST = Integer.MIN_VALUE, MOST = Integer.MAX_VALUE;

    public static void main(String[] args) {
        commentCounts();
        commentThatWasRead();
        writeOfLeast();
        writeJustFits();
        writeIsFullByOne();
        writeOfFormsJustFits();
        writeOfNothing();
        faultAheadOfFull();
        addNumbers();
        addWithoutPlaces();
        addOfNothing();
        addJustFits();
        addKeepsBytes();
        addBehindFaults();
        places();
        feedCounts();
        feedIsFull();
        cuts();
        pokeMasks();
        pokePlaces();
        readersAtTheEnd();
        readersOfAllBytes();
        readersFarOutside();
        readersBehindCut();
        highestBits();
        Check.end();
    }

    private static void due(String what, String got, String want) {
        Check.due(what + ": \"" + got + "\", due is \"" + want + "\"", got.equals(want) ? 1 : 0, 1);
    }

    private static void none(ZipForms x) {
    }

    private static void commentCounts() {
        Edge.eachTaken("comment: n", Edge::five, 1, (x, v) -> x.comment(-1L, v), 0, 1, 2, 3, 4, 5, 6, 7, 8);
        Edge.eachRefused("comment: n", Edge::five, ZipForms.OUTSIDE, (x, v) -> x.comment(-1L, v),
            -1, 9, 12, 64, LEAST, MOST);
        String eight = "abcdefgh";
        for (int n = 0; n <= 8; n++) {
            int of = n;
            Edge.Steps steps = x -> {
                x.comment(Check.text("ABCDEFGH"), 8);
                x.comment(Check.text(eight), of);
            };
            Check.due("comment: told(2) of " + n, Edge.after(steps).told(2), n);
            due("comment: of " + n, Edge.comment(steps), eight.substring(8 - n));
            Edge.taken("comment: write() of " + n, steps, ZipForms::write, 22 + n);
            Edge.taken("comment: add() of " + n, steps, x -> x.add(0), 22 + n);
        }
        due("comment: bytes 0", Edge.comment(x -> x.comment(0, 3)), "\0\0\0");
        due("comment: refused", Edge.comment(x -> {
            x.comment(Check.text("kept"), 4);
            x.comment(Check.text("abcdefgh"), 9);
            x.comment(Check.text("abcdefgh"), -1);
        }), "kept");
    }

    /** THE BYTES are an END with a COMMENT of so many letters. */
    private static void end(ZipForms x, String comment) {
        Forge f = new Forge();
        f.comment = comment;
        Forge.feed(x, f.bytes());
    }

    private static void commentThatWasRead() {
        String twelve = "abcdefghijkl";
        for (int n = 0; n <= 12; n++) {
            String of = twelve.substring(0, n);
            Edge.Steps steps = x -> {
                x.comment(Check.text("before"), 6);
                end(x, of);
            };
            Edge.taken("read COMMENT: of " + n, steps, ZipForms::read, 0);
            Edge.Steps read = x -> {
                steps.on(x);
                x.read();
            };
            Check.due("read COMMENT: told(2)", Edge.after(read).told(2), n);
            due("read COMMENT: stays so", Edge.comment(read), of);
            Edge.taken("read COMMENT: write()", read, ZipForms::write, 22 + n);
            Edge.taken("read COMMENT: add()", read, x -> x.add(0), 44 + n + n);
            Edge.refused("read COMMENT: n 9", read, x -> x.comment(-1L, 9), ZipForms.OUTSIDE);
            due("read COMMENT: another one", Edge.comment(x -> {
                read.on(x);
                x.comment(Check.text("xy"), 2);
            }), "xy");
            due("read COMMENT: none", Edge.comment(x -> {
                read.on(x);
                x.comment(Check.text("xy"), 0);
            }), "");
        }
        due("read COMMENT: stays by a FAULT", Edge.comment(x -> {
            end(x, twelve);
            x.read();
            x.poke(0, 1);
            x.read();
        }), twelve);
        due("read COMMENT: stays by other calls", Edge.comment(x -> {
            end(x, twelve);
            x.read();
            x.cut(0);
            Check.file(x, "a", "1");
            x.write();
            x.clear();
        }), twelve);
    }

    private static void writeOfLeast() {
        Edge.taken("write: none", ByteEdgesTest::none, ZipForms::write, 22);
        Edge.taken("write: a FOLDER", x -> Check.folder(x, "d"), ZipForms::write, 32 + 48 + 22);
        for (int kind = 0; kind <= 1; kind++) {
            for (int form = 0; form <= 2; form++) {
                int of = kind;
                int as = form;
                int more = form == 1 ? 16 : form == 2 ? 40 : 0;
                Edge.taken("write: DATA of 0", x -> Check.made(x, of, as, "a", ""), ZipForms::write, 100 + more);
                Edge.taken("write: DATA of 40", x -> Check.made(x, of, as, "a", "x".repeat(40)), ZipForms::write,
                    140 + more);
            }
        }
        ZipForms x = Edge.after(y -> Check.made(y, 1, 2, "0123456789abcdef", "x".repeat(40)));
        for (int k = 0; k < 3; k++) {
            x.part(0, 65535, -1L, 8);
        }
        int extra = 20 + 3 * 12;
        Check.due("write: the longest one", x.write(), 30 + 16 + extra + 40 + 46 + 16 + extra + 22);
        Check.due("write: read()", x.read(), 1);
        Check.due("write: write() again", x.write(), 30 + 16 + extra + 40 + 46 + 16 + extra + 22);
    }

    /** 12 FILES whose write() is 2000 less what the last one's DATA lacks of 40. */
    private static void full(ZipForms x, int lacking, int comment) {
        for (int i = 0; i < 12; i++) {
            int e = x.entry(i % 2, 0, 'a' + i, 1);
            for (int k = 0; k < 4; k++) {
                x.data(e, i, 8);
            }
            x.data(e, i, i == 11 ? 8 - lacking : 8);
            x.part(e, 2, 0, 8);
            if (i < 11) {
                x.part(e, 3, 0, 8);
            }
        }
        x.name(0, Check.text("bcdef"), 5);
        x.comment(0, comment);
    }

    private static void writeJustFits() {
        Edge.taken("write: 1999", x -> full(x, 1, 0), ZipForms::write, 1999);
        Edge.taken("write: 2000", x -> full(x, 0, 0), ZipForms::write, 2000);
        Edge.taken("write: 2000 by THE COMMENT", x -> full(x, 8, 8), ZipForms::write, 2000);
        Edge.taken("write: 2000 by both", x -> full(x, 3, 3), ZipForms::write, 2000);
        ZipForms x = Edge.after(y -> full(y, 3, 3));
        x.write();
        Check.due("write: told(1)", x.told(1), 2000);
        Check.due("write: the last byte", x.at(1999), 0);
        Check.due("write: read()", x.read(), 12);
        Check.due("write: again", x.write(), 2000);
        Check.due("write: over themselves", x.write(), 2000);
    }

    private static void writeIsFullByOne() {
        Edge.refused("write: 2001 by THE COMMENT", x -> full(x, 0, 1), ZipForms::write, ZipForms.FULL);
        Edge.refused("write: 2001 by DATA", x -> full(x, 7, 8), ZipForms::write, ZipForms.FULL);
        Edge.refused("write: 2008", x -> full(x, 0, 8), ZipForms::write, ZipForms.FULL);
        Edge.refused("write: 2002 by NAME", x -> {
            full(x, 0, 0);
            x.name(11, 'z', 1);
        }, ZipForms::write, ZipForms.FULL);
        Edge.refused("write: 2008 by a PART", x -> {
            full(x, 0, 0);
            x.part(11, 2, 0, 0);
        }, ZipForms::write, ZipForms.FULL);
        // What was written before stays, with its places.
        Edge.refused("write: FULL behind a write()", x -> {
            full(x, 1, 0);
            x.write();
            x.data(11, 1, 1);
            x.comment(1, 1);
        }, ZipForms::write, ZipForms.FULL);
        Edge.refused("write: FULL with no BYTES before", x -> {
            full(x, 0, 1);
            x.cut(0);
        }, ZipForms::write, ZipForms.FULL);
    }

    /** STREAMED ones have 16 bytes more, WIDE ones twice 20: 12 by 118, THE END, and these. */
    private static void writeOfFormsJustFits() {
        Edge.Steps streamed = x -> ofForm(x, 1, 12, 12);
        Edge.taken("STREAMED: " + (1630 + 288), streamed, ZipForms::write, 1918);
        Edge.Steps nearly = x -> {
            ofForm(x, 1, 12, 12);
            for (int e = 0; e < 3; e++) {
                x.part(e, 2, 0, 8);
            }
            x.name(0, 'x', 1);
        };
        Edge.taken("STREAMED: 1992", nearly, ZipForms::write, 1992);
        Edge.taken("STREAMED: 2000", x -> {
            nearly.on(x);
            x.comment(0, 8);
        }, ZipForms::write, 2000);
        Edge.refused("STREAMED: 2001", x -> {
            nearly.on(x);
            x.comment(0, 7);
            x.name(0, 'x', 1);
        }, ZipForms::write, ZipForms.FULL);
        Edge.Steps wide = x -> ofForm(x, 2, 12, 3);
        Edge.taken("WIDE: 1990", wide, ZipForms::write, 1438 + 480 + 72);
        Edge.taken("WIDE: 2000", x -> {
            wide.on(x);
            x.comment(0, 8);
            x.name(0, 'x', 1);
        }, ZipForms::write, 2000);
        Edge.refused("WIDE: 2001", x -> {
            wide.on(x);
            x.comment(0, 7);
            x.name(0, Check.text("xy"), 2);
        }, ZipForms::write, ZipForms.FULL);
    }

    private static void ofForm(ZipForms x, int form, int count, int parts) {
        for (int i = 0; i < count; i++) {
            x.entry(0, form, 'a', 1);
            for (int k = 0; k < 5; k++) {
                x.data(i, 0, 8);
            }
            if (i < parts) {
                x.part(i, 2, 0, 8);
            }
        }
    }

    private static void writeOfNothing() {
        for (int kind = 0; kind <= 1; kind++) {
            for (int form = 0; form <= 2; form++) {
                int of = kind;
                int as = form;
                Edge.faults("write: DATA is nothing", x -> x.entry(of, as, 'a', 1), ZipForms::write, 1);
                Edge.faults("write: DATA of the last is nothing", x -> {
                    Check.file(x, "b", "1");
                    Check.folder(x, "d");
                    x.write();
                    x.name(0, 'c', 1);
                    x.entry(of, as, 'a', 1);
                }, ZipForms::write, 1);
            }
        }
        Edge.faults("write: of five", Edge::five, ZipForms::write, 1);
        Edge.faults("write: a TRUE size is no DATA", x -> {
            x.entry(1, 0, 'a', 1);
            x.packed(0, 5, 5);
        }, ZipForms::write, 1);
        Edge.faults("write: a refused data() gives none", x -> {
            x.entry(0, 0, 'a', 1);
            x.data(0, 0, 9);
        }, ZipForms::write, 1);
        Edge.taken("write: a FOLDER needs none", x -> Check.folder(x, "a"), ZipForms::write, 102);
    }

    private static void faultAheadOfFull() {
        Edge.Steps both = x -> {
            full(x, 0, 8);
            x.write();
            x.clear();
            full(x, 0, 8);
            x.clear();
            for (int i = 0; i < 12; i++) {
                x.entry(0, 2, Check.text("abcdefgh"), 8);
                x.part(i, 2, 0, 8);
                x.part(i, 2, 0, 8);
            }
        };
        Edge.faults("FAULT ahead of FULL: write()", both, ZipForms::write, 1);
        Edge.faults("FAULT ahead of FULL: add()", both, x -> x.add(0), 1);
    }

    private static void addNumbers() {
        Edge.taken("add: 0 of none", ByteEdgesTest::none, x -> x.add(0), 22);
        Edge.eachRefused("add: of none", ByteEdgesTest::none, ZipForms.UNKNOWN, ZipForms::add, 1, -1, 12, LEAST, MOST);
        Edge.Steps two = x -> {
            Check.file(x, "a", "1");
            Check.file(x, "b", "2");
            x.write();
        };
        Edge.taken("add: 0 of two", two, x -> x.add(0), 180 + 64 + 94 + 22);
        Edge.taken("add: 1 of two", two, x -> x.add(1), 180 + 32 + 94 + 22);
        Edge.taken("add: 2 of two", two, x -> x.add(2), 180 + 94 + 22);
        Edge.eachRefused("add: of two", two, ZipForms.UNKNOWN, ZipForms::add, 3, -1, 12, 13, LEAST, MOST);
        Edge.Steps all = x -> {
            for (int i = 0; i < 12; i++) {
                Check.folder(x, "d");
            }
            x.write();
        };
        Edge.taken("add: 12 of 12", all, x -> x.add(12), 982 + 576 + 22);
        Edge.taken("add: 11 of 12", all, x -> x.add(11), 982 + 32 + 576 + 22);
        Edge.eachRefused("add: of 12", all, ZipForms.UNKNOWN, ZipForms::add, 13, -1, LEAST, MOST);
    }

    private static void addWithoutPlaces() {
        Edge.Steps two = x -> {
            Check.file(x, "a", "1");
            x.write();
            Check.folder(x, "d");
            Check.file(x, "b", "2");
        };
        Edge.eachRefused("add: an ENTRY before has no place", two, ZipForms.STATE, ZipForms::add, 2, 3);
        Edge.refused("add: UNKNOWN ahead of STATE", two, x -> x.add(4), ZipForms.UNKNOWN);
        Edge.taken("add: the ENTRY itself needs none", two, x -> x.add(1), 101 + 32 + 32 + 47 + 48 + 47 + 22);
        Edge.taken("add: nor do all", two, x -> x.add(0), 101 + 32 + 32 + 32 + 47 + 48 + 47 + 22);
        Edge.refused("add: STATE ahead of FAULT 1", x -> {
            two.on(x);
            x.entry(0, 0, 'n', 1);
        }, x -> x.add(2), ZipForms.STATE);
        Edge.refused("add: STATE ahead of FULL", x -> {
            two.on(x);
            junk(x, 1896);
        }, x -> x.add(2), ZipForms.STATE);
        // Places go with clear(), stay by cut(), and come by read() and add().
        Edge.refused("add: of new ones", x -> {
            two.on(x);
            x.clear();
            Check.file(x, "a", "1");
        }, x -> x.add(1), ZipForms.STATE);
        Edge.taken("add: a place stays by cut()", x -> {
            Check.file(x, "a", "1");
            x.write();
            x.cut(0);
        }, x -> x.add(1), 47 + 22);
        Edge.taken("add: a place of add()", x -> {
            Check.file(x, "a", "1");
            x.add(0);
        }, x -> x.add(1), 101 + 47 + 22);
        Edge.taken("add: a place of read()", x -> {
            Check.file(x, "a", "1");
            x.write();
            x.clear();
            x.read();
        }, x -> x.add(1), 101 + 47 + 22);
        Edge.refused("add: a refused write() gives no place", x -> {
            full(x, 0, 8);
            x.write();
        }, x -> x.add(1), ZipForms.STATE);
        Edge.refused("add: a read() with a FAULT gives no place", x -> {
            Check.file(x, "..", "1");
            x.write();
            x.clear();
            Check.file(x, "a", "1");
            x.read();
        }, x -> x.add(1), ZipForms.STATE);
    }

    private static void addOfNothing() {
        Edge.Steps steps = x -> {
            Check.file(x, "a", "1");
            x.write();
            x.entry(1, 1, 'b', 1);
            Check.folder(x, "d");
        };
        Edge.eachFaults("add: DATA is nothing, from", steps, 1, ZipForms::add, 0, 1);
        Edge.faults("add: of the last one", x -> {
            Check.file(x, "a", "1");
            x.write();
            Check.file(x, "b", "1");
            x.entry(0, 2, 'c', 1);
        }, x -> x.add(1), 1);
    }

    /** n bytes: 1 to 8, and again. */
    private static void junk(ZipForms x, int n) {
        for (int i = 0; i < n; i += 8) {
            int more = Math.min(8, n - i);
            x.feed(0x0102030405060708L >>> 8 * (8 - more), more);
        }
    }

    private static void addJustFits() {
        Edge.taken("add: 2000 of none", x -> junk(x, 1978), x -> x.add(0), 2000);
        Edge.refused("add: 2001 of none", x -> junk(x, 1979), x -> x.add(0), ZipForms.FULL);
        Edge.refused("add: behind 2000", x -> junk(x, 2000), x -> x.add(0), ZipForms.FULL);
        Edge.Steps one = x -> Check.file(x, "a", "1");
        Edge.taken("add: 2000 of one", x -> {
            one.on(x);
            junk(x, 1899);
        }, x -> x.add(0), 2000);
        Edge.refused("add: 2001 of one", x -> {
            one.on(x);
            junk(x, 1900);
        }, x -> x.add(0), ZipForms.FULL);
        Edge.Steps placed = x -> {
            Check.file(x, "a", "1");
            x.write();
            x.cut(0);
        };
        Edge.taken("add: 2000 of a CENTRE", x -> {
            placed.on(x);
            junk(x, 1931);
        }, x -> x.add(1), 2000);
        Edge.refused("add: 2001 of a CENTRE", x -> {
            placed.on(x);
            junk(x, 1932);
        }, x -> x.add(1), ZipForms.FULL);
        Edge.refused("add: 2001 by THE COMMENT", x -> {
            placed.on(x);
            x.comment(0, 8);
            junk(x, 1924);
        }, x -> x.add(1), ZipForms.FULL);
        Edge.taken("add: 2000 of twelve", x -> full(x, 0, 0), x -> x.add(0), 2000);
        Edge.refused("add: 2001 of twelve", x -> full(x, 0, 1), x -> x.add(0), ZipForms.FULL);
        Edge.taken("add: write() has room yet", x -> {
            one.on(x);
            junk(x, 2000);
        }, ZipForms::write, 101);
    }

    private static void addKeepsBytes() {
        Edge.Steps steps = x -> {
            Edge.five(x);
            x.data(3, 0, 1);
            x.data(4, 0, 1);
        };
        byte[] ahead = Edge.bytes(steps);
        for (int from = 0; from <= 3; from++) {
            int e = from;
            byte[] behind = Edge.bytes(x -> {
                steps.on(x);
                x.add(e);
            });
            boolean isKept = Arrays.equals(ahead, Arrays.copyOf(behind, ahead.length));
            Check.due("add: BYTES stay behind add(" + from + ")", isKept ? 1 : 0, 1);
            ZipForms x = Edge.after(steps);
            int[] before = {x.about(0, 9), x.about(1, 9), x.about(2, 9)};
            x.add(from);
            for (int i = 0; i < 3; i++) {
                Check.due("add: place " + i, x.about(i, 9) == before[i] ? 1 : 0, i < from ? 1 : 0);
            }
            Check.due("add: the first new place", x.about(from, 9), ahead.length);
            Check.due("add: place 4 is new", x.about(4, 9) > ahead.length ? 1 : 0, 1);
            Check.due("add: all is read", x.read(), 5);
        }
    }

    /** Places are those that were told, not what stands there now. */
    private static void addBehindFaults() {
        ZipForms x = new ZipForms();
        Check.file(x, "a", "1");
        x.feed(0, 7);
        x.add(0);
        x.poke(7, 1);
        Check.due("add: a FAULT of reading", x.read(), -16);
        Check.due("add: its place stays", x.about(0, 9), 7);
        Check.due("add: and is told again", x.add(1), 108 + 69);
        Check.due("add: in the new CENTRE", x.word(108 + 42), 7);
        Check.due("add: which can not be read", x.read(), -16);
        Check.due("add: at its place", x.place(), 7);
    }

    private static void places() {
        Edge.refused("place: before a read()", Edge::five, ZipForms::place, ZipForms.NONE);
        Edge.refused("place: of no BYTES", x -> x.read(), ZipForms::place, 0);
        Edge.refused("place: of 2000 BYTES", x -> {
            junk(x, 2000);
            x.read();
        }, ZipForms::place, 2000);
        Edge.Steps fault = x -> {
            x.feed(0, 5);
            x.read();
        };
        Edge.refused("place: behind a FAULT", fault, ZipForms::place, 5);
        Edge.refused("place: stays by other calls", x -> {
            fault.on(x);
            x.entry(0, 0, 'a', 1);
            x.data(0, 0, 1);
            x.write();
            x.add(1);
            x.cut(3);
            x.feed(0, 1);
            x.poke(0, 1);
            x.clear();
            x.comment(0, 1);
            x.at(-1);
            x.about(0, 12);
        }, ZipForms::place, 5);
        Edge.refused("place: behind a whole read()", x -> {
            fault.on(x);
            x.write();
            x.read();
        }, ZipForms::place, ZipForms.NONE);
        Edge.refused("place: of the later FAULT", x -> {
            fault.on(x);
            x.feed(0, 2);
            x.read();
        }, ZipForms::place, 7);
    }

    private static void feedCounts() {
        Edge.Steps three = x -> x.feed(0x010203, 3);
        for (int n = 1; n <= 8; n++) {
            int of = n;
            Edge.taken("feed: n " + n, three, x -> x.feed(-1L, of), 3 + n);
            ZipForms x = Edge.after(three);
            x.feed(0x1112131415161718L, n);
            for (int i = 0; i < n; i++) {
                Check.due("feed: byte " + i + " of " + n, x.at(3 + i), 0x18 - (n - 1 - i));
            }
            Check.due("feed: the old ones stay", x.word(0) & 0xFFFFFF, 0x030201);
        }
        Edge.eachRefused("feed: n", three, ZipForms.OUTSIDE, (x, v) -> x.feed(-1L, v), 0, -1, 9, 64, 65, LEAST, MOST);
    }

    private static void feedIsFull() {
        for (int n = 1; n <= 8; n++) {
            int of = n;
            Edge.taken("feed: just 2000 by " + n, x -> junk(x, 2000 - of), x -> x.feed(-1L, of), 2000);
            Edge.refused("feed: 2001 by " + n, x -> junk(x, 2001 - of), x -> x.feed(-1L, of), ZipForms.FULL);
            Edge.refused("feed: behind 2000 by " + n, x -> junk(x, 2000), x -> x.feed(-1L, of), ZipForms.FULL);
        }
        Edge.eachRefused("feed: OUTSIDE ahead of FULL, n", x -> junk(x, 2000), ZipForms.OUTSIDE,
            (x, v) -> x.feed(-1L, v), 0, -1, 9);
    }

    private static void cuts() {
        Edge.taken("cut: none of none", ByteEdgesTest::none, x -> x.cut(0), 0);
        Edge.eachRefused("cut: of none", ByteEdgesTest::none, ZipForms.OUTSIDE, ZipForms::cut, 1, -1, LEAST, MOST);
        Edge.Steps ten = x -> junk(x, 10);
        for (int n = 0; n <= 10; n++) {
            int to = n;
            Edge.taken("cut: behind " + n, ten, x -> x.cut(to), 10 - n);
            ZipForms x = Edge.after(ten);
            x.cut(n);
            Check.due("cut: told(1)", x.told(1), n);
            Check.due("cut: the last", x.at(n - 1), n == 0 ? -33 : (n - 1) % 8 + 1);
            Check.due("cut: behind it", x.at(n), -33);
        }
        Edge.eachRefused("cut: of 10", ten, ZipForms.OUTSIDE, ZipForms::cut, 11, -1, 2000, LEAST, MOST);
        Edge.taken("cut: all of 2000", x -> junk(x, 2000), x -> x.cut(0), 2000);
        Edge.taken("cut: none of 2000", x -> junk(x, 2000), x -> x.cut(2000), 0);
        Edge.refused("cut: 2001 of 2000", x -> junk(x, 2000), x -> x.cut(2001), ZipForms.OUTSIDE);
        Edge.refused("cut: behind a cut()", x -> {
            junk(x, 10);
            x.cut(4);
        }, x -> x.cut(5), ZipForms.OUTSIDE);
    }

    private static void pokeMasks() {
        Edge.Steps steps = x -> x.feed(0x00FF0F80, 4);
        int[] had = {0, 255, 15, 128};
        for (int i = 0; i < 4; i++) {
            int at = i;
            for (int mask : new int[] {0, 1, 127, 128, 254, 255}) {
                Edge.taken("poke: mask " + mask, steps, x -> x.poke(at, mask), had[i] ^ mask);
                ZipForms x = Edge.after(steps);
                x.poke(i, mask);
                for (int k = 0; k < 4; k++) {
                    Check.due("poke: byte " + k + " then", x.at(k), k == i ? had[k] ^ mask : had[k]);
                }
            }
            Edge.eachRefused("poke: mask", steps, ZipForms.OUTSIDE, (x, v) -> x.poke(at, v), -1, 256, 257, LEAST, MOST);
        }
    }

    private static void pokePlaces() {
        Edge.Steps steps = x -> junk(x, 10);
        Edge.eachTaken("poke: i", steps, 0xFF ^ 1, (x, v) -> x.poke(v, 0xFF), 0, 8);
        Edge.taken("poke: the last", steps, x -> x.poke(9, 0xFF), 0xFF ^ 2);
        Edge.eachRefused("poke: i", steps, ZipForms.UNKNOWN, (x, v) -> x.poke(v, 1),
            10, -1, 11, 1999, 2000, LEAST, MOST);
        Edge.eachRefused("poke: UNKNOWN ahead of OUTSIDE, i", steps, ZipForms.UNKNOWN, (x, v) -> x.poke(v, 256),
            10, -1, 2000, LEAST, MOST);
        Edge.taken("poke: the last of 2000", x -> junk(x, 2000), x -> x.poke(1999, 0), 8);
        Edge.refused("poke: behind 2000", x -> junk(x, 2000), x -> x.poke(2000, 0), ZipForms.UNKNOWN);
        Edge.refused("poke: what was cut", x -> {
            junk(x, 10);
            x.cut(5);
        }, x -> x.poke(5, 0), ZipForms.UNKNOWN);
    }

    private static void readersAtTheEnd() {
        for (int n = 0; n <= 9; n++) {
            int count = n;
            Edge.Steps steps = x -> junk(x, count);
            for (int i = -4; i <= n + 1; i++) {
                int at = i;
                look("at(" + i + ") of " + n, steps, x -> x.at(at), i >= 0 && i + 1 <= n, numberAt(i, 1));
                look("half(" + i + ") of " + n, steps, x -> x.half(at), i >= 0 && i + 2 <= n, numberAt(i, 2));
                look("word(" + i + ") of " + n, steps, x -> x.word(at), i >= 0 && i + 4 <= n, numberAt(i, 4));
            }
        }
    }

    /** The number that junk has from i on. */
    private static long numberAt(int i, int n) {
        long v = 0;
        for (int k = n - 1; k >= 0; k--) {
            v = v << 8 | Math.floorMod(i + k, 8) + 1;
        }
        return v;
    }

    private static void look(String what, Edge.Steps steps, Edge.Call call, boolean isThere, long want) {
        if (isThere) {
            Edge.refused(what, steps, call, want);
        } else {
            Edge.faults(what, steps, call, 3);
        }
    }

    private static void readersOfAllBytes() {
        Edge.Steps steps = x -> junk(x, 2000);
        look("at: the last of 2000", steps, x -> x.at(1999), true, numberAt(1999, 1));
        look("half: the last of 2000", steps, x -> x.half(1998), true, numberAt(1998, 2));
        look("word: the last of 2000", steps, x -> x.word(1996), true, numberAt(1996, 4));
        look("at: 2000", steps, x -> x.at(2000), false, 0);
        look("half: 1999", steps, x -> x.half(1999), false, 0);
        for (int i = 1997; i <= 2000; i++) {
            int at = i;
            look("word: " + i, steps, x -> x.word(at), false, 0);
        }
    }

    /** A sum with these would wrap around. */
    private static void readersFarOutside() {
        int[] far = {MOST, MOST - 1, MOST - 2, MOST - 3, MOST - 4, LEAST, LEAST + 1, LEAST + 2, LEAST + 3,
            LEAST + 2000, -2000, -4, -3, -2, -1, 65536, 1 << 24};
        for (Edge.Steps steps : new Edge.Steps[] {ByteEdgesTest::none, Edge::five, x -> junk(x, 2000)}) {
            Edge.eachFaults("at:", steps, 3, ZipForms::at, far);
            Edge.eachFaults("half:", steps, 3, ZipForms::half, far);
            Edge.eachFaults("word:", steps, 3, ZipForms::word, far);
        }
    }

    private static void readersBehindCut() {
        Edge.Steps steps = x -> {
            junk(x, 20);
            x.cut(10);
        };
        look("cut: at(9)", steps, x -> x.at(9), true, 2);
        look("cut: at(10)", steps, x -> x.at(10), false, 0);
        look("cut: half(8)", steps, x -> x.half(8), true, 0x0201);
        look("cut: half(9)", steps, x -> x.half(9), false, 0);
        look("cut: word(6)", steps, x -> x.word(6), true, 0x02010807L);
        look("cut: word(7)", steps, x -> x.word(7), false, 0);
        // A FAULT is told as the latest one, also behind one of another sort.
        ZipForms x = Edge.after(steps);
        x.data(0, 0, 0);
        x.entry(0, 0, 'a', 1);
        x.write();
        Check.due("latest: 1", x.told(3), 1);
        x.at(10);
        Check.due("latest: 3", x.told(3), 3);
        x.at(9);
        Check.due("latest: stays", x.told(3), 3);
    }

    private static void highestBits() {
        Edge.Steps ones = x -> x.feed(-1L, 8);
        look("at: 255", ones, x -> x.at(7), true, 255);
        look("half: 65535", ones, x -> x.half(6), true, 65535);
        look("word: all bits", ones, x -> x.word(4), true, 0xFFFFFFFFL);
        Edge.Steps high = x -> x.feed(0x00000080, 4);
        look("at: 128", high, x -> x.at(3), true, 128);
        look("half: 32768", high, x -> x.half(2), true, 32768);
        look("word: the highest bit", high, x -> x.word(0), true, 0x80000000L);
        Edge.Steps low = x -> x.feed(0x80FFFF7FL, 4);
        look("word: without it", low, x -> x.word(0), true, 0x7FFFFF80L);
    }
}
