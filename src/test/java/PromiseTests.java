/** For each promise: ordinary inputs, the edges that the document names, and wrong inputs. */
public final class PromiseTests extends Answers {
    private static void newObject() {
        LidForEach x = new LidForEach();
        for (int what = 0; what <= 7; what++) {
            due("count(" + what + ")", x.count(what), 0);
        }
        for (int what = 0; what <= 2; what++) {
            due("status(" + what + ")", x.status(what), 0);
        }
        due("part(0)", x.part(0), 0);
        due("part(1)", x.part(1), 1);
        no(x, "from(0)", () -> x.from(0));
        no(x, "from(1)", () -> x.from(1));
        no(x, "undo()", () -> x.undo());
        LidForEach other = new LidForEach();
        x.box(0, 1, 0);
        due("count(0) of another object", other.count(0), 0);
    }

    private static void box() {
        LidForEach x = new LidForEach();
        due("box(0, 1, 0)", x.box(0, 1, 0), 0);
        due("box(2, 9, 20)", x.box(2, 9, 20), 1);
        int[][] wrongOnes = {{-1, 1, 0}, {3, 1, 0}, {0, 0, 0}, {0, 10, 0}, {0, 1, -1}, {0, 1, 21},
            {MAX, 1, 0}, {MIN, 1, 0}, {0, MAX, 0}, {0, MIN, 0}, {0, 1, MAX}, {0, 1, MIN}};
        for (int[] w : wrongOnes) {
            bad(x, "a wrong box", () -> x.box(w[0], w[1], w[2]));
        }
        for (int i = 2; i < 7; i++) {
            due("box(1, 5, 5)", x.box(1, 5, 5), i);
        }
        due("count(0)", x.count(0), 7);
        full(x, "an eighth box", () -> x.box(1, 5, 5));
        bad(x, "a wrong eighth box", () -> x.box(3, 5, 5));
    }

    private static void lid() {
        LidForEach x = new LidForEach();
        due("lid(0, 0, 1)", x.lid(0, 0, 1), 0);
        due("lid(5, 2, 9)", x.lid(5, 2, 9), 1);
        int[][] wrongOnes = {{-1, 0, 1}, {6, 0, 1}, {0, -1, 1}, {0, 3, 1}, {0, 0, 0}, {0, 0, 10},
            {MAX, 0, 1}, {MIN, 0, 1}, {0, MAX, 1}, {0, MIN, 1}, {0, 0, MAX}, {0, 0, MIN}};
        for (int[] w : wrongOnes) {
            bad(x, "a wrong lid", () -> x.lid(w[0], w[1], w[2]));
        }
        for (int i = 2; i < 7; i++) {
            due("lid(1, 1, 5)", x.lid(1, 1, 5), i);
        }
        full(x, "an eighth lid", () -> x.lid(1, 1, 5));
        bad(x, "a wrong eighth lid", () -> x.lid(6, 1, 5));
    }

    private static void put() {
        LidForEach x = withLids(boxes(0, 4, 10, 0, 4, 3), 0, 0, 4, 0, 0, 4, 0, 1, 4);
        int[][] wrongOnes = {{-1, 0}, {3, 0}, {0, -1}, {0, 2}, {MAX, 0}, {0, MIN}};
        for (int[] w : wrongOnes) {
            bad(x, "a wrong put", () -> x.put(w[0], w[1]));
        }
        no(x, "put of what does not fit", () -> x.put(2, 0));
        due("put(0, 1)", x.put(0, 1), 1);
        due("on(1)", x.on(1), 0);
        due("on(0)", x.on(0), -1);
        due("count(2)", x.count(2), 1);
        no(x, "put of a lid that is on this one", () -> x.put(0, 1));
        no(x, "put of a lid that is on another", () -> x.put(0, 0));
        no(x, "put on a box that has one", () -> x.put(1, 1));
        due("put(1, 0)", x.put(1, 0), 1);
        due("count(2)", x.count(2), 2);
    }

    private static void off() {
        LidForEach x = withLids(boxes(0, 4, 10, 0, 4, 3), 0, 0, 4, 0, 0, 4);
        bad(x, "off(-1)", () -> x.off(-1));
        bad(x, "off(2)", () -> x.off(2));
        no(x, "off(0)", () -> x.off(0));
        x.put(0, 1);
        no(x, "off(1)", () -> x.off(1));
        due("off(0)", x.off(0), 1);
        due("on(1)", x.on(1), -1);
        no(x, "off(0) again", () -> x.off(0));
        due("put(0, 0)", x.put(0, 0), 1);
        due("off(0)", x.off(0), 0);
    }

    private static void undo() {
        LidForEach x = withLids(boxes(0, 4, 10, 0, 4, 3), 0, 0, 4, 0, 0, 4);
        no(x, "undo()", () -> x.undo());
        x.put(0, 1);
        x.off(0);
        x.put(0, 0);
        no(x, "put(0, 1)", () -> x.put(0, 1));
        due("count(6)", x.count(6), 3);
        due("undo()", x.undo(), 1);
        due("on(0)", x.on(0), -1);
        due("undo()", x.undo(), 1);
        due("on(1)", x.on(1), 0);
        due("undo()", x.undo(), 1);
        due("on(1)", x.on(1), -1);
        no(x, "undo()", () -> x.undo());
        // of thirteen, the first one is past undoing
        for (int i = 0; i < 13; i++) {
            due("put or off", i % 2 == 0 ? x.put(1, 0) : x.off(1), i % 2 == 0 ? 1 : 0);
        }
        due("count(6)", x.count(6), 12);
        for (int i = 12; i > 0; i--) {
            due("on(0)", x.on(0), i % 2 == 0 ? 1 : -1);
            due("undo()", x.undo(), 1);
        }
        due("on(0)", x.on(0), 1);
        no(x, "undo()", () -> x.undo());
        x.off(1);
        bad(x, "box(3, 1, 1)", () -> x.box(3, 1, 1));
        due("count(6) behind a refused box", x.count(6), 1);
        x.box(1, 1, 1);
        due("count(6) behind a box", x.count(6), 0);
        no(x, "undo() behind a box", () -> x.undo());
        x.put(1, 0);
        x.lid(0, 0, 1);
        due("count(6) behind a lid", x.count(6), 0);
        due("on(0) behind a lid", x.on(0), 1);
        x.grasp(0, 3);
        x.off(1);
        x.sort(0, 0, 4, 9);
        x.grasp(0, 4);
        due("undo() behind a sort", x.undo(), 1);
        due("on(0)", x.on(0), 1);
        due("grasp(0, 1)", x.grasp(0, 1), 4);
    }

    private static void on() {
        LidForEach x = withLids(boxes(0, 4, 10), 0, 0, 4, 0, 0, 4);
        due("on(0)", x.on(0), LidForEach.NONE);
        x.put(1, 0);
        due("on(0)", x.on(0), 1);
        for (int w : new int[] {-1, 1, 7, MAX, MIN}) {
            bad10(x, "on(" + w + ")", () -> x.on(w));
        }
    }

    private static void grasp() {
        LidForEach x = boxes(0, 4, 10, 1, 1, 1);
        due("grasp(0, 9)", x.grasp(0, 9), 1);
        due("grasp(0, 0)", x.grasp(0, 0), 9);
        due("grasp(0, 3)", x.grasp(0, 3), 0);
        due("grasp(1, 3)", x.grasp(1, 3), 1);
        int[][] wrongOnes = {{-1, 1}, {2, 1}, {0, -1}, {0, 10}, {MAX, 1}, {0, MIN}};
        for (int[] w : wrongOnes) {
            bad(x, "a wrong grasp", () -> x.grasp(w[0], w[1]));
        }
    }

    private static void sort() {
        LidForEach x = new LidForEach();
        int[][] wrongOnes = {{-1, 0, 1, 1}, {6, 0, 1, 1}, {0, -1, 1, 1}, {0, 3, 1, 1}, {0, 0, 0, 1}, {0, 0, 10, 1},
            {0, 0, 1, 0}, {0, 0, 1, 51}, {0, 0, 1, MAX}, {0, 0, 1, MIN}, {MAX, 0, 1, 1}};
        for (int[] w : wrongOnes) {
            bad(x, "a wrong sort", () -> x.sort(w[0], w[1], w[2], w[3]));
        }
        for (int i = 0; i < 4; i++) {
            due("sort(5, 2, 9, 50)", x.sort(5, 2, 9, i == 0 ? 1 : 50), i);
        }
        full(x, "a fifth sort", () -> x.sort(5, 2, 9, 50));
        bad(x, "a wrong fifth sort", () -> x.sort(5, 2, 9, 51));
        due("count(3)", x.count(3), 4);
        due("forget(2)", x.forget(2), 4);
        due("sort(0, 0, 1, 1)", x.sort(0, 0, 1, 1), 0);
    }

    private static void eye() {
        LidForEach x = withLids(new LidForEach(), 0, 0, 4, 0, 0, 4);
        due("eye(0, 10)", x.eye(0, 10), 5);
        due("eye(0, 0)", x.eye(0, 0), 10);
        due("eye(0, 7)", x.eye(0, 7), 0);
        due("eye(1, 7)", x.eye(1, 7), 5);
        int[][] wrongOnes = {{-1, 1}, {2, 1}, {0, -1}, {0, 11}, {MIN, 1}, {0, MAX}};
        for (int[] w : wrongOnes) {
            bad(x, "a wrong eye", () -> x.eye(w[0], w[1]));
        }
    }

    private static void typeAndClear() {
        LidForEach x = new LidForEach();
        atPromise(12);
        due("clear()", x.clear(), 0);
        atPromise(11);
        bad(x, "type(-1)", () -> x.type(-1));
        bad(x, "type(128)", () -> x.type(128));
        for (int i = 1; i <= 150; i++) {
            due("type", x.type(i % 128), i);
        }
        full(x, "type(0)", () -> x.type(0));
        bad(x, "type(128) behind a full text", () -> x.type(128));
        due("count(7)", x.count(7), 150);
        atPromise(12);
        due("clear()", x.clear(), 150);
        due("count(7)", x.count(7), 0);
        due("clear()", x.clear(), 0);
        atPromise(11);
        due("type(127)", x.type(127), 1);
    }

    private static void read() {
        LidForEach x = new LidForEach();
        reads(x, "box 0 4 10; box 1 3 0;lid 2 0 4 ;lid 0 1 3;on 1 1;grasp 0 9;sort 5 2 9 50;", 7);
        due("count(7): the text stays", x.count(7), 74);
        due("on(1)", x.on(1), 1);
        due("on(0)", x.on(0), -1);
        due("grasp(0, 1)", x.grasp(0, 1), 9);
        due("grasp(1, 1)", x.grasp(1, 1), 1);
        due("eye(0, 3)", x.eye(0, 3), 5);
        due("count(3)", x.count(3), 1);
        due("count(6)", x.count(6), 1);
        x.lend(0, 1, 2);
        x.hint(0, 0, 1);
        x.image(0);
        x.nuts(3, 2);
        // told anew by these alone
        reads(x, "lid 2 0 4;", 1);
        int[] counts = {0, 1, 0, 0, 0, 0, 0, 10};
        for (int what = 0; what < 8; what++) {
            due("count(" + what + ")", x.count(what), counts[what]);
        }
        due("eye(0, 5)", x.eye(0, 5), 5);
        due("part(0)", x.part(0), 8);
        due("from(0)", x.from(0), 1);
        due("count(4)", x.count(4), 1);
        x.clear();
        due("read() of nothing", x.read(), 0);
        due("count(0)", x.count(0), 0);
        due("count(4)", x.count(4), 0);
        reads(x, "box 0 1 0;box 0 2 0;lid 0 0 1;on 0 0;box 0 3 0;", 5);
        due("count(6)", x.count(6), 0);
        due("on(0)", x.on(0), 0);
        reads(x, "   ", 0);
        reads(x, " box0 02 09;", 1);
        due("digest() of digits", x.digest(), boxDigest(0, 2, 9, 12));
    }

    private static long boxDigest(int form, int size, int holds, int bytes) {
        long h = 857;
        for (long v : new long[] {1, 0, 0, 0, 0, 0, 0, bytes, form, size, holds, 1, -1, 8, 3}) {
            h = 31 * h + v;
        }
        return h;
    }

    private static void readFaults() {
        LidForEach x = boxes(0, 1, 1);
        String[] texts = {"b", "box", "boxes 0 1 1;", "box 0 1", "box 0 1 ", "box 0 1 1", "box 0 1 1 ", "box 0 1;",
            "box 0 1 1 1;", "box 0 lid 1;", "; box 0 1 1;", "box 0 1 1;;", "0 box;", "box 0 1 100;", "box 0 1 010;",
            "box 0 1 1;lad 0 0 1;", "Box 0 1 1;", "box 0 1 1;\t", "box 0,1 1;", "on 0 0 0;", "on 0;", "sort 0 0 1;",
            "grasp 0 1 1;", "box 0 1 1;box 9 9 99;lid", "box 0 1 1; on", "box 3 1 1;box 0 1 1", "box 0 1 1;0", "box 0 1 -1;"};
        int[] faults = {0, 3, 0, 7, 8, 9, 10, 7, 10, 6, 0, 10, 0, 8, 8, 10, 0, 10, 5, 7, 4, 10, 10, 24, 13, 19, 10, 8};
        for (int i = 0; i < texts.length; i++) {
            write(x, texts[i]);
            quiet(x, "read() of '" + texts[i] + "'", () -> x.read(), -10 - faults[i]);
        }
        String[] refusedOnes = {"box 3 1 1;", "box 0 1 1;lid 6 0 1;", "box 0 1 21;box 9 9 9;", "box 0 1 1;lid 0 1 1;on 0 0;",
            "box 0 1 1;grasp 0 10;", "box 0 1 1;grasp 1 1;", "sort 0 0 1 51;", "lid 0 0 1;on 0 0;box 0 1 1;",
            "box 0 1 1;box 0 1 1;box 0 1 1;box 0 1 1;box 0 1 1;box 0 1 1;box 0 1 1;box 0 1 1;",
            "sort 0 0 1 1;sort 0 0 1 1;sort 0 0 1 1;sort 0 0 1 1;sort 0 0 1 1;"};
        int[] items = {0, 1, 0, 2, 1, 1, 0, 1, 7, 4};
        for (int i = 0; i < refusedOnes.length; i++) {
            write(x, refusedOnes[i]);
            quiet(x, "read() of '" + refusedOnes[i] + "'", () -> x.read(), -1000 - items[i]);
        }
        x.clear();
        for (int i = 0; i < 150; i++) {
            x.type(i % 10 == 9 ? ';' : "on 0 0   ".charAt(i % 10));
        }
        quiet(x, "read() of a full text", () -> x.read(), -1000);
    }

    private static void fits() {
        // every kind of form 1, size 4 against every box about it
        int[][] fittingBoxes = {{1, 4}, {1, 4, 1, 3}, {1, 4, 1, 3, 0, 4, 2, 4}, {1, 4}, {1, 4, 0, 3},
            {1, 4, 1, 3, 0, 4, 2, 4, 0, 3, 2, 3, 0, 1, 1, 1, 2, 2}};
        for (int kind = 0; kind <= 5; kind++) {
            for (int form = 0; form <= 2; form++) {
                for (int size = 1; size <= 5; size++) {
                    LidForEach x = withLids(boxes(form, size, 9), 3, 2, 9, kind, 1, 4);
                    due("fits(0), kind " + kind + ", box " + form + " " + size, x.fits(0),
                        fitsByList(fittingBoxes[kind], kind, form, size) ? 2 : 0);
                }
            }
        }
        LidForEach full = withLids(boxes(0, 4, 10, 0, 4, 9, 0, 4, 0, 0, 4, 20), 3, 0, 4, 4, 0, 5);
        due("fits(0)", full.fits(0), 2);
        due("fits(1)", full.fits(1), 3);
        due("fits(2)", full.fits(2), 3);
        due("fits(3)", full.fits(3), 2);
        for (int w : new int[] {-1, 4, 7, MAX, MIN}) {
            bad(full, "fits(" + w + ")", () -> full.fits(w));
        }
    }

    private static boolean fitsByList(int[] list, int kind, int form, int size) {
        if (kind == 5 && size < 4) {
            return true;
        }
        for (int i = 0; i + 1 < list.length; i += 2) {
            if (list[i] == form && list[i + 1] == size) {
                return true;
            }
        }
        return false;
    }

    private static void most() {
        LidForEach x = withLids(boxes(0, 4, 1, 0, 3, 1, 1, 9, 1), 1, 0, 4, 0, 0, 4);
        due("most(-1)", x.most(-1), 2);
        due("most(0)", x.most(0), 1);
        due("most(1)", x.most(1), 0);
        due("most(2)", x.most(2), -1);
        LidForEach few = withLids(boxes(0, 4, 1, 0, 4, 1), 0, 0, 4);
        due("most(-1)", few.most(-1), 1);
        due("most(0): none is behind all", few.most(0), 0);
        due("most(1)", few.most(1), -1);
        few.put(0, 1);
        due("most(0) asks not what is on", few.most(0), 0);
        for (int w : new int[] {-2, 2, 7, MAX, MIN}) {
            bad10(few, "most(" + w + ")", () -> few.most(w));
        }
        LidForEach seven = new LidForEach();
        for (int i = 0; i < 7; i++) {
            seven.box(i % 3, 1 + i, i);
            seven.lid(5, 0, 9 - i);
        }
        due("most(-1)", seven.most(-1), 7);
        int[] row = {2, 1, 4, 3, 5, 0};
        LidForEach chain = withLids(boxes(0, 7, 0, 0, 8, 0, 0, 5, 0, 0, 6, 0, 0, 4, 0, 0, 9, 0),
            5, 0, 9, 5, 0, 8, 5, 0, 7, 5, 0, 6, 5, 0, 5, 5, 0, 4, 0, 1, 1);
        for (int i = 0; i < 6; i++) {
            due("most(" + i + ")", chain.most(i), row[i]);
        }
    }

    private static void lacking() {
        LidForEach x = boxes(0, 4, 1, 0, 4, 1, 1, 2, 1, 2, 2, 2);
        due("lacking() without lids", x.lacking(), 15);
        withLids(x, 0, 0, 4, 0, 1, 2);
        due("lacking()", x.lacking(), 11);
        withLids(x, 0, 2, 2);
        due("lacking()", x.lacking(), 3);
        withLids(x, 0, 0, 4);
        due("lacking()", x.lacking(), 0);
        LidForEach alike = withLids(boxes(0, 4, 1, 1, 2, 1, 0, 4, 1, 1, 2, 1), 0, 0, 4, 0, 1, 2, 0, 0, 4);
        due("lacking(): fewest boxes", alike.lacking(), 10);
        due("lacking() of none", new LidForEach().lacking(), 0);
    }

    private static void soup() {
        LidForEach x = withLids(boxes(0, 4, 10, 0, 4, 10, 1, 8, 20, 2, 1, 20), 0, 0, 4, 0, 0, 4, 0, 1, 8);
        due("soup(0, 0)", x.soup(0, 0), 0);
        due("soup(0, 1)", x.soup(0, 1), 0);
        due("soup(10, 0)", x.soup(10, 0), 4);
        due("soup(10, 1): the least set", x.soup(10, 1), 1);
        due("soup(11, 0)", x.soup(11, 0), 8);
        due("soup(20, 1): of like ones the least", x.soup(20, 1), 3);
        due("soup(21, 1)", x.soup(21, 1), 5);
        due("soup(40, 0)", x.soup(40, 0), 16);
        due("soup(41, 0)", x.soup(41, 0), -1);
        due("soup(99, 1)", x.soup(99, 1), -1);
        LidForEach one = withLids(boxes(0, 4, 10, 0, 3, 10), 1, 0, 4);
        due("soup(10, 1): one lid for either", one.soup(10, 1), 2);
        due("soup(20, 0): no lid on two", one.soup(20, 0), -1);
        int[][] wrongOnes = {{-1, 0}, {100, 0}, {0, -1}, {0, 2}, {MAX, 1}, {1, MIN}};
        for (int[] w : wrongOnes) {
            bad10(x, "a wrong soup", () -> x.soup(w[0], w[1]));
        }
    }

    private static void muchWorthSpare() {
        LidForEach x = withLids(boxes(0, 4, 10, 0, 3, 15, 2, 2, 7), 1, 0, 4, 0, 0, 4, 0, 1, 9);
        atPromise(18);
        due("much()", x.much(), 25);
        atPromise(19);
        due("worth(0)", x.worth(0), 15);
        due("worth(1)", x.worth(1), 10);
        due("worth(2)", x.worth(2), 0);
        for (int w : new int[] {-1, 3, 7, MAX, MIN}) {
            bad(x, "worth(" + w + ")", () -> x.worth(w));
        }
        atPromise(20);
        due("spare()", x.spare(), 4);
        x.lid(5, 2, 9);
        due("spare() with one for all", x.spare(), 4);
        x.lid(5, 2, 9);
        due("spare() with two for all", x.spare(), 31);
        due("spare() without lids", new LidForEach().spare(), 0);
        atPromise(18);
        due("much()", x.much(), 32);
        due("much() without boxes", new LidForEach().much(), 0);
        due("much() asks for what is held, not how many", withLids(boxes(0, 4, 1, 0, 3, 20), 1, 0, 4).much(), 20);
    }

    private static void piles() {
        LidForEach x = boxes(0, 1, 0, 0, 2, 0, 0, 3, 0, 2, 3, 0, 1, 9, 0, 1, 9, 0, 0, 3, 0);
        due("piles(-1)", x.piles(-1), 5);
        int[] row = {1, 2, -1, -1, -1, -1, -1};
        for (int box = 0; box < 7; box++) {
            due("piles(" + box + ")", x.piles(box), row[box]);
        }
        LidForEach forms = boxes(2, 1, 0, 0, 2, 0, 1, 3, 0);
        due("piles(-1): only round into square", forms.piles(-1), 3);
        forms.box(2, 3, 0);
        due("piles(-1)", forms.piles(-1), 3);
        due("piles(0): the first row", forms.piles(0), 3);
        due("piles(1)", forms.piles(1), -1);
        for (int w : new int[] {-2, 4, 7, MAX, MIN}) {
            bad10(forms, "piles(" + w + ")", () -> forms.piles(w));
        }
        due("piles(-1) of none", new LidForEach().piles(-1), 0);
        due("piles(-1) of like ones", boxes(0, 3, 0, 0, 3, 0).piles(-1), 2);
    }

    private static void shelf() {
        LidForEach x = boxes(0, 1, 0, 0, 2, 0, 0, 3, 0);
        due("shelf(-1)", x.shelf(-1), 6);
        due("shelf(0)", x.shelf(0), 0);
        x.grasp(2, 9);
        x.grasp(0, 0);
        due("shelf(-1)", x.shelf(-1), 11);
        due("shelf(0)", x.shelf(0), 2);
        due("shelf(1)", x.shelf(1), 1);
        due("shelf(2)", x.shelf(2), 0);
        x.grasp(1, 9);
        due("shelf(0): of like ones the first", x.shelf(0), 1);
        due("shelf(1)", x.shelf(1), 2);
        for (int p : new int[] {3, 7, 100, MAX}) {
            quiet(x, "shelf(" + p + ")", () -> x.shelf(p), -5);
        }
        bad10(x, "shelf(-2)", () -> x.shelf(-2));
        bad10(x, "shelf(MIN)", () -> x.shelf(MIN));
    }

    private static void buy() {
        LidForEach x = withLids(boxes(0, 4, 1, 0, 3, 1, 0, 4, 1), 0, 0, 4);
        due("buy(-1) without sorts", x.buy(-1), -1);
        x.sort(1, 0, 4, 6);
        due("buy(-1)", x.buy(-1), 12);
        due("buy(0)", x.buy(0), 2);
        x.sort(0, 0, 3, 6);
        due("buy(-1)", x.buy(-1), 12);
        due("buy(0): fewest of the first", x.buy(0), 1);
        due("buy(1)", x.buy(1), 1);
        x.sort(0, 0, 4, 50);
        due("buy(2)", x.buy(2), 0);
        x.sort(5, 2, 9, 5);
        due("buy(-1)", x.buy(-1), 10);
        due("buy(3)", x.buy(3), 2);
        due("buy(0)", x.buy(0), 0);
        for (int w : new int[] {-2, 4, MAX, MIN}) {
            bad10(x, "buy(" + w + ")", () -> x.buy(w));
        }
        x.forget(2);
        x.sort(0, 1, 1, 1);
        due("buy(-1): none", x.buy(-1), -1);
        due("buy(0): none", x.buy(0), -1);
        bad10(x, "buy(1)", () -> x.buy(1));
        LidForEach save = withLids(boxes(0, 4, 1, 0, 3, 1), 1, 0, 4);
        save.sort(0, 0, 4, 7);
        save.sort(0, 0, 3, 3);
        due("buy(-1): the lid goes where more is saved", save.buy(-1), 3);
        due("buy(0)", save.buy(0), 0);
        LidForEach seven = new LidForEach();
        for (int i = 0; i < 7; i++) {
            seven.box(0, 9, 0);
        }
        seven.sort(0, 0, 9, 50);
        due("buy(-1) for seven", seven.buy(-1), 350);
        due("buy(0) for seven", seven.buy(0), 7);
    }

    private static void tries() {
        LidForEach x = new LidForEach();
        x.nuts(3, 2);
        due("tries(-1) without lids", x.tries(-1), 1);
        fraction(x, 0, 1);
        withLids(x, 0, 0, 1);
        due("tries(-1)", x.tries(-1), 1);
        fraction(x, 1, 1);
        withLids(x, 0, 0, 1, 0, 0, 1);
        due("tries(-1)", x.tries(-1), 1);
        fraction(x, 7, 4);
        x.eye(1, 8);
        x.eye(2, 8);
        int[] order = {1, 2, 0};
        for (int i = 0; i < 3; i++) {
            due("tries(" + i + ")", x.tries(i), order[i]);
        }
        fraction(x, 7, 4);
        due("tries(-1)", x.tries(-1), 1);
        fraction(x, 31, 25);
        x.eye(0, 9);
        x.eye(2, 10);
        int[] sure = {2, 0, 1};
        for (int i = 0; i < 3; i++) {
            due("tries(" + i + ") with a sure one", x.tries(i), sure[i]);
        }
        x.eye(1, 10);
        due("tries(0) with two sure ones", x.tries(0), 1);
        due("tries(1)", x.tries(1), 0);
        x.tries(-1);
        fraction(x, 1, 1);
        for (int i : new int[] {3, 7, MAX}) {
            quiet(x, "tries(" + i + ")", () -> x.tries(i), -5);
        }
        bad10(x, "tries(-2)", () -> x.tries(-2));
        bad10(x, "tries(MIN)", () -> x.tries(MIN));
        LidForEach seven = new LidForEach();
        for (int i = 0; i < 7; i++) {
            seven.lid(0, 0, 1);
            seven.eye(i, 1);
        }
        seven.tries(-1);
        fraction(seven, 5217031, 1000000);
        for (int i = 0; i < 7; i++) {
            seven.eye(i, 0);
        }
        seven.tries(-1);
        fraction(seven, 7, 1);
    }

    private static void nuts() {
        LidForEach x = new LidForEach();
        int[] ways = {1, 2, 6, 24, 120, 720};
        int[] worst = {0, 1, 3, 6, 10, 15};
        // 8/3 + 9/4 = 59/12, + 14/5 = 463/60, + 10/3 = 221/20
        int[] above = {0, 1, 8, 59, 463, 221};
        int[] below = {1, 1, 3, 12, 60, 20};
        for (int n = 1; n <= 6; n++) {
            due("nuts(" + n + ", 0)", x.nuts(n, 0), ways[n - 1]);
            due("nuts(" + n + ", 1)", x.nuts(n, 1), worst[n - 1]);
            due("nuts(" + n + ", 2)", x.nuts(n, 2), 1);
            fraction(x, above[n - 1], below[n - 1]);
        }
        x.nuts(3, 2);
        x.nuts(4, 0);
        x.nuts(4, 1);
        fraction(x, 8, 3);
        int[][] wrongOnes = {{0, 0}, {7, 0}, {1, -1}, {1, 3}, {MAX, 2}, {3, MIN}};
        for (int[] w : wrongOnes) {
            bad(x, "wrong nuts", () -> x.nuts(w[0], w[1]));
        }
    }

    private static void tales() {
        LidForEach x = withLids(new LidForEach(), 0, 0, 1, 0, 0, 1);
        atPromise(28);
        due("wrong()", x.wrong(), -1);
        atPromise(27);
        due("has(0)", x.has(0), 0);
        atPromise(26);
        int[][] wrongOnes = {{-1, 0, 1}, {5, 0, 1}, {0, -1, 1}, {0, 2, 1}, {0, 0, -1}, {0, 0, 5}, {2, 0, 2}, {MAX, 0, MIN}};
        for (int[] w : wrongOnes) {
            bad(x, "a wrong tale", () -> x.lend(w[0], w[1], w[2]));
        }
        due("lend(0, 0, 4)", x.lend(0, 0, 4), 0);
        due("lend(4, 0, 1)", x.lend(4, 0, 1), 1);
        atPromise(27);
        due("has(0)", x.has(0), 1);
        due("has(1)", x.has(1), 0);
        atPromise(28);
        due("wrong()", x.wrong(), -1);
        atPromise(26);
        due("lend(2, 1, 3)", x.lend(2, 1, 3), 2);
        due("lend(3, 1, 4)", x.lend(3, 1, 4), 3);
        due("lend(1, 0, 0)", x.lend(1, 0, 0), 4);
        atPromise(28);
        due("wrong()", x.wrong(), 2);
        atPromise(27);
        due("has(1)", x.has(1), 0);
        due("has(0)", x.has(0), 0);
        for (int w : new int[] {-1, 2, MAX, MIN}) {
            bad(x, "has(" + w + ")", () -> x.has(w));
        }
        atPromise(26);
        for (int i = 5; i < 8; i++) {
            due("lend(0, 0, 1)", x.lend(0, 0, 1), i);
        }
        full(x, "a ninth tale", () -> x.lend(0, 0, 1));
        bad(x, "a wrong ninth tale", () -> x.lend(0, 0, 0));
        due("count(4)", x.count(4), 8);
    }

    private static void hint() {
        LidForEach x = boxes(0, 1, 0, 0, 2, 0);
        int[][] wrongOnes = {{-1, 0, 0}, {4, 0, 0}, {0, -1, 0}, {0, 2, 0}, {1, 0, -1}, {1, 0, 2}, {2, 0, 2}, {3, 2, 0}, {MAX, MIN, 0}};
        for (int[] w : wrongOnes) {
            bad(x, "a wrong hint", () -> x.hint(w[0], w[1], w[2]));
        }
        for (int i = 0; i < 8; i++) {
            due("hint", x.hint(i % 4, i % 2, 1), i);
        }
        full(x, "a ninth hint", () -> x.hint(0, 0, 0));
        bad(x, "a wrong ninth hint", () -> x.hint(0, 0, 2));
        due("count(5)", x.count(5), 8);
        LidForEach none = new LidForEach();
        bad(none, "hint(0, 0, 0) without boxes", () -> none.hint(0, 0, 0));
    }

    private static void forget() {
        LidForEach x = withLids(boxes(0, 1, 0), 0, 0, 1);
        x.lend(0, 0, 1);
        x.lend(1, 0, 2);
        x.hint(0, 0, 0);
        x.sort(0, 0, 1, 1);
        x.sort(0, 0, 1, 2);
        x.sort(0, 0, 1, 3);
        bad(x, "forget(-1)", () -> x.forget(-1));
        bad(x, "forget(3)", () -> x.forget(3));
        due("forget(0)", x.forget(0), 2);
        due("has(0)", x.has(0), 0);
        due("count(5)", x.count(5), 1);
        due("forget(1)", x.forget(1), 1);
        due("count(3)", x.count(3), 3);
        due("forget(2)", x.forget(2), 3);
        due("forget(2)", x.forget(2), 0);
        due("count(0)", x.count(0), 1);
        due("lend(0, 0, 1)", x.lend(0, 0, 1), 0);
    }

    private static void labels() {
        LidForEach none = new LidForEach();
        due("labels(0, 0) without boxes", none.labels(0, 0), 1);
        due("labels(0, 2) without boxes", none.labels(0, 2), -1);
        bad10(none, "labels(0, 1) without boxes", () -> none.labels(0, 1));
        LidForEach x = boxes(0, 3, 0, 0, 3, 0, 0, 5, 0, 0, 1, 0);
        due("labels(0, 0)", x.labels(0, 0), 24);
        x.hint(1, 0, 0);
        due("labels(0, 0)", x.labels(0, 0), 18);
        due("labels(0, 1)", x.labels(0, 1), 14);
        due("labels(0, 2)", x.labels(0, 2), 0);
        x.hint(2, 0, 1);
        due("labels(0, 0): in a lesser box by number", x.labels(0, 0), 6);
        due("labels(0, 1)", x.labels(0, 1), 6);
        due("labels(1, 1)", x.labels(1, 1), 12);
        due("labels(0, 2): the worst are 3, 4, 2, 4", x.labels(0, 2), 2);
        x.hint(3, 2, 3);
        due("labels(0, 0): in a smaller box", x.labels(0, 0), 2);
        due("labels(2, 1)", x.labels(2, 1), 9);
        x.forget(1);
        x.hint(0, 3, 2);
        due("labels(3, 1)", x.labels(3, 1), 4);
        due("labels(0, 0)", x.labels(0, 0), 6);
        x.hint(2, 1, 1);
        due("labels(0, 0): before itself", x.labels(0, 0), 0);
        due("labels(3, 1)", x.labels(3, 1), 0);
        due("labels(0, 2)", x.labels(0, 2), -1);
        x.forget(1);
        x.hint(3, 1, 1);
        due("labels(0, 0): smaller than itself", x.labels(0, 0), 0);
        int[][] wrongOnes = {{1, 0}, {1, 2}, {-1, 0}, {-1, 1}, {4, 1}, {0, -1}, {0, 3}, {MAX, 1}, {0, MIN}};
        for (int[] w : wrongOnes) {
            bad10(x, "wrong labels", () -> x.labels(w[0], w[1]));
        }
        LidForEach seven = new LidForEach();
        for (int i = 0; i < 7; i++) {
            seven.box(0, 1, 0);
        }
        due("labels(0, 0) of seven", seven.labels(0, 0), 5040);
        due("labels(6, 1) of seven", seven.labels(6, 1), 127);
    }

    private static void evening() {
        LidForEach none = new LidForEach();
        no(none, "evening(0, 0)", () -> none.evening(0, 0));
        bad(none, "evening(61, 0)", () -> none.evening(61, 0));
        LidForEach x = withLids(boxes(0, 4, 0, 0, 4, 0, 0, 4, 0, 0, 4, 0, 0, 4, 0), 0, 0, 4, 0, 0, 4);
        due("evening(60, 0)", x.evening(60, 0), 3);
        due("evening(0, 999999)", x.evening(0, 999999), 0);
        int[] seeds = {0, 7, 123456, 999999};
        for (int seed : seeds) {
            for (int n = 0; n <= 60; n += 3) {
                due("evening(" + n + ", " + seed + ")", x.evening(n, seed), Math.max(0, drawnOf(5, n, seed) - 2));
            }
        }
        x.put(1, 4);
        due("evening(60, 0) asks not what is on", x.evening(60, 0), 3);
        int[][] wrongOnes = {{-1, 0}, {61, 0}, {0, -1}, {0, 1000000}, {MAX, 0}, {0, MIN}};
        for (int[] w : wrongOnes) {
            bad(x, "a wrong evening", () -> x.evening(w[0], w[1]));
        }
        // a wide lid taken for the first box is missing on the smaller one
        LidForEach order = withLids(boxes(0, 4, 0, 0, 3, 0), 1, 0, 4, 0, 0, 4);
        for (int seed = 0; seed < 50; seed++) {
            int first = firstDrawn(2, seed);
            due("evening(60, " + seed + ")", order.evening(60, seed), first == 0 ? 1 : 0);
        }
    }

    private static int drawnOf(int boxes, int n, int seed) {
        long x = seed;
        java.util.BitSet drawn = new java.util.BitSet();
        for (int i = 0; i < n; i++) {
            x = (x * 1103515245L + 12345L) & 0x7fffffffL;
            drawn.set((int) ((x >> 16) % boxes));
        }
        return drawn.cardinality();
    }

    private static int firstDrawn(int boxes, int seed) {
        return (int) ((((seed * 1103515245L + 12345L) & 0x7fffffffL) >> 16) % boxes);
    }

    private static void part() {
        LidForEach x = new LidForEach();
        fraction(x, 0, 1);
        x.nuts(5, 2);
        fraction(x, 463, 60);
        bad(x, "part(-1)", () -> x.part(-1));
        bad(x, "part(2)", () -> x.part(2));
        bad(x, "part(MAX)", () -> x.part(MAX));
    }

    private static void images() {
        LidForEach x = withLids(boxes(0, 4, 1), 0, 0, 4);
        atPromise(34);
        for (int w : new int[] {-1, 2, MAX, MIN}) {
            bad(x, "image(" + w + ")", () -> x.image(w));
        }
        atPromise(35);
        no(x, "from(0)", () -> x.from(0));
        atPromise(34);
        x.put(0, 0);
        x.grasp(0, 7);
        x.eye(0, 9);
        x.sort(0, 0, 4, 3);
        x.lend(0, 0, 1);
        x.hint(0, 0, 0);
        long kept = x.digest();
        due("image(0)", x.image(0), 1);
        atPromise(35);
        no(x, "from(1)", () -> x.from(1));
        for (int w : new int[] {-1, 2, MAX, MIN}) {
            bad(x, "from(" + w + ")", () -> x.from(w));
        }
        x.box(1, 1, 1);
        x.lid(1, 1, 1);
        x.off(0);
        x.forget(0);
        x.forget(1);
        x.forget(2);
        x.grasp(0, 1);
        x.eye(0, 1);
        due("image(1)", x.image(1), 1);
        due("from(0)", x.from(0), 1);
        due("digest()", x.digest(), kept);
        due("count(6): what may be undone is kept", x.count(6), 1);
        due("undo()", x.undo(), 1);
        due("on(0)", x.on(0), -1);
        due("from(0) again", x.from(0), 1);
        due("on(0)", x.on(0), 0);
        due("from(1)", x.from(1), 1);
        due("count(0)", x.count(0), 2);
        due("count(6)", x.count(6), 1);
        // the text, the fraction and status stay as they are
        x.type(65);
        x.nuts(3, 2);
        int refusals = x.status(0);
        due("from(0)", x.from(0), 1);
        due("count(7)", x.count(7), 1);
        fraction(x, 8, 3);
        due("status(0)", x.status(0), refusals);
        due("from(1): the other image is kept yet", x.from(1), 1);
        due("image(0) anew", x.image(0), 1);
        x.box(0, 1, 1);
        due("from(0)", x.from(0), 1);
        due("count(0)", x.count(0), 2);
    }

    private static void status() {
        LidForEach x = new LidForEach();
        for (int w : new int[] {-1, 3, MAX, MIN}) {
            badAs(x, "status(" + w + ")", () -> x.status(w), -1);
        }
        due("status(0)", x.status(0), 4);
        x.on(0);
        x.undo();
        x.shelf(3);
        x.tries(3);
        x.buy(-1);
        x.soup(1, 0);
        due("status(0)", x.status(0), 5);
        due("status(1)", x.status(1), 1);
        due("status(2)", x.status(2), 0);
        for (int i = 0; i < 9; i++) {
            x.box(0, 1, 1);
        }
        due("status(2)", x.status(2), 2);
    }

    private static void count() {
        LidForEach x = withLids(boxes(0, 4, 1, 0, 4, 1), 0, 0, 4, 0, 0, 4, 0, 0, 4);
        x.put(0, 0);
        x.put(1, 1);
        x.off(0);
        x.sort(0, 0, 1, 1);
        for (int i = 0; i < 4; i++) {
            x.lend(0, 0, 1);
        }
        for (int i = 0; i < 5; i++) {
            x.hint(0, 0, 1);
        }
        for (int i = 0; i < 7; i++) {
            x.type(i);
        }
        int[] counts = {2, 3, 1, 1, 4, 5, 3, 7};
        for (int what = 0; what < 8; what++) {
            due("count(" + what + ")", x.count(what), counts[what]);
        }
        for (int w : new int[] {-1, 8, MAX, MIN}) {
            bad(x, "count(" + w + ")", () -> x.count(w));
        }
    }

    private static void digest() {
        LidForEach x = somethingOfAll();
        x.type(9);
        x.nuts(3, 2);
        long h = 857;
        for (long v : new long[] {2, 2, 1, 1, 1, 1, 1, 1, 0, 4, 1, 1, 1, 2, 9, 20, 6, -1, 0, 0, 4, 3, 5, 2, 9, 5,
            1, 2, 3, 44, 0, 1, 4, 3, 1, 0, 8, 3}) {
            h = 31 * h + v;
        }
        quiet(x, "digest()", () -> x.digest(), h);
    }

    private static void constants() {
        due("NONE", LidForEach.NONE, -1);
        due("BAD", LidForEach.BAD, -2);
        due("NO", LidForEach.NO, -3);
        due("FULL", LidForEach.FULL, -4);
    }

    private static void atPromise(int number) {
        at("promise " + number);
    }

    private static void at(int number, Runnable test) {
        atPromise(number);
        test.run();
    }

    public static void main(String[] args) {
        constants();
        at(1, PromiseTests::newObject);
        at(2, PromiseTests::box);
        at(3, PromiseTests::lid);
        at(4, PromiseTests::put);
        at(5, PromiseTests::off);
        at(6, PromiseTests::undo);
        at(7, PromiseTests::on);
        at(8, PromiseTests::grasp);
        at(9, PromiseTests::sort);
        at(10, PromiseTests::eye);
        at(11, PromiseTests::typeAndClear);
        at(13, PromiseTests::read);
        at(13, PromiseTests::readFaults);
        at(14, PromiseTests::fits);
        at(15, PromiseTests::most);
        at(16, PromiseTests::lacking);
        at(17, PromiseTests::soup);
        at(18, PromiseTests::muchWorthSpare);
        at(21, PromiseTests::piles);
        at(22, PromiseTests::shelf);
        at(23, PromiseTests::buy);
        at(24, PromiseTests::tries);
        at(25, PromiseTests::nuts);
        at(26, PromiseTests::tales);
        at(29, PromiseTests::hint);
        at(30, PromiseTests::forget);
        at(31, PromiseTests::labels);
        at(32, PromiseTests::evening);
        at(33, PromiseTests::part);
        at(34, PromiseTests::images);
        at(36, PromiseTests::status);
        at(37, PromiseTests::count);
        at(38, PromiseTests::digest);
        end();
    }
}
