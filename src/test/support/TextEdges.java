/** The text and the cupboard that it tells: promises 11 to 13, and their terms. */
final class TextEdges extends Sentences {
    private TextEdges() {
    }

    static void all() {
        type();
        clear();
        bytesAndItems();
        tokens();
        faults();
        endsTooEarly();
        toldAnew();
        refusedItems();
        read();
    }

    private static void faultAt(int place, String text) {
        readsNothing(text, -10 - place);
    }

    private static void refusedAt(int item, String text) {
        readsNothing(text, -1000 - item);
    }

    /** What is wrong is told, it is no refusal, and nothing changes. */
    private static void readsNothing(String text, int want) {
        LidForEach x = rich();
        write(x, text);
        quiet(x, "read() of '" + text + "'", () -> x.read(), want);
        due("undo() behind '" + text + "'", x.undo(), 1);
        due("from(1) behind '" + text + "'", x.from(1), 1);
    }

    private static LidForEach rich() {
        LidForEach x = somethingOfAll();
        x.image(1);
        x.nuts(3, 2);
        return x;
    }

    private static void readsAs(String text, int items, LidForEach want) {
        LidForEach x = new LidForEach();
        reads(x, text, items);
        for (int i = 0; i < text.length(); i++) {
            want.type(0);
        }
        due("digest() behind '" + text + "'", x.digest(), want.digest());
    }

    private static void type() {
        inPromise(11, "A byte (0 .. 127) comes behind THE TEXT: how many it has.", () -> {
            LidForEach x = new LidForEach();
            due("type(0)", x.type(0), 1);
            due("type(127)", x.type(127), 2);
            due("how many", x.count(7), 2);
            x.clear();
            due("type(0) behind clear()", x.type(0), 1);
            readsAs("box 1 2 3;", 1, boxes(1, 2, 3));
        });
        inPromise(11, "BAD;", () -> {
            LidForEach x = new LidForEach();
            badBeside(x, 0, 127, "type", x::type);
            bad(x, "type(256 and 'b')", () -> x.type(256 + 'b'));
            due("how many", x.count(7), 0);
        });
        inPromise(11, "FULL.", () -> {
            LidForEach x = new LidForEach();
            write(x, "box 0 1 0;".repeat(7) + "lid 0 0 1;".repeat(7) + " ".repeat(10));
            full(x, "type('x') behind 150", () -> x.type('x'));
            full(x, "type(0) behind 150", () -> x.type(0));
            bad(x, "type(128) behind 150", () -> x.type(128));
            bad(x, "type(-1) behind 150", () -> x.type(-1));
            due("read() of what there is", x.read(), 14);
            x.clear();
            due("type(0) behind clear()", x.type(0), 1);
        });
    }

    private static void clear() {
        inPromise(12, "THE TEXT is empty: how many it had.", () -> {
            LidForEach x = boxes(0, 1, 0);
            quiet(x, "clear() of none", () -> x.clear(), 0);
            x.type(65);
            due("clear() of one", x.clear(), 1);
            due("how many", x.count(7), 0);
            due("clear() again", x.clear(), 0);
            write(x, "x".repeat(150));
            due("clear() of 150", x.clear(), 150);
            due("how many", x.count(7), 0);
            due("how many boxes", x.count(0), 1);
            write(x, "box 0 1 0;");
            due("read() of what came behind clear()", x.read(), 1);
        });
    }

    private static void bytesAndItems() {
        inTerms("THE CUPBOARD is a TEXT (150 bytes at most)", () -> {
            LidForEach x = new LidForEach();
            write(x, "z".repeat(149));
            due("the last byte", x.type('z'), 150);
            full(x, "one more", () -> x.type('z'));
            // as many items as go into 150 bytes
            readsAs("box0 1 0;lid0 0 1;on0 0;" + "grasp0 0;".repeat(14), 17, told17());
            faultAt(149, "box 0 1 0;".repeat(14) + " ".repeat(9) + ";");
            refusedAt(16, "box0 1 0;lid0 0 1;" + "grasp0 0;".repeat(14) + "on0 1;");
        });
        inTerms("of ITEMS, each ended by ; :", () -> {
            readsAs("box 0 1 2;", 1, boxes(0, 1, 2));
            readsAs("box 0 1 2;box 1 2 3;", 2, boxes(0, 1, 2, 1, 2, 3));
            faultAt(9, "box 0 1 2");
            faultAt(10, "box 0 1 2 box 1 2 3;");
            faultAt(19, "box 0 1 2;box 1 2 3");
            faultAt(0, ";");
            faultAt(10, "box 0 1 2;;");
        });
        inTerms("box FORM SIZE HOLDS; lid KIND FORM SIZE; on l b; grasp b n; sort KIND FORM SIZE PRICE.", () -> {
            LidForEach want = withLids(boxes(1, 9, 20, 0, 8, 2), 5, 2, 9, 1, 0, 8);
            want.put(0, 1);
            want.grasp(1, 9);
            want.sort(4, 1, 2, 50);
            readsAs("box 1 9 20;box 0 8 2;lid 5 2 9;lid 1 0 8;on 0 1;grasp 1 9;sort 4 1 2 50;", 7, want);
            faultAt(7, "box 0 1;");
            faultAt(10, "box 0 1 2 3;");
            faultAt(7, "lid 0 1;");
            faultAt(10, "lid 0 1 2 3;");
            faultAt(4, "on 0;");
            faultAt(7, "on 0 0 0;");
            faultAt(7, "grasp 0;");
            faultAt(10, "grasp 0 1 2;");
            faultAt(10, "sort 0 0 1;");
            faultAt(13, "sort 0 0 1 1 1;");
        });
    }

    private static LidForEach told17() {
        LidForEach x = withLids(boxes(0, 1, 0), 0, 0, 1);
        x.put(0, 0);
        x.grasp(0, 0);
        return x;
    }

    private static void tokens() {
        inTerms("TOKENS: words of letters a .. z, figures (1 or 2 are one number), ; ; blanks (32) between.", () -> {
            readsAs("box 0 1 2;", 1, boxes(0, 1, 2));
            readsAs("   box   0   1   2   ;   ", 1, boxes(0, 1, 2));
            readsAs("box0 1 2;", 1, boxes(0, 1, 2));
            readsAs("box 00 01 02;", 1, boxes(0, 1, 2));
            readsAs("box 0 09 20;lid 05 02 09 ;", 2, withLids(boxes(0, 9, 20), 5, 2, 9));
            // two figures beside one another are one number, so here one is missing
            faultAt(8, "box 0 12;");
            refusedAt(0, "box 0 1 99;");
            faultAt(0, "b ox 0 1 2;");
            faultAt(8, "box 0 1 ; 2;");
        });
    }

    private static void faults() {
        inTerms("FAULT: the place of the first byte of the first TOKEN that can not stand there", () -> {
            faultAt(0, "1 box 0 1 2;");
            faultAt(3, "   12 box 0 1 2;");
            faultAt(4, "box lid 1 2;");
            faultAt(6, "box 0 lid 2;");
            faultAt(8, "box 0 1 grasp;");
            faultAt(9, "box 0 1 2on 0 0;");
            faultAt(12, "box 0 1 2;  77;");
            faultAt(3, "box;box;");
            // of two faults the first
            faultAt(5, "on 0 x 100 A");
            // a fault goes ahead of an item that is refused
            faultAt(19, "box 3 1 2;  on 0 0 0;");
        });
        inTerms("(a word that is none,", () -> {
            for (String word : new String[] {"b", "bo", "boxx", "boy", "o", "onn", "of", "lids", "lie", "gras", "grasps",
                "sor", "sorts", "sorb", "put", "a", "z", "xob", "fox", "kid", "in", "crasp", "port"}) {
                faultAt(0, word);
                faultAt(0, word + " 0 0 1 1;");
                faultAt(11, "box 0 1 2; " + word + " 0 0 1 1;");
            }
            faultAt(4, "box no 1 2;");
            faultAt(0, "z".repeat(150));
        });
        inTerms("a third figure's number,", () -> {
            faultAt(4, "box 000 1 2;");
            faultAt(4, "box 100 1 2;");
            faultAt(6, "box 0 001 2;");
            faultAt(8, "box 0 1 100;");
            faultAt(9, "box 0 1  1000;");
            faultAt(3, "box100 1 2;");
            faultAt(8, "box 0 1 100");
            faultAt(10, "box 0 1 2;100;");
            faultAt(0, "9".repeat(150));
        });
        inTerms("a byte that begins none, too);", () -> {
            for (int b = 0; b <= 127; b++) {
                String sign = String.valueOf((char) b);
                if (!sign.matches("[a-z0-9; ]")) {
                    LidForEach x = new LidForEach();
                    reads(x, sign, -10);
                    reads(x, "box 0 1" + sign + "2;", -17);
                    reads(x, "box 0 1 2" + sign + ";", -19);
                    reads(x, "bo" + sign + "x 0 1 2;", -10);
                    reads(x, "box 0 1 2;" + sign, -20);
                }
            }
        });
    }

    private static void endsTooEarly() {
        inTerms("the TEXT's length, if it ends too early", () -> {
            for (String text : new String[] {"box", "box 0", "box 0 ", "box 0 1", "box 0 1 2", "box 0 1 2  ", "lid", "on",
                "on 0", "on 0 0", "grasp", "grasp 0 1", "sort", "sort 0 0 1", "sort 0 0 1 1", "  on  ", "box 0 1 2;on",
                "box 9 9 99;on 0 "}) {
                faultAt(text.length(), text);
            }
            faultAt(150, "box 0 1 0;".repeat(14) + "box 0 1 0 ");
            faultAt(150, " ".repeat(147) + "box");
        });
        inTerms("(an empty one: none).", () -> {
            LidForEach x = new LidForEach();
            quiet(x, "read() of an empty text", () -> x.read(), 0);
            LidForEach some = rich();
            due("read() of an empty text", some.read(), 0);
            row("count", some::count, 0, 0, 0, 0, 0, 0, 0, 0);
            reads(some, "   ", 0);
            reads(some, "box 0 1 2;   ", 1);
        });
    }

    private static void toldAnew() {
        inTerms("A CUPBOARD without a FAULT is told anew by these alone,", () -> {
            LidForEach x = rich();
            reads(x, "lid 2 1 4;box 1 4 0;", 2);
            row("count", x::count, 1, 1, 0, 0, 0, 0, 0, 20);
            due("grasp(0, 1)", x.grasp(0, 1), 1);
            due("eye(0, 5)", x.eye(0, 5), 5);
            due("wrong()", x.wrong(), -1);
            due("has(0)", x.has(0), 0);
            due("on(0)", x.on(0), -1);
            due("fits(0)", x.fits(0), 1);
            no(x, "undo()", () -> x.undo());
            // what is no cupboard stays
            fraction(x, 8, 3);
            due("status(1)", x.status(1), 1);
            no(x, "from(0)", () -> x.from(0));
            due("from(1)", x.from(1), 1);
            due("how many boxes in the image", x.count(0), 2);
            // and told again it is the same again
            due("read() of the same text", x.read(), 2);
            due("read() of the same text", x.read(), 2);
            row("count", x::count, 1, 1, 0, 0, 0, 0, 0, 20);
            // nothing is left of what another text told, even of one that was refused
            reads(x, "box 0 1 0;lid 0 0 1;on 0 0;sort 0 0 1 1;grasp 0 9;on 0 0;", -1005);
            reads(x, "sort 1 2 3 4;", 1);
            row("count", x::count, 0, 0, 0, 1, 0, 0, 0, 13);
            reads(x, "box 0 1 0;", 1);
            row("count", x::count, 1, 0, 0, 0, 0, 0, 0, 10);
            due("grasp(0, 1)", x.grasp(0, 1), 1);
        });
        inTerms("in their order;", () -> {
            readsAs("box 2 1 0;box 1 2 0;box 0 3 0;", 3, boxes(2, 1, 0, 1, 2, 0, 0, 3, 0));
            refusedAt(1, "lid 0 0 1;on 0 0;box 0 1 0;");
            refusedAt(1, "box 0 1 0;on 0 0;lid 0 0 1;");
            refusedAt(0, "grasp 0 5;box 0 1 0;");
            LidForEach last = boxes(0, 1, 0);
            last.grasp(0, 3);
            readsAs("box 0 1 0;grasp 0 9;grasp 0 3;", 3, last);
            // a box or lid behind on leaves nothing to be undone, others do
            LidForEach x = new LidForEach();
            reads(x, "box 0 1 0;lid 0 0 1;on 0 0;sort 0 0 1 1;grasp 0 1;", 5);
            due("how many may be undone", x.count(6), 1);
            reads(x, "box 0 1 0;lid 0 0 1;on 0 0;box 0 1 0;", 4);
            due("how many may be undone", x.count(6), 0);
            due("on(0)", x.on(0), 0);
        });
    }

    private static void refusedItems() {
        inTerms("the first ITEM (0 on) that is refused (as its call is): nothing changes.", () -> {
            refusedAt(0, "box 3 1 0;");
            refusedAt(0, "box 0 0 0;");
            refusedAt(0, "box 0 10 0;");
            refusedAt(0, "box 0 1 21;");
            refusedAt(0, "lid 6 0 1;");
            refusedAt(0, "lid 0 3 1;");
            refusedAt(0, "lid 0 0 0;");
            refusedAt(0, "lid 0 0 10;");
            refusedAt(0, "sort 6 0 1 1;");
            refusedAt(0, "sort 0 3 1 1;");
            refusedAt(0, "sort 0 0 10 1;");
            refusedAt(0, "sort 0 0 1 0;");
            refusedAt(0, "sort 0 0 1 51;");
            refusedAt(1, "box 0 1 0;grasp 1 1;");
            refusedAt(1, "box 0 1 0;grasp 0 10;");
            // none of the boxes and lids that there were may be meant
            refusedAt(0, "grasp 0 1;");
            refusedAt(0, "on 0 0;");
            refusedAt(2, "box 0 1 0;lid 0 0 1;on 1 0;");
            refusedAt(2, "box 0 1 0;lid 0 0 1;on 0 1;");
            // NO
            refusedAt(2, "box 0 1 0;lid 0 0 2;on 0 0;");
            refusedAt(3, "box 0 1 0;lid 0 0 1;on 0 0;on 0 0;");
            refusedAt(4, "box 0 1 0;box 0 1 0;lid 0 0 1;on 0 0;on 0 1;");
            // FULL
            refusedAt(7, "box 0 1 0;".repeat(8));
            refusedAt(7, "lid 0 0 1;".repeat(8));
            refusedAt(4, "sort 0 0 1 1;".repeat(5));
            // of two that are refused the first
            refusedAt(1, "box 0 1 0;lid 6 0 1;box 3 1 0;");
        });
    }

    private static void read() {
        inPromise(13, "THE CUPBOARD is read: how many ITEMS.", () -> {
            LidForEach x = new LidForEach();
            due("read() of none", x.read(), 0);
            reads(x, "box 0 1 0;", 1);
            due("the text stays", x.count(7), 10);
            reads(x, "box 0 1 0;".repeat(7) + "lid 0 0 1;".repeat(7), 14);
            reads(x, "sort 0 0 1 1;".repeat(4), 4);
            row("count", x::count, 0, 0, 0, 4, 0, 0, 0, 52);
        });
        inPromise(13, "-10 less the FAULT;", () -> {
            faultAt(0, "?");
            faultAt(1, " ?");
            faultAt(150, " ".repeat(148) + "on");
        });
        inPromise(13, "-1000 less the number of the first ITEM that is refused:", () -> {
            refusedAt(0, "box 0 0 0;box 0 1 0;");
            refusedAt(1, "box 0 1 0;box 0 0 0;");
            refusedAt(14, "box 0 1 0;".repeat(7) + "lid 0 0 1;".repeat(7) + "box 0 1 0;");
        });
        inPromise(13, "nothing changes.", () -> {
            LidForEach x = rich();
            int boxesBehindUndo = x.count(0);
            write(x, "box 0 1 0;lid 0 0 1;on 0 0;on 0 0;");
            long before = x.digest();
            due("read()", x.read(), -1003);
            due("digest()", x.digest(), before);
            due("read() again", x.read(), -1003);
            due("digest()", x.digest(), before);
            row("status", x::status, 0, 0, 0);
            due("undo()", x.undo(), 1);
            row("on", x::on, -1, -1);
            due("how many boxes", x.count(0), boxesBehindUndo);
            fraction(x, 8, 3);
        });
    }
}
