import java.math.BigInteger;

/** The fraction, images, status, counts, the digest, and in which order calls are refused: promises 33 to 38. */
final class KeptEdges extends Sentences {
    private KeptEdges() {
    }

    static void all() {
        imageTerms();
        statusTerms();
        fractionTerms();
        refusalTerms();
        part();
        image();
        from();
        status();
        count();
        digest();
    }

    private static void imageTerms() {
        inTerms("IMAGES 0, 1 keep all but them, THE TEXT, THE FRACTION and STATUS;", () -> {
            LidForEach x = somethingOfAll();
            long kept = x.digest();
            x.image(0);
            LidForEach other = new LidForEach();
            change(x);
            due("from(0)", x.from(0), 1);
            due("digest()", x.digest(), kept);
            // what comes behind an image does not change it
            change(x);
            due("from(0)", x.from(0), 1);
            due("digest()", x.digest(), kept);
            x.type(65);
            x.nuts(3, 2);
            x.off(7);
            x.off(0);
            row("status", x::status, 1, 1, 0);
            x.image(1);
            x.clear();
            x.nuts(6, 2);
            x.off(7);
            due("from(1)", x.from(1), 1);
            due("the text is as it was ahead", x.count(7), 0);
            fraction(x, 221, 20);
            row("status", x::status, 2, 1, 0);
            due("from(0): images are not kept in images", x.from(0), 1);
            due("from(0) of another object", other.from(0), -3);
        });
        inTerms("what may be undone they keep;", () -> {
            LidForEach x = withLids(boxes(0, 4, 0), 0, 0, 4);
            x.image(1);
            for (int i = 0; i < 12; i++) {
                due("put or off", i % 2 == 0 ? x.put(0, 0) : x.off(0), i % 2 == 0 ? 1 : 0);
            }
            x.put(0, 0);
            x.image(0);
            x.box(0, 1, 0);
            due("how many may be undone", x.count(6), 0);
            x.from(0);
            due("how many may be undone", x.count(6), 12);
            for (int i = 12; i > 0; i--) {
                due("undo()", x.undo(), 1);
                due("on(0)", x.on(0), i % 2 == 0 ? -1 : 0);
            }
            no(x, "undo()", () -> x.undo());
            x.from(0);
            due("how many may be undone again", x.count(6), 12);
            x.from(1);
            no(x, "undo() of none that were kept", () -> x.undo());
        });
        inTerms("it goes on from one.", () -> {
            LidForEach x = somethingOfAll();
            x.image(0);
            x.forget(0);
            x.from(0);
            due("the next box", x.box(0, 1, 0), 2);
            due("the next lid", x.lid(0, 0, 1), 2);
            due("the next sort", x.sort(0, 0, 1, 1), 1);
            due("the next tale", x.lend(4, 1, 0), 1);
            due("the next hint", x.hint(0, 0, 0), 1);
            due("off(1)", x.off(1), 0);
        });
        inTerms("it goes on from one.", () -> {
            // as if the boxes and lids that came behind it had never been
            for (int few = 0; few <= 3; few++) {
                LidForEach never = some(new LidForEach(), 0, few);
                LidForEach x = some(new LidForEach(), 0, few);
                x.image(1);
                some(x, few, 7);
                allAnswers(x);
                x.from(1);
                due("all answers with " + few + " of each", allAnswers(x).equals(allAnswers(never)) ? 1 : 0, 1);
            }
        });
    }

    /** Boxes and lids from one number on ahead of another, so that most fit some. */
    private static LidForEach some(LidForEach x, int from, int to) {
        for (int i = from; i < to; i++) {
            x.box(i % 3, 9 - i, 2 * i + 1);
            x.lid(5, i % 2, 9 - i / 2);
            x.sort(0, i % 3, 9 - i, i + 1);
            x.hint(1, i, 0);
        }
        return x;
    }

    private static void change(LidForEach x) {
        x.off(1);
        x.put(0, 0);
        x.box(1, 1, 1);
        x.lid(1, 1, 1);
        x.grasp(0, 9);
        x.grasp(1, 9);
        x.eye(0, 9);
        x.sort(0, 0, 1, 1);
        x.forget(0);
        x.forget(1);
        x.hint(0, 0, 0);
    }

    private static void statusTerms() {
        inTerms("STATUS: how many calls were refused as BAD, NO, FULL (each answer told so below is such a"
            + " one;", () -> {
            LidForEach x = new LidForEach();
            row("status at first", x::status, 0, 0, 0);
            x.box(3, 1, 0);
            row("status behind BAD", x::status, 1, 0, 0);
            x.undo();
            row("status behind NO", x::status, 1, 1, 0);
            for (int i = 0; i < 8; i++) {
                x.box(0, 1, 0);
            }
            row("status behind FULL", x::status, 1, 1, 1);
            // none of these answers is told as BAD, NO or FULL
            x.shelf(7);
            x.tries(0);
            x.buy(-1);
            x.soup(1, 0);
            x.most(0);
            x.piles(0);
            x.on(0);
            x.wrong();
            x.type('?');
            x.read();
            row("status behind NONE, -5, a fault", x::status, 1, 1, 1);
            for (int i = 0; i < 100; i++) {
                x.from(0);
                x.from(2);
            }
            row("status", x::status, 101, 101, 1);
        });
        inTerms("ITEMS are none).", () -> {
            LidForEach x = new LidForEach();
            reads(x, "box 3 1 0;", -1000);
            reads(x, "box 0 1 0;lid 0 0 2;on 0 0;", -1002);
            reads(x, "sort 0 0 1 1;".repeat(5), -1004);
            row("status", x::status, 0, 0, 0);
        });
    }

    private static void fractionTerms() {
        inTerms("THE FRACTION is 0 by 1 at first;", () -> {
            LidForEach x = new LidForEach();
            fraction(x, 0, 1);
            row("part", x::part, 0, 1);
        });
        inTerms("lowest terms, below above 0.", () -> {
            LidForEach x = withLikeLids(new LidForEach(), 2, 0, 0, 1);
            x.tries(-1);
            fraction(x, 3, 2);
            x.eye(0, 10);
            x.tries(-1);
            fraction(x, 1, 1);
            x.eye(0, 0);
            x.eye(1, 0);
            x.tries(-1);
            fraction(x, 2, 1);
            x.nuts(1, 2);
            fraction(x, 0, 1);
            x.nuts(4, 2);
            fraction(x, 59, 12);
        });
    }

    private static void refusalTerms() {
        inTerms("Refused, changing nothing but STATUS, the first of:", () -> {
            LidForEach x = somethingOfAll();
            x.image(0);
            x.grasp(0, 2);
            write(x, "box 0 1 0;");
            x.nuts(3, 2);
            long before = x.digest();
            refuseAll(x);
            due("digest() behind all that was refused", x.digest(), before);
            due("grasp(0, 2)", x.grasp(0, 2), 2);
            due("undo()", x.undo(), 1);
            row("on", x::on, -1, -1);
            due("from(0)", x.from(0), 1);
            due("grasp(0, 1)", x.grasp(0, 1), 1);
            due("from(1)", x.from(1), -3);
            due("read()", x.read(), 1);
        });
        inTerms("BAD -2 a number is not as told; NO -3 as told; FULL -4", () -> {
            LidForEach x = withLikeLids(likeBoxes(7, 0, 4, 0), 7, 0, 0, 4);
            x.put(0, 0);
            bad(x, "put(0, 7) of one that is on", () -> x.put(0, 7));
            bad(x, "off(7)", () -> x.off(7));
            bad(x, "from(2) where none is kept", () -> x.from(2));
            no(x, "put(0, 0)", () -> x.put(0, 0));
            no(x, "off(1)", () -> x.off(1));
            no(x, "from(0)", () -> x.from(0));
            for (int i = 0; i < 8; i++) {
                x.sort(0, 0, 4, 1);
                x.lend(0, 0, 1);
                x.hint(0, 0, 0);
            }
            full(x, "box", () -> x.box(0, 4, 0));
            bad(x, "box of size 0", () -> x.box(0, 0, 0));
            full(x, "lid", () -> x.lid(0, 0, 4));
            bad(x, "lid of size 0", () -> x.lid(0, 0, 0));
            full(x, "sort", () -> x.sort(0, 0, 4, 1));
            bad(x, "sort of size 0", () -> x.sort(0, 0, 0, 1));
            full(x, "lend", () -> x.lend(0, 0, 1));
            bad(x, "lend to oneself", () -> x.lend(0, 0, 0));
            full(x, "hint", () -> x.hint(0, 0, 0));
            bad(x, "hint at food 7", () -> x.hint(0, 7, 0));
            LidForEach none = new LidForEach();
            bad(none, "evening(61, 0) of none", () -> none.evening(61, 0));
            no(none, "evening(60, 0) of none", () -> none.evening(60, 0));
        });
        inTerms("(where others are told they count as these).", () -> {
            LidForEach x = somethingOfAll();
            bad10(x, "on(2)", () -> x.on(2));
            bad10(x, "most(2)", () -> x.most(2));
            bad10(x, "soup(100, 0)", () -> x.soup(100, 0));
            bad10(x, "piles(2)", () -> x.piles(2));
            bad10(x, "shelf(-2)", () -> x.shelf(-2));
            bad10(x, "buy(1)", () -> x.buy(1));
            bad10(x, "tries(-2)", () -> x.tries(-2));
            bad10(x, "labels(2, 1)", () -> x.labels(2, 1));
            badAs(x, "status(3)", () -> x.status(3), -1);
        });
    }

    private static void refuseAll(LidForEach x) {
        due("box", x.box(0, 1, 21), -2);
        due("lid", x.lid(6, 0, 1), -2);
        due("put", x.put(1, 1), -3);
        due("put", x.put(2, 0), -2);
        due("off", x.off(0), -3);
        due("off", x.off(2), -2);
        due("on", x.on(2), -10);
        due("grasp", x.grasp(0, 10), -2);
        due("sort", x.sort(0, 0, 1, 51), -2);
        due("eye", x.eye(0, 11), -2);
        due("type", x.type(128), -2);
        due("fits", x.fits(2), -2);
        due("most", x.most(2), -10);
        due("soup", x.soup(0, 2), -10);
        due("worth", x.worth(2), -2);
        due("piles", x.piles(2), -10);
        due("shelf", x.shelf(-2), -10);
        due("buy", x.buy(1), -10);
        due("tries", x.tries(-2), -10);
        due("nuts", x.nuts(7, 2), -2);
        due("lend", x.lend(1, 0, 1), -2);
        due("has", x.has(2), -2);
        due("hint", x.hint(0, 0, 2), -2);
        due("forget", x.forget(3), -2);
        due("labels", x.labels(1, 0), -10);
        due("evening", x.evening(61, 0), -2);
        due("part", x.part(2), -2);
        due("image", x.image(2), -2);
        due("from", x.from(1), -3);
        due("from", x.from(2), -2);
        due("status", x.status(3), -1);
        due("count", x.count(8), -2);
        row("status", x::status, 29, 3, 0);
    }

    private static void part() {
        inPromise(33, "THE FRACTION: above (0), below (1).", () -> {
            LidForEach x = new LidForEach();
            x.nuts(3, 2);
            quiet(x, "part(0)", () -> x.part(0), 8);
            quiet(x, "part(1)", () -> x.part(1), 3);
        });
        inPromise(33, "BAD.", () -> {
            LidForEach x = new LidForEach();
            badBeside(x, 0, 1, "part", x::part);
        });
    }

    private static void image() {
        inPromise(34, "An IMAGE is kept: 1.", () -> {
            LidForEach x = new LidForEach();
            due("image(0) of none", x.image(0), 1);
            x.box(0, 1, 0);
            due("image(1)", x.image(1), 1);
            due("from(0)", x.from(0), 1);
            due("how many boxes", x.count(0), 0);
            due("from(1)", x.from(1), 1);
            due("how many boxes", x.count(0), 1);
            x.box(0, 1, 0);
            due("image(0) anew", x.image(0), 1);
            due("from(1)", x.from(1), 1);
            due("from(0)", x.from(0), 1);
            due("how many boxes", x.count(0), 2);
            LidForEach y = somethingOfAll();
            quiet(y, "image(0) changes nothing that is counted", () -> y.image(0), 1);
        });
        inPromise(34, "BAD.", () -> {
            LidForEach x = somethingOfAll();
            badBeside(x, 0, 1, "image", x::image);
            no(x, "from(0)", () -> x.from(0));
            no(x, "from(1)", () -> x.from(1));
        });
    }

    private static void from() {
        inPromise(35, "It goes on from an IMAGE: 1.", () -> {
            LidForEach x = somethingOfAll();
            long kept = x.digest();
            x.image(1);
            change(x);
            due("from(1)", x.from(1), 1);
            due("digest()", x.digest(), kept);
            due("from(1) again", x.from(1), 1);
            due("digest()", x.digest(), kept);
        });
        inPromise(35, "BAD;", () -> {
            LidForEach x = somethingOfAll();
            badBeside(x, 0, 1, "from where none is kept", x::from);
            x.image(0);
            x.image(1);
            x.forget(0);
            badBeside(x, 0, 1, "from", x::from);
        });
        inPromise(35, "NO: none was kept.", () -> {
            LidForEach x = somethingOfAll();
            no(x, "from(0)", () -> x.from(0));
            no(x, "from(1)", () -> x.from(1));
            x.image(0);
            no(x, "from(1) where the other is", () -> x.from(1));
            due("from(0)", x.from(0), 1);
            LidForEach y = somethingOfAll();
            y.image(1);
            no(y, "from(0) where the other is", () -> y.from(0));
            due("from(1)", y.from(1), 1);
        });
    }

    private static void status() {
        inPromise(36, "STATUS: BAD (0), NO (1), FULL (2).", () -> {
            LidForEach x = new LidForEach();
            for (int i = 0; i < 9; i++) {
                x.box(0, 1, 0);
            }
            x.undo();
            x.undo();
            x.undo();
            x.on(7);
            quiet(x, "status(0)", () -> x.status(0), 1);
            quiet(x, "status(1)", () -> x.status(1), 3);
            quiet(x, "status(2)", () -> x.status(2), 2);
        });
        inPromise(36, "-1: another what (counts as BAD).", () -> {
            LidForEach x = new LidForEach();
            badBeside(x, 0, 2, -1, "status", x::status);
            row("status", x::status, 4, 0, 0);
        });
    }

    private static void count() {
        inPromise(37, "How many: 0 BOXES, 1 LIDS, 2 LIDS that are ON, 3 SORTS, 4 tales, 5 HINTS, 6 that may be undone, 7"
            + " bytes of THE TEXT.", () -> {
            LidForEach x = new LidForEach();
            row("count at first", x::count, 0, 0, 0, 0, 0, 0, 0, 0);
            for (int i = 0; i < 8; i++) {
                x.box(0, 4, 0);
                x.lid(0, 0, 4);
            }
            for (int i = 0; i < 13; i++) {
                x.put(i % 7, i % 7);
                x.off((i + 1) % 7);
                x.put((i + 1) % 7, (i + 1) % 7);
                x.sort(0, 0, 4, 1);
                x.lend(0, 0, 1);
                x.hint(0, 0, 0);
            }
            for (int i = 0; i < 151; i++) {
                x.type(0);
            }
            row("count when all is full", x::count, 7, 7, 7, 4, 8, 8, 12, 150);
            LidForEach each = withLikeLids(likeBoxes(2, 0, 4, 0), 4, 0, 0, 4);
            each.sort(0, 0, 4, 1);
            for (int i = 0; i < 7; i++) {
                each.type(0);
            }
            each.put(3, 1);
            each.off(3);
            each.put(2, 1);
            for (int i = 0; i < 5; i++) {
                each.lend(0, 0, 1);
            }
            for (int i = 0; i < 6; i++) {
                each.hint(0, 0, 0);
            }
            row("count", each::count, 2, 4, 1, 1, 5, 6, 3, 7);
            quiet(each, "count(2)", () -> each.count(2), 1);
        });
        inPromise(37, "BAD.", () -> {
            LidForEach x = somethingOfAll();
            badBeside(x, 0, 7, "count", x::count);
        });
    }

    /** The digest by numbers that know no bound; what is left over of them is what a long keeps. */
    private static long mixed(long... values) {
        BigInteger h = BigInteger.valueOf(857);
        for (long v : values) {
            h = h.multiply(BigInteger.valueOf(31)).add(BigInteger.valueOf(v));
        }
        return h.longValue();
    }

    private static void digest() {
        inPromise(38, "h = 857; then h = 31 h + v for each v:", () -> {
            LidForEach x = new LidForEach();
            quiet(x, "digest() of none", () -> x.digest(), mixed(0, 0, 0, 0, 0, 0, 0, 0, 0, 1));
        });
        inPromise(38, "count(0) to count(7);", () -> {
            LidForEach x = new LidForEach();
            x.type(9);
            x.type(9);
            due("digest(): two bytes", x.digest(), mixed(0, 0, 0, 0, 0, 0, 0, 2, 0, 1));
            withLids(x, 0, 0, 4);
            due("digest(): a lid", x.digest(), mixed(0, 1, 0, 0, 0, 0, 0, 2, 0, 0, 4, 5, 0, 1));
        });
        inPromise(38, "of BOXES FORM, SIZE, HOLDS, GRASPS, the LID on it (NONE);", () -> {
            LidForEach x = boxes(2, 9, 20, 1, 3, 0);
            x.grasp(1, 7);
            due("digest()", x.digest(), mixed(2, 0, 0, 0, 0, 0, 0, 0, 2, 9, 20, 1, -1, 1, 3, 0, 7, -1, 0, 1));
            withLids(x, 0, 0, 1, 0, 1, 3);
            x.put(1, 1);
            due("digest()", x.digest(), mixed(2, 2, 1, 0, 0, 0, 1, 0, 2, 9, 20, 1, -1, 1, 3, 0, 7, 1,
                0, 0, 1, 5, 0, 1, 3, 5, 0, 1));
        });
        inPromise(38, "of LIDS KIND, FORM, SIZE, CHANCE;", () -> {
            LidForEach x = withLids(new LidForEach(), 5, 2, 9, 1, 0, 3);
            x.eye(1, 8);
            due("digest()", x.digest(), mixed(0, 2, 0, 0, 0, 0, 0, 0, 5, 2, 9, 5, 1, 0, 3, 8, 0, 1));
        });
        inPromise(38, "of SORTS KIND, FORM, SIZE, PRICE;", () -> {
            LidForEach x = new LidForEach();
            x.sort(5, 2, 9, 50);
            x.sort(1, 0, 3, 6);
            due("digest()", x.digest(), mixed(0, 0, 0, 2, 0, 0, 0, 0, 5, 2, 9, 50, 1, 0, 3, 6, 0, 1));
        });
        inPromise(38, "of tales a, LID, b;", () -> {
            LidForEach x = withLids(new LidForEach(), 0, 0, 1, 0, 0, 1);
            x.lend(0, 1, 4);
            x.lend(3, 0, 2);
            due("digest()", x.digest(), mixed(0, 2, 0, 0, 2, 0, 0, 0, 0, 0, 1, 5, 0, 0, 1, 5, 0, 1, 4, 3, 0, 2, 0, 1));
        });
        inPromise(38, "of HINTS sort, f, b;", () -> {
            LidForEach x = boxes(0, 1, 0, 0, 1, 0);
            x.hint(3, 1, 0);
            x.hint(0, 0, 1);
            due("digest()", x.digest(), mixed(2, 0, 0, 0, 0, 2, 0, 0, 0, 1, 0, 1, -1, 0, 1, 0, 1, -1, 3, 1, 0, 0, 0, 1, 0, 1));
        });
        inPromise(38, "THE FRACTION.", () -> {
            LidForEach x = new LidForEach();
            x.nuts(3, 2);
            due("digest()", x.digest(), mixed(0, 0, 0, 0, 0, 0, 0, 0, 8, 3));
            LidForEach all = somethingOfAll();
            all.type(9);
            all.nuts(3, 2);
            due("digest() of something of all", all.digest(), mixed(2, 2, 1, 1, 1, 1, 1, 1, 0, 4, 1, 1, 1, 2, 9, 20, 6, -1,
                0, 0, 4, 3, 5, 2, 9, 5, 1, 2, 3, 44, 0, 1, 4, 3, 1, 0, 8, 3));
        });
    }
}
