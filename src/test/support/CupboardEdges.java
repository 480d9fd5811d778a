/** Boxes, lids, what fits, what is on, undo, grasps, sorts, chances: promises 1 to 10 and 14, and their terms. */
final class CupboardEdges extends Sentences {
    private CupboardEdges() {
    }

    static void all() {
        face();
        rangesOfBoxes();
        rangesOfLids();
        kindsUnderPlain();
        kindsUnderWide();
        on();
        undoTerms();
        newObject();
        box();
        lid();
        put();
        off();
        undo();
        whichIsOn();
        grasp();
        sort();
        eye();
        fits();
    }

    private static void face() {
        inFace("public static final int NONE = -1, BAD = -2, NO = -3, FULL = -4;", () -> {
            due("NONE", LidForEach.NONE, -1);
            due("BAD", LidForEach.BAD, -2);
            due("NO", LidForEach.NO, -3);
            due("FULL", LidForEach.FULL, -4);
        });
        inUse("An object is used for at most 512 calls after it has been made;", () -> {
            LidForEach x = new LidForEach();
            for (int call = 1; call < 512; call++) {
                due("undo(), call " + call, x.undo(), -3);
            }
            due("status(1), call 512", x.status(1), 511);
        });
    }

    private static void rangesOfBoxes() {
        inTerms("6, as they come:", () -> {
            LidForEach x = new LidForEach();
            for (int i = 0; i <= 6; i++) {
                bad(x, "fits(" + i + ") ahead of its box", () -> x.fits(x.count(0)));
                due("box", x.box(i % 3, 9 - i, 20 - i), i);
                due("fits(" + i + ")", x.fits(i), 0);
            }
            due("how many boxes", x.count(0), 7);
        });
        inTerms("a FORM (0 round, 1 oblong, 2 square)", () -> {
            LidForEach x = new LidForEach();
            for (int form = 0; form <= 2; form++) {
                due("box of form " + form, x.box(form, 4, 1), form);
            }
            badBeside(x, 0, 2, "box of a form", form -> x.box(form, 4, 1));
            // a SQUARE lid fits the round one of a size less alone, and round goes into square alone
            x.lid(4, 2, 5);
            row("fits", x::fits, 1, 0, 0);
            x.box(2, 5, 1);
            row("piles", x::piles, 3, -1, -1, -1);
        });
        inTerms("a SIZE (1 .. 9)", () -> {
            LidForEach x = new LidForEach();
            due("box of size 1", x.box(0, 1, 1), 0);
            due("box of size 9", x.box(0, 9, 1), 1);
            badBeside(x, 1, 9, "box of a size", size -> x.box(0, size, 1));
        });
        inTerms("what it HOLDS (0 .. 20)", () -> {
            LidForEach x = new LidForEach();
            due("box that holds 0", x.box(0, 1, 0), 0);
            due("box that holds 20", x.box(0, 1, 20), 1);
            badBeside(x, 0, 20, "box that holds", holds -> x.box(0, 1, holds));
            x.lid(0, 0, 1);
            due("much()", x.much(), 20);
        });
    }

    private static void rangesOfLids() {
        inTerms("LIDS 0 .. 6, as they come: a KIND, a FORM, a SIZE likewise.", () -> {
            LidForEach x = new LidForEach();
            badBeside(x, 0, 2, "lid of a form", form -> x.lid(0, form, 1));
            badBeside(x, 1, 9, "lid of a size", size -> x.lid(0, 0, size));
            int[][] formSize = {{0, 1}, {1, 1}, {2, 1}, {0, 9}, {1, 9}, {2, 9}, {2, 5}};
            for (int i = 0; i <= 6; i++) {
                bad(x, "worth(" + i + ") ahead of its lid", () -> x.worth(x.count(1)));
                due("lid", x.lid(0, formSize[i][0], formSize[i][1]), i);
                due("worth(" + i + ")", x.worth(i), 0);
            }
            due("how many lids", x.count(1), 7);
        });
        inTerms("KINDS, each under the one told, say which BOXES a LID FITS:", () -> {
            LidForEach x = new LidForEach();
            for (int kind = 0; kind <= 5; kind++) {
                due("lid of kind " + kind, x.lid(kind, 0, 4), kind);
            }
            badBeside(x, 0, 5, "lid of a kind", kind -> x.lid(kind, 0, 4));
            // each fits what the one told fits, but for the warped one where much is held
            x.box(0, 4, 9);
            x.box(0, 4, 10);
            x.box(0, 3, 0);
            x.box(1, 4, 0);
            x.box(1, 3, 0);
            row("fits", x::fits, 63, 55, 54, 36, 32);
        });
    }

    private interface Fitting {
        boolean fits(boolean ofItsForm, int boxForm, int lessBy);
    }

    /** Every lid of a kind against every box that holds so much. */
    private static void fitsJust(int kind, int holds, Fitting fitting) {
        for (int lid = 0; lid < 27; lid++) {
            for (int box = 0; box < 27; box++) {
                LidForEach x = withLids(boxes(box % 3, 1 + box / 3, holds), kind, lid % 3, 1 + lid / 3);
                boolean want = fitting.fits(lid % 3 == box % 3, box % 3, lid / 3 - box / 3);
                due("fits(0) of kind " + kind + ", lid " + lid + ", box " + box, x.fits(0), want ? 1 : 0);
            }
        }
    }

    private static void kindsUnderPlain() {
        inTerms("0 PLAIN: of its FORM and SIZE.", () -> {
            fitsJust(0, 20, (own, form, lessBy) -> own && lessBy == 0);
        });
        inTerms("3 WARPED (under PLAIN): as PLAIN, but none that HOLDS more than 9.", () -> {
            fitsJust(3, 0, (own, form, lessBy) -> own && lessBy == 0);
            fitsJust(3, 9, (own, form, lessBy) -> own && lessBy == 0);
            fitsJust(3, 10, (own, form, lessBy) -> false);
            fitsJust(3, 20, (own, form, lessBy) -> false);
        });
        inTerms("4 SQUARE (under PLAIN): as PLAIN, and round ones of its SIZE less 1.", () -> {
            fitsJust(4, 20, (own, form, lessBy) -> own && lessBy == 0 || form == 0 && lessBy == 1);
        });
    }

    private static void kindsUnderWide() {
        inTerms("1 WIDE (under PLAIN): as PLAIN, and of its FORM, its SIZE less 1.", () -> {
            fitsJust(1, 20, (own, form, lessBy) -> own && (lessBy == 0 || lessBy == 1));
        });
        inTerms("2 SOFT (under WIDE): as WIDE, and any FORM of its SIZE.", () -> {
            fitsJust(2, 20, (own, form, lessBy) -> lessBy == 0 || own && lessBy == 1);
        });
        inTerms("5 ALL (under SOFT): as SOFT, and any of a lesser SIZE.", () -> {
            fitsJust(5, 20, (own, form, lessBy) -> lessBy >= 0);
        });
    }

    private static void on() {
        inTerms("ON: a LID is on a BOX, or not (at first);", () -> {
            LidForEach x = withLikeLids(likeBoxes(7, 0, 4, 1), 7, 0, 0, 4);
            row("on", x::on, -1, -1, -1, -1, -1, -1, -1);
            due("how many are on", x.count(2), 0);
            due("put(0, 6)", x.put(0, 6), 1);
            due("put(6, 0)", x.put(6, 0), 1);
            row("on", x::on, 6, -1, -1, -1, -1, -1, 0);
            due("how many are on", x.count(2), 2);
            due("box FULL", x.box(0, 4, 1), -4);
            due("on(6)", x.on(6), 0);
        });
        inTerms("one on each at most.", () -> {
            LidForEach x = withLikeLids(likeBoxes(2, 0, 4, 1), 2, 0, 0, 4);
            x.put(0, 0);
            no(x, "a second lid on a box", () -> x.put(1, 0));
            no(x, "a lid on a second box", () -> x.put(0, 1));
            row("on", x::on, 0, -1);
            due("put(1, 1)", x.put(1, 1), 1);
            due("how many are on", x.count(2), 2);
        });
    }

    private static void undoTerms() {
        inTerms("UNDO: what is ON as ahead of the last LID put on, or off", () -> {
            LidForEach x = withLikeLids(likeBoxes(3, 0, 4, 1), 3, 0, 0, 4);
            x.put(2, 0);
            x.put(1, 2);
            x.off(2);
            x.put(2, 1);
            row("on", x::on, -1, 2, 1);
            int[][] ahead = {{-1, -1, 1}, {2, -1, 1}, {2, -1, -1}, {-1, -1, -1}};
            for (int i = 0; i < 4; i++) {
                due("undo()", x.undo(), 1);
                row("on", x::on, ahead[i]);
                due("how many may be undone", x.count(6), 3 - i);
            }
            x.put(0, 0);
            no(x, "a refused put", () -> x.put(0, 1));
            no(x, "a refused off", () -> x.off(2));
            x.undo();
            row("on: what is refused is not undone", x::on, -1, -1, -1);
        });
        inTerms("(12 at most;", () -> {
            LidForEach twelve = withLids(boxes(0, 4, 1), 0, 0, 4);
            putAndOff(twelve, 12);
            due("how many may be undone", twelve.count(6), 12);
            undoAll(twelve, 12);
            due("on(0) behind twelve undone of twelve", twelve.on(0), -1);
            LidForEach more = withLids(boxes(0, 4, 1), 0, 0, 4);
            putAndOff(more, 13);
            due("how many may be undone", more.count(6), 12);
            undoAll(more, 12);
            due("on(0) behind twelve undone of thirteen", more.on(0), 0);
            putAndOff(withLids(boxes(0, 4, 1), 0, 0, 4), 40);
        });
        inTerms("BOXES, LIDS that come leave none).", () -> {
            LidForEach x = withLids(boxes(0, 4, 1), 0, 0, 4);
            x.put(0, 0);
            x.sort(0, 0, 4, 1);
            x.grasp(0, 5);
            x.eye(0, 6);
            x.lend(0, 0, 1);
            x.hint(0, 0, 0);
            x.type(65);
            bad(x, "a box that is refused", () -> x.box(3, 4, 1));
            bad(x, "a lid that is refused", () -> x.lid(6, 0, 4));
            due("how many behind what is no box, no lid", x.count(6), 1);
            x.box(1, 1, 1);
            due("how many behind a box", x.count(6), 0);
            no(x, "undo() behind a box", () -> x.undo());
            due("off(0)", x.off(0), 0);
            x.lid(1, 1, 1);
            due("how many behind a lid", x.count(6), 0);
            no(x, "undo() behind a lid", () -> x.undo());
            due("on(0)", x.on(0), -1);
            LidForEach most = withLikeLids(likeBoxes(7, 0, 4, 1), 7, 0, 0, 4);
            most.put(3, 3);
            full(most, "an eighth box", () -> most.box(0, 4, 1));
            full(most, "an eighth lid", () -> most.lid(0, 0, 4));
            due("undo() behind FULL", most.undo(), 1);
        });
    }

    private static void putAndOff(LidForEach x, int times) {
        for (int i = 0; i < times; i++) {
            due(i % 2 == 0 ? "put(0, 0)" : "off(0)", i % 2 == 0 ? x.put(0, 0) : x.off(0), i % 2 == 0 ? 1 : 0);
            due("how many may be undone", x.count(6), Math.min(i + 1, 12));
        }
    }

    private static void undoAll(LidForEach x, int times) {
        for (int i = 0; i < times; i++) {
            due("undo()", x.undo(), 1);
        }
        no(x, "undo() behind all", () -> x.undo());
    }

    private static void newObject() {
        inPromise(1, "No BOXES, no LIDS.", () -> {
            LidForEach x = new LidForEach();
            row("count", x::count, 0, 0, 0, 0, 0, 0, 0, 0);
            row("status", x::status, 0, 0, 0);
            fraction(x, 0, 1);
            bad(x, "fits(0)", () -> x.fits(0));
            bad(x, "has(0)", () -> x.has(0));
            no(x, "from(0)", () -> x.from(0));
            no(x, "from(1)", () -> x.from(1));
            no(x, "undo()", () -> x.undo());
            LidForEach other = new LidForEach();
            x.box(0, 1, 1);
            x.image(0);
            due("count(0) of another one", other.count(0), 0);
            due("from(0) of another one", other.from(0), -3);
        });
    }

    private static void box() {
        inPromise(2, "A BOX: its number.", () -> {
            LidForEach x = new LidForEach();
            due("box(0, 1, 0)", x.box(0, 1, 0), 0);
            due("box(2, 9, 20)", x.box(2, 9, 20), 1);
            due("how many", x.count(0), 2);
            // behind one that was refused, the number is the next yet
            x.box(0, 0, 0);
            due("box(1, 5, 10)", x.box(1, 5, 10), 2);
        });
        inPromise(2, "BAD;", () -> {
            LidForEach x = new LidForEach();
            badBeside(x, 0, 2, "box of a form", form -> x.box(form, 1, 0));
            badBeside(x, 1, 9, "box of a size", size -> x.box(0, size, 0));
            badBeside(x, 0, 20, "box that holds", holds -> x.box(0, 1, holds));
            bad(x, "box(-1, 0, 21)", () -> x.box(-1, 0, 21));
        });
        inPromise(2, "FULL: 7.", () -> {
            LidForEach x = likeBoxes(6, 0, 1, 0);
            due("the seventh", x.box(2, 9, 20), 6);
            full(x, "the eighth", () -> x.box(0, 1, 0));
            full(x, "the eighth again", () -> x.box(2, 9, 20));
            bad(x, "the eighth, of no form", () -> x.box(3, 1, 0));
            due("how many", x.count(0), 7);
        });
    }

    private static void lid() {
        inPromise(3, "A LID: its number.", () -> {
            LidForEach x = new LidForEach();
            due("lid(0, 0, 1)", x.lid(0, 0, 1), 0);
            due("lid(5, 2, 9)", x.lid(5, 2, 9), 1);
            due("how many", x.count(1), 2);
            x.lid(0, 0, 0);
            due("lid(3, 1, 5)", x.lid(3, 1, 5), 2);
        });
        inPromise(3, "BAD;", () -> {
            LidForEach x = new LidForEach();
            badBeside(x, 0, 5, "lid of a kind", kind -> x.lid(kind, 0, 1));
            badBeside(x, 0, 2, "lid of a form", form -> x.lid(0, form, 1));
            badBeside(x, 1, 9, "lid of a size", size -> x.lid(0, 0, size));
            bad(x, "lid(6, 3, 10)", () -> x.lid(6, 3, 10));
        });
        inPromise(3, "FULL: 7.", () -> {
            LidForEach x = withLikeLids(new LidForEach(), 6, 0, 0, 1);
            due("the seventh", x.lid(5, 2, 9), 6);
            full(x, "the eighth", () -> x.lid(0, 0, 1));
            full(x, "the eighth again", () -> x.lid(5, 2, 9));
            bad(x, "the eighth, of no kind", () -> x.lid(6, 0, 1));
            due("how many", x.count(1), 7);
        });
    }

    private static void put() {
        inPromise(4, "A LID is put on a BOX: 1.", () -> {
            LidForEach x = withLikeLids(likeBoxes(7, 0, 4, 1), 7, 0, 0, 4);
            for (int i = 0; i < 7; i++) {
                due("put(" + i + ", " + (6 - i) + ")", x.put(i, 6 - i), 1);
                due("on(" + (6 - i) + ")", x.on(6 - i), i);
                due("how many are on", x.count(2), i + 1);
            }
        });
        inPromise(4, "BAD;", () -> {
            LidForEach x = withLids(boxes(0, 4, 1, 1, 4, 1), 0, 0, 4, 0, 0, 4, 0, 0, 4);
            badBeside(x, 0, 2, "put of a lid", lid -> x.put(lid, 0));
            badBeside(x, 0, 1, "put on a box", box -> x.put(0, box));
            x.put(0, 0);
            bad(x, "put of a lid that is on, on no box", () -> x.put(0, 2));
            bad(x, "put of no lid, where one is on", () -> x.put(3, 0));
            LidForEach none = new LidForEach();
            bad(none, "put(0, 0) of none", () -> none.put(0, 0));
        });
        inPromise(4, "NO: it does not FIT,", () -> {
            LidForEach x = withLids(boxes(0, 4, 10), 0, 0, 3, 0, 0, 5, 0, 1, 4, 3, 0, 4, 0, 0, 4);
            for (int lid = 0; lid < 4; lid++) {
                int one = lid;
                no(x, "put(" + lid + ", 0)", () -> x.put(one, 0));
            }
            due("put(4, 0)", x.put(4, 0), 1);
        });
        inPromise(4, "it is on one,", () -> {
            LidForEach x = withLids(boxes(0, 4, 1, 0, 4, 1), 0, 0, 4);
            x.put(0, 1);
            no(x, "put(0, 0)", () -> x.put(0, 0));
            due("on(0)", x.on(0), -1);
            x.off(0);
            due("put(0, 0) when it is off", x.put(0, 0), 1);
        });
        inPromise(4, "or one is on.", () -> {
            LidForEach x = withLids(boxes(0, 4, 1), 0, 0, 4, 0, 0, 4);
            x.put(0, 0);
            no(x, "put(1, 0)", () -> x.put(1, 0));
            no(x, "put(0, 0) again", () -> x.put(0, 0));
            due("on(0)", x.on(0), 0);
            x.undo();
            due("put(1, 0) when none is on", x.put(1, 0), 1);
        });
    }

    private static void off() {
        inPromise(5, "A LID is taken off: the BOX.", () -> {
            LidForEach x = withLikeLids(likeBoxes(7, 0, 4, 1), 7, 0, 0, 4);
            x.put(0, 6);
            x.put(6, 0);
            due("off(0)", x.off(0), 6);
            row("on", x::on, 6, -1, -1, -1, -1, -1, -1);
            due("off(6)", x.off(6), 0);
            due("how many are on", x.count(2), 0);
        });
        inPromise(5, "BAD;", () -> {
            LidForEach x = withLids(boxes(0, 4, 1, 0, 4, 1, 0, 4, 1), 0, 0, 4, 0, 0, 4);
            x.put(0, 2);
            badBeside(x, 0, 1, "off", x::off);
            LidForEach none = boxes(0, 4, 1);
            badBeside(none, 0, -1, "off where no lid is", none::off);
        });
        inPromise(5, "NO: it is on none.", () -> {
            LidForEach x = withLids(boxes(0, 4, 1, 0, 4, 1), 0, 0, 4, 0, 0, 4);
            no(x, "off(0) at first", () -> x.off(0));
            x.put(1, 0);
            no(x, "off(0) of another one", () -> x.off(0));
            x.off(1);
            no(x, "off(1) again", () -> x.off(1));
            x.undo();
            x.undo();
            no(x, "off(1) when it is undone", () -> x.off(1));
        });
    }

    private static void undo() {
        inPromise(6, "UNDO: 1.", () -> {
            LidForEach x = withLids(boxes(0, 4, 1), 0, 0, 4);
            x.put(0, 0);
            due("undo()", x.undo(), 1);
            due("on(0)", x.on(0), -1);
            due("put(0, 0)", x.put(0, 0), 1);
            due("off(0)", x.off(0), 0);
            due("undo()", x.undo(), 1);
            due("on(0)", x.on(0), 0);
        });
        inPromise(6, "NO: none may be.", () -> {
            LidForEach x = withLids(boxes(0, 4, 1), 0, 0, 4);
            no(x, "undo() at first", () -> x.undo());
            x.put(0, 0);
            x.undo();
            no(x, "undo() of what is undone", () -> x.undo());
            no(x, "undo() again", () -> x.undo());
            due("on(0)", x.on(0), -1);
        });
    }

    private static void whichIsOn() {
        inPromise(7, "The LID on a BOX. NONE.", () -> {
            LidForEach x = withLikeLids(likeBoxes(2, 0, 4, 1), 7, 0, 0, 4);
            row("on", x::on, -1, -1);
            x.put(6, 1);
            x.put(0, 0);
            row("on", x::on, 0, 6);
            quiet(x, "on(1)", () -> x.on(1), 6);
            x.off(6);
            quiet(x, "on(1)", () -> x.on(1), -1);
        });
        inPromise(7, "BAD: -10.", () -> {
            LidForEach x = withLids(boxes(0, 4, 1, 0, 4, 1), 0, 0, 4, 0, 0, 4, 0, 0, 4);
            badBeside(x, 0, 1, -10, "on", x::on);
            LidForEach none = new LidForEach();
            badBeside(none, 0, -1, -10, "on where no box is", none::on);
        });
    }

    private static void grasp() {
        inPromise(8, "GRASPS of a BOX: what they were.", () -> {
            LidForEach x = likeBoxes(7, 0, 1, 0);
            int[] told = {0, 9, 9, 0, 5};
            int[] were = {1, 0, 9, 9, 0};
            for (int i = 0; i < 5; i++) {
                due("grasp(6, " + told[i] + ")", x.grasp(6, told[i]), were[i]);
                due("grasp(0, 1)", x.grasp(0, 1), 1);
            }
        });
        inPromise(8, "BAD.", () -> {
            LidForEach x = withLids(boxes(0, 4, 1, 0, 4, 1), 0, 0, 4, 0, 0, 4, 0, 0, 4);
            badBeside(x, 0, 1, "grasp of a box", box -> x.grasp(box, 1));
            badBeside(x, 0, 9, "grasp so often", n -> x.grasp(0, n));
            due("grasp(0, 1)", x.grasp(0, 1), 1);
            LidForEach none = new LidForEach();
            badBeside(none, 0, -1, "grasp where no box is", box -> none.grasp(box, 1));
        });
    }

    private static void sort() {
        inPromise(9, "A SORT: its number.", () -> {
            LidForEach x = new LidForEach();
            due("sort(0, 0, 1, 1)", x.sort(0, 0, 1, 1), 0);
            due("sort(5, 2, 9, 50)", x.sort(5, 2, 9, 50), 1);
            x.sort(0, 0, 0, 1);
            due("sort(3, 1, 5, 25)", x.sort(3, 1, 5, 25), 2);
            due("how many", x.count(3), 3);
        });
        inPromise(9, "BAD;", () -> {
            LidForEach x = new LidForEach();
            badBeside(x, 0, 5, "sort of a kind", kind -> x.sort(kind, 0, 1, 1));
            badBeside(x, 0, 2, "sort of a form", form -> x.sort(0, form, 1, 1));
            badBeside(x, 1, 9, "sort of a size", size -> x.sort(0, 0, size, 1));
            badBeside(x, 1, 50, "sort for a price", price -> x.sort(0, 0, 1, price));
        });
        inPromise(9, "FULL: 4.", () -> {
            LidForEach x = new LidForEach();
            for (int i = 0; i < 4; i++) {
                due("sort", x.sort(0, 0, 1, 1), i);
            }
            full(x, "the fifth", () -> x.sort(0, 0, 1, 1));
            bad(x, "the fifth, for nothing", () -> x.sort(0, 0, 1, 0));
            due("how many", x.count(3), 4);
            x.forget(2);
            due("the first when they are forgotten", x.sort(0, 0, 1, 1), 0);
        });
    }

    private static void eye() {
        inPromise(10, "CHANCE of a LID: what it was.", () -> {
            LidForEach x = withLikeLids(new LidForEach(), 7, 0, 0, 1);
            int[] told = {0, 10, 10, 0, 7};
            int[] was = {5, 0, 10, 10, 0};
            for (int i = 0; i < 5; i++) {
                due("eye(6, " + told[i] + ")", x.eye(6, told[i]), was[i]);
                due("eye(0, 5)", x.eye(0, 5), 5);
            }
        });
        inPromise(10, "BAD.", () -> {
            LidForEach x = withLids(boxes(0, 4, 1, 0, 4, 1, 0, 4, 1), 0, 0, 4, 0, 0, 4);
            badBeside(x, 0, 1, "eye on a lid", lid -> x.eye(lid, 5));
            badBeside(x, 0, 10, "eye of a chance", c -> x.eye(0, c));
            due("eye(0, 5)", x.eye(0, 5), 5);
            LidForEach none = boxes(0, 4, 1);
            badBeside(none, 0, -1, "eye where no lid is", lid -> none.eye(lid, 5));
        });
    }

    private static void fits() {
        inPromise(14, "LIDS that FIT a BOX, as bits.", () -> {
            LidForEach x = boxes(0, 4, 1, 1, 9, 1);
            due("fits(0) without lids", x.fits(0), 0);
            withLikeLids(x, 7, 0, 0, 4);
            due("fits(0): all", x.fits(0), 127);
            due("fits(1): none", x.fits(1), 0);
            LidForEach ends = withLids(boxes(0, 4, 1), 0, 0, 4, 0, 0, 3, 0, 1, 4, 0, 0, 5, 0, 2, 4, 3, 0, 3, 0, 0, 4);
            due("fits(0): the first and the last", ends.fits(0), 65);
        });
        inPromise(14, "BAD.", () -> {
            LidForEach x = withLids(boxes(0, 4, 1, 0, 4, 1), 0, 0, 4, 0, 0, 4, 0, 0, 4);
            badBeside(x, 0, 1, "fits", x::fits);
            LidForEach none = withLids(new LidForEach(), 0, 0, 4);
            badBeside(none, 0, -1, "fits where no box is", none::fits);
        });
    }
}
