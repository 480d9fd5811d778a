/** Piles, shelves, shops, tries, nuts and bolts: promises 21 to 25, and their terms. */
final class OrderEdges extends Sentences {
    private OrderEdges() {
    }

    static void all() {
        nestTerms();
        shelfTerms();
        buyTerms();
        triesTerms();
        nutsTerms();
        piles();
        shelf();
        buy();
        tries();
        nuts();
    }

    private static boolean goesInto(int inner, int outer) {
        boolean forms = inner % 3 == outer % 3 || inner % 3 == 0 && outer % 3 == 2;
        return forms && inner / 3 < outer / 3;
    }

    private static void nestTerms() {
        inTerms("NEST: a BOX goes into another one of its FORM and a greater SIZE, or a round one into a square one"
            + " of a greater SIZE;", () -> {
            // every box beside every other: forms by 3, sizes above
            for (int one = 0; one < 27; one++) {
                for (int other = 0; other < 27; other++) {
                    LidForEach x = boxes(one % 3, 1 + one / 3, 0, other % 3, 1 + other / 3, 0);
                    boolean first = goesInto(one, other);
                    boolean second = goesInto(other, one);
                    due("piles of " + one + " and " + other, x.piles(-1), first || second ? 1 : 2);
                    row("piles of " + one + " and " + other, x::piles, first ? 1 : -1, second ? 0 : -1);
                }
            }
        });
        inTerms("each holds one at most (that one may hold another ..).", () -> {
            due("piles of two in one", boxes(0, 1, 0, 0, 1, 0, 0, 2, 0).piles(-1), 2);
            due("piles of six in one", boxes(0, 1, 0, 0, 1, 0, 0, 1, 0, 0, 1, 0, 0, 1, 0, 0, 1, 0, 0, 2, 0).piles(-1), 6);
            LidForEach chain = boxes(0, 7, 0, 0, 6, 0, 0, 5, 0, 0, 4, 0, 0, 3, 0, 0, 2, 0, 0, 1, 0);
            due("piles of seven in one another", chain.piles(-1), 1);
            row("piles", chain::piles, -1, 0, 1, 2, 3, 4, 5);
        });
        inTerms("PILES: the fewest into which all go so.", () -> {
            due("piles of none", new LidForEach().piles(-1), 0);
            due("piles of one", boxes(0, 1, 0).piles(-1), 1);
            due("piles of seven alike", likeBoxes(7, 0, 9, 0).piles(-1), 7);
            // if the round one went into the square one, nothing would be left for the other square one
            LidForEach x = boxes(0, 1, 0, 2, 1, 0, 2, 2, 0, 0, 2, 0);
            due("piles", x.piles(-1), 2);
            row("piles", x::piles, 3, 2, -1, -1);
        });
        inTerms("IN: in which one a BOX is then (of like ones the first row: BOX by BOX, the least ahead, none"
            + " behind all); NONE: in none.", () -> {
            row("none behind all", boxes(0, 1, 0, 0, 1, 0, 0, 2, 0)::piles, 2, -1, -1);
            row("the least ahead", boxes(0, 1, 0, 0, 2, 0, 2, 2, 0)::piles, 1, -1, -1);
            row("the least by number, not by size", boxes(0, 1, 0, 0, 9, 0, 2, 2, 0)::piles, 1, -1, -1);
            row("as few go ahead of the least", boxes(0, 1, 0, 0, 3, 0, 0, 2, 0)::piles, 2, -1, 1);
            row("in none", likeBoxes(7, 1, 1, 0)::piles, -1, -1, -1, -1, -1, -1, -1);
        });
    }

    private static void shelfTerms() {
        inTerms("SHELF: BOXES in an order from 0 on;", () -> {
            LidForEach x = likeBoxes(7, 0, 1, 0);
            row("shelf", x::shelf, 0, 1, 2, 3, 4, 5, 6);
            due("shelf(7)", x.shelf(7), -5);
            due("shelf(0) of none", new LidForEach().shelf(0), -5);
        });
        inTerms("GRASPS told: BOX b is taken n times (0 .. 9; 1 at first);", () -> {
            LidForEach x = likeBoxes(2, 0, 1, 0);
            due("shelf(-1) at first", x.shelf(-1), 3);
            due("grasp(1, 9)", x.grasp(1, 9), 1);
            due("shelf(-1)", x.shelf(-1), 11);
            due("grasp(1, 0)", x.grasp(1, 0), 9);
            due("shelf(-1)", x.shelf(-1), 1);
            due("grasp(0, 0)", x.grasp(0, 0), 1);
            due("shelf(-1)", x.shelf(-1), 0);
            badBeside(x, 0, 9, "grasp", n -> x.grasp(0, n));
            due("a box that comes is taken once", x.box(0, 1, 0) + x.shelf(-1), 3);
        });
        inTerms("a grasp at place p costs p and 1; the order by which all cost least together;", () -> {
            LidForEach x = likeBoxes(7, 0, 1, 0);
            due("shelf(-1)", x.shelf(-1), 28);
            int[] grasps = {3, 0, 9, 4, 1, 8, 2};
            for (int box = 0; box < 7; box++) {
                x.grasp(box, grasps[box]);
            }
            row("shelf", x::shelf, 2, 5, 3, 0, 6, 4, 1);
            due("shelf(-1)", x.shelf(-1), 9 + 16 + 12 + 12 + 10 + 6);
            for (int box = 0; box < 7; box++) {
                x.grasp(box, 9);
            }
            due("shelf(-1)", x.shelf(-1), 252);
        });
        inTerms("of like ones the first: how much, which at a place.", () -> {
            LidForEach x = likeBoxes(5, 0, 1, 0);
            x.grasp(4, 9);
            x.grasp(2, 9);
            x.grasp(0, 0);
            x.grasp(1, 0);
            row("shelf", x::shelf, 2, 4, 3, 0, 1);
            due("shelf(-1)", x.shelf(-1), 9 + 18 + 3);
        });
    }

    private static void buyTerms() {
        inTerms("SORTS to buy: up to 4, as they come: a KIND, FORM, SIZE,", () -> {
            LidForEach x = boxes(2, 9, 20);
            int[][] sorts = {{0, 0, 1}, {5, 2, 9}, {3, 2, 9}, {0, 2, 9}};
            for (int i = 0; i < 4; i++) {
                due("sort", x.sort(sorts[i][0], sorts[i][1], sorts[i][2], 50 - i), i);
            }
            full(x, "a fifth", () -> x.sort(0, 2, 9, 1));
            // the fourth is cheapest of those that fit, the warped one does not
            due("buy(-1)", x.buy(-1), 47);
            row("buy", x::buy, 0, 0, 0, 1);
            LidForEach none = new LidForEach();
            badBeside(none, 0, 5, "sort of a kind", kind -> none.sort(kind, 0, 1, 1));
            badBeside(none, 0, 2, "sort of a form", form -> none.sort(0, form, 1, 1));
            badBeside(none, 1, 9, "sort of a size", size -> none.sort(0, 0, size, 1));
        });
        inTerms("PRICE (1 .. 50):", () -> {
            LidForEach x = likeBoxes(7, 0, 4, 0);
            due("sort for 50", x.sort(0, 0, 4, 50), 0);
            due("buy(-1)", x.buy(-1), 350);
            due("sort for 1", x.sort(0, 0, 4, 1), 1);
            due("buy(-1)", x.buy(-1), 7);
            badBeside(x, 1, 50, "sort", price -> x.sort(0, 0, 4, price));
        });
        inTerms("the least that all LIDS cost that one must buy so that each BOX has one at once with those there"
            + " are;", () -> {
            due("buy(-1) of none", new LidForEach().buy(-1), 0);
            LidForEach lidded = withLids(boxes(0, 4, 0), 0, 0, 4);
            due("buy(-1) where each has one", lidded.buy(-1), 0);
            lidded.sort(0, 0, 4, 9);
            due("buy(-1) where each has one", lidded.buy(-1), 0);
            row("buy", lidded::buy, 0);
            // the lid there is goes where more is saved
            LidForEach x = withLids(boxes(0, 3, 0, 0, 4, 0), 1, 0, 4);
            x.sort(0, 0, 3, 7);
            x.sort(0, 0, 4, 9);
            due("buy(-1)", x.buy(-1), 7);
            row("buy", x::buy, 1, 0);
            // one can not be bought for, so the lid goes there
            LidForEach forced = withLids(boxes(0, 3, 0, 0, 4, 0), 1, 0, 4);
            forced.sort(0, 0, 4, 50);
            due("buy(-1)", forced.buy(-1), 50);
            // one bought is on one box alone
            LidForEach two = likeBoxes(2, 0, 4, 0);
            two.sort(5, 0, 9, 6);
            due("buy(-1)", two.buy(-1), 12);
        });
        inTerms("how many of a SORT then (of like ones the fewest of the first SORT, ..); none.", () -> {
            LidForEach x = likeBoxes(7, 0, 4, 0);
            for (int i = 0; i < 3; i++) {
                x.sort(0, 0, 4, 5);
            }
            row("buy: of the last", x::buy, 0, 0, 7);
            LidForEach first = withLids(boxes(0, 4, 0, 0, 3, 0), 1, 0, 4);
            first.sort(0, 0, 4, 5);
            first.sort(0, 0, 3, 5);
            row("buy: the lid spares the first", first::buy, 0, 1);
            LidForEach turned = withLids(boxes(0, 4, 0, 0, 3, 0), 1, 0, 4);
            turned.sort(0, 0, 3, 5);
            turned.sort(0, 0, 4, 5);
            row("buy: the lid spares the first", turned::buy, 0, 1);
            // the price goes ahead of how many
            LidForEach price = likeBoxes(7, 0, 4, 0);
            price.sort(0, 0, 4, 1);
            price.sort(0, 0, 4, 2);
            row("buy: the cheaper", price::buy, 7, 0);
            LidForEach none = boxes(0, 4, 0, 1, 1, 0);
            none.sort(0, 0, 4, 1);
            due("buy(-1): none", none.buy(-1), -1);
            row("buy: none", none::buy, -1);
        });
    }

    private static LidForEach lidsByChance(int... chances) {
        LidForEach x = new LidForEach();
        for (int i = 0; i < chances.length; i++) {
            x.lid(0, 0, 1);
            x.eye(i, chances[i]);
        }
        return x;
    }

    private static void meanIs(LidForEach x, long above, long below) {
        due("tries(-1)", x.tries(-1), 1);
        fraction(x, above, below);
    }

    private static void triesTerms() {
        inTerms("TRIES: by eye one does not know which LID is whose: one of the BOXES stays open, the LIDS are tried"
            + " one by one:", () -> {
            for (int n = 0; n <= 7; n++) {
                meanIs(lidsByChance(new int[n]), n, 1);
            }
            // whether they fit indeed is not asked
            LidForEach x = withLids(boxes(1, 9, 20), 0, 0, 1, 0, 0, 1);
            meanIs(x, 3, 2);
        });
        inTerms("CHANCE c of 10 (0 .. 10) told of each LID (5 at first) that it FITS, apart:", () -> {
            LidForEach x = withLikeLids(new LidForEach(), 7, 0, 0, 1);
            due("eye(0, 5)", x.eye(0, 5), 5);
            meanIs(x, 127, 64);
            due("eye(6, 10)", x.eye(6, 10), 5);
            meanIs(x, 1, 1);
            due("eye(6, 0)", x.eye(6, 0), 10);
            meanIs(x, 127, 64);
            badBeside(x, 0, 10, "eye", c -> x.eye(0, c));
            meanIs(lidsByChance(9, 9, 9), 111, 100);
            meanIs(lidsByChance(1, 1, 1, 1, 1, 1, 1), 5217031, 1000000);
        });
        inTerms("the order of all LIDS by which it takes fewest tries in the mean till one FITS, or all are tried"
            + " (of like ones the first):", () -> {
            row("tries", lidsByChance(0, 3, 9, 3, 0, 9, 4)::tries, 2, 5, 6, 1, 3, 0, 4);
            meanIs(lidsByChance(2, 6), 7, 5);
            meanIs(lidsByChance(6, 2), 7, 5);
            row("tries: behind a sure one by number", lidsByChance(0, 9, 10, 1, 8)::tries, 2, 0, 1, 3, 4);
            row("tries: behind the first, if it is sure", lidsByChance(10, 3, 9)::tries, 0, 1, 2);
            row("tries: of two sure ones the first", lidsByChance(1, 10, 0, 10)::tries, 1, 0, 2, 3);
            row("tries: alike", lidsByChance(5, 5, 5)::tries, 0, 1, 2);
            row("tries: none fits", lidsByChance(0, 0, 0)::tries, 0, 1, 2);
        });
        inTerms("how many in the mean: THE FRACTION; the i-th LID.", () -> {
            LidForEach x = lidsByChance(4, 8);
            meanIs(x, 6, 5);
            x.nuts(3, 2);
            row("tries", x::tries, 1, 0);
            fraction(x, 8, 3);
            meanIs(x, 6, 5);
        });
    }

    private static void nutsTerms() {
        inTerms("NUTS and BOLTS: n (1 .. 6) of each, each nut FITS one bolt:", () -> {
            LidForEach x = new LidForEach();
            int[] ways = {1, 2, 6, 24, 120, 720};
            for (int n = 1; n <= 6; n++) {
                due("nuts(" + n + ", 0)", x.nuts(n, 0), ways[n - 1]);
            }
            badBeside(x, 1, 6, "nuts", n -> x.nuts(n, 0));
        });
        inTerms("nut by nut, it is tried on the bolts that are free yet, the least ahead, till it FITS (on the last"
            + " one that is free without a try):", () -> {
            LidForEach x = new LidForEach();
            due("nuts(1, 1): without a try", x.nuts(1, 1), 0);
            due("nuts(2, 1): one try", x.nuts(2, 1), 1);
            x.nuts(1, 2);
            fraction(x, 0, 1);
            x.nuts(2, 2);
            fraction(x, 1, 1);
            // 1, 2 or 2 tries of the first nut, and 1 of the second
            x.nuts(3, 2);
            fraction(x, 8, 3);
        });
        inTerms("of all WAYS in which they may FIT how many tries in the worst one, in the mean (THE"
            + " FRACTION).", () -> {
            LidForEach x = new LidForEach();
            int[] worst = {0, 1, 3, 6, 10, 15};
            int[] above = {0, 1, 8, 59, 463, 221};
            int[] below = {1, 1, 3, 12, 60, 20};
            for (int n = 1; n <= 6; n++) {
                due("nuts(" + n + ", 1)", x.nuts(n, 1), worst[n - 1]);
                due("nuts(" + n + ", 2)", x.nuts(n, 2), 1);
                fraction(x, above[n - 1], below[n - 1]);
            }
        });
    }

    private static void piles() {
        inPromise(21, "PILES (box = NONE),", () -> {
            LidForEach x = boxes(0, 1, 0, 0, 2, 0, 1, 1, 0);
            quiet(x, "piles(NONE)", () -> x.piles(LidForEach.NONE), 2);
        });
        inPromise(21, "IN (NONE).", () -> {
            LidForEach x = boxes(0, 1, 0, 1, 1, 0, 0, 2, 0);
            quiet(x, "piles(0)", () -> x.piles(0), 2);
            quiet(x, "piles(2)", () -> x.piles(2), LidForEach.NONE);
        });
        inPromise(21, "BAD: -10.", () -> {
            LidForEach x = withLikeLids(likeBoxes(2, 0, 1, 0), 3, 0, 0, 1);
            badBeside(x, -1, 1, -10, "piles", x::piles);
            LidForEach none = new LidForEach();
            badBeside(none, -1, -1, -10, "piles where no box is", none::piles);
        });
    }

    private static void shelf() {
        inPromise(22, "SHELF: how much (place = NONE), which at a place.", () -> {
            LidForEach x = likeBoxes(2, 0, 1, 0);
            x.grasp(1, 2);
            quiet(x, "shelf(NONE)", () -> x.shelf(LidForEach.NONE), 4);
            quiet(x, "shelf(0)", () -> x.shelf(0), 1);
            quiet(x, "shelf(1)", () -> x.shelf(1), 0);
            due("shelf(NONE) of none", new LidForEach().shelf(-1), 0);
        });
        inPromise(22, "-5: not so many.", () -> {
            LidForEach x = withLikeLids(likeBoxes(2, 0, 1, 0), 3, 0, 0, 1);
            for (int place : new int[] {2, 3, 6, 7, 100, MAX}) {
                quiet(x, "shelf(" + place + ")", () -> x.shelf(place), -5);
            }
            LidForEach none = new LidForEach();
            quiet(none, "shelf(0) of none", () -> none.shelf(0), -5);
        });
        inPromise(22, "BAD: -10.", () -> {
            LidForEach x = likeBoxes(2, 0, 1, 0);
            bad10(x, "shelf(-2)", () -> x.shelf(-2));
            bad10(x, "shelf(-5)", () -> x.shelf(-5));
            bad10(x, "shelf(MIN)", () -> x.shelf(MIN));
        });
    }

    private static void buy() {
        inPromise(23, "What to buy: how much (sort = NONE), how many of a SORT.", () -> {
            LidForEach x = boxes(0, 4, 0, 0, 4, 0, 1, 4, 0);
            x.sort(0, 0, 4, 5);
            x.sort(0, 1, 4, 7);
            quiet(x, "buy(NONE)", () -> x.buy(LidForEach.NONE), 17);
            quiet(x, "buy(0)", () -> x.buy(0), 2);
            quiet(x, "buy(1)", () -> x.buy(1), 1);
        });
        inPromise(23, "NONE: none.", () -> {
            LidForEach x = boxes(0, 4, 0);
            quiet(x, "buy(NONE) without sorts", () -> x.buy(-1), LidForEach.NONE);
            x.sort(0, 0, 3, 1);
            quiet(x, "buy(NONE)", () -> x.buy(-1), LidForEach.NONE);
            quiet(x, "buy(0)", () -> x.buy(0), LidForEach.NONE);
            LidForEach seven = withLikeLids(likeBoxes(7, 0, 4, 0), 6, 0, 0, 4);
            quiet(seven, "buy(NONE): one is lacking", () -> seven.buy(-1), LidForEach.NONE);
            seven.lid(0, 0, 4);
            quiet(seven, "buy(NONE): none is lacking", () -> seven.buy(-1), 0);
            // for each of seven there is none to be had
            LidForEach all = likeBoxes(7, 0, 9, 0);
            all.sort(5, 0, 8, 1);
            quiet(all, "buy(NONE)", () -> all.buy(-1), LidForEach.NONE);
        });
        inPromise(23, "BAD: -10.", () -> {
            LidForEach x = boxes(0, 4, 0, 0, 4, 0, 0, 4, 0);
            badBeside(x, -1, -1, -10, "buy where no sort is", x::buy);
            x.sort(0, 0, 4, 1);
            x.sort(0, 0, 4, 1);
            badBeside(x, -1, 1, -10, "buy", x::buy);
        });
    }

    private static void tries() {
        inPromise(24, "TRIES: the mean is THE FRACTION: 1 (i = NONE),", () -> {
            LidForEach x = withLikeLids(new LidForEach(), 2, 0, 0, 1);
            due("tries(NONE)", x.tries(LidForEach.NONE), 1);
            fraction(x, 3, 2);
            row("status", x::status, 0, 0, 0);
            LidForEach none = new LidForEach();
            none.nuts(3, 2);
            due("tries(NONE) of none", none.tries(-1), 1);
            fraction(none, 0, 1);
        });
        inPromise(24, "the i-th LID.", () -> {
            LidForEach x = lidsByChance(1, 9);
            quiet(x, "tries(0)", () -> x.tries(0), 1);
            quiet(x, "tries(1)", () -> x.tries(1), 0);
        });
        inPromise(24, "-5: not so many.", () -> {
            LidForEach x = withLids(boxes(0, 1, 0, 0, 1, 0, 0, 1, 0), 0, 0, 1, 0, 0, 1);
            for (int i : new int[] {2, 3, 6, 7, 142, MAX}) {
                quiet(x, "tries(" + i + ")", () -> x.tries(i), -5);
            }
            LidForEach none = new LidForEach();
            quiet(none, "tries(0) of none", () -> none.tries(0), -5);
        });
        inPromise(24, "BAD: -10.", () -> {
            LidForEach x = lidsByChance(1, 9);
            bad10(x, "tries(-2)", () -> x.tries(-2));
            bad10(x, "tries(-5)", () -> x.tries(-5));
            bad10(x, "tries(MIN)", () -> x.tries(MIN));
        });
    }

    private static void nuts() {
        inPromise(25, "NUTS and BOLTS: WAYS (0), the worst (1),", () -> {
            LidForEach x = new LidForEach();
            quiet(x, "nuts(6, 0)", () -> x.nuts(6, 0), 720);
            quiet(x, "nuts(6, 1)", () -> x.nuts(6, 1), 15);
            quiet(x, "nuts(1, 0)", () -> x.nuts(1, 0), 1);
            quiet(x, "nuts(1, 1)", () -> x.nuts(1, 1), 0);
        });
        inPromise(25, "the mean is THE FRACTION: 1 (2).", () -> {
            LidForEach x = new LidForEach();
            due("nuts(6, 2)", x.nuts(6, 2), 1);
            fraction(x, 221, 20);
            due("nuts(1, 2)", x.nuts(1, 2), 1);
            fraction(x, 0, 1);
        });
        inPromise(25, "BAD.", () -> {
            LidForEach x = new LidForEach();
            x.nuts(3, 2);
            badBeside(x, 1, 6, "nuts of n", n -> x.nuts(n, 2));
            badBeside(x, 0, 2, "nuts, what", what -> x.nuts(3, what));
            fraction(x, 8, 3);
        });
    }
}
