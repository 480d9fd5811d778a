import java.math.BigInteger;

/** What is lent, what is in which box, evenings: promises 26 to 32, and their terms. */
final class LentEdges extends Sentences {
    private LentEdges() {
    }

    static void all() {
        lentTerms();
        hintTerms();
        wayTerms();
        eveningTerms();
        lend();
        hasAndWrong();
        hint();
        forget();
        labels();
        evening();
    }

    private static LidForEach lids(int n) {
        return withLikeLids(new LidForEach(), n, 0, 0, 4);
    }

    private static void lentTerms() {
        inTerms("LENT: up to 8 tales, as they come:", () -> {
            LidForEach x = lids(1);
            for (int i = 0; i < 8; i++) {
                due("lend", x.lend(i % 2, 0, 1 - i % 2), i);
            }
            full(x, "a ninth", () -> x.lend(0, 0, 1));
            due("has(0)", x.has(0), 0);
            due("how many", x.count(4), 8);
        });
        inTerms("PERSON a (0 .. 4) gave a LID to PERSON b:", () -> {
            LidForEach x = lids(7);
            due("lend(0, 6, 4)", x.lend(0, 6, 4), 0);
            due("lend(4, 6, 0)", x.lend(4, 6, 0), 1);
            badBeside(x, 0, 4, "one who gave", a -> x.lend(a, 0, 1));
            badBeside(x, 0, 4, "one to whom", b -> x.lend(1, 0, b));
            badBeside(x, 0, 6, "what was lent", lid -> x.lend(0, lid, 1));
        });
        inTerms("it is at b then, if it was at a (at PERSON 0 at first).", () -> {
            LidForEach x = lids(2);
            row("has at first", x::has, 0, 0);
            x.lend(0, 1, 3);
            row("has", x::has, 0, 3);
            x.lend(2, 1, 4);
            row("has: it was not there", x::has, 0, 3);
            x.lend(3, 1, 2);
            x.lend(2, 1, 4);
            row("has: now it was", x::has, 0, 4);
            x.lend(4, 0, 1);
            row("has: it was at 0", x::has, 0, 4);
        });
        inTerms("HAS: who has a LID behind all tales;", () -> {
            LidForEach x = lids(1);
            int[] way = {0, 4, 3, 2, 1, 0, 2, 4, 0};
            for (int i = 0; i < 8; i++) {
                x.lend(way[i], 0, way[i + 1]);
                due("has(0)", x.has(0), way[i + 1]);
            }
            x.forget(0);
            due("has(0) without tales", x.has(0), 0);
            x.lid(0, 0, 4);
            due("has(1) of one that comes", x.has(1), 0);
        });
        inTerms("WRONG: the first tale by which one gave what one had not; none.", () -> {
            LidForEach x = lids(2);
            due("wrong() without tales", x.wrong(), -1);
            x.lend(0, 0, 1);
            x.lend(1, 0, 2);
            due("wrong(): none", x.wrong(), -1);
            x.lend(2, 1, 3);
            due("wrong(): another lid is at 2", x.wrong(), 2);
            x.lend(4, 1, 3);
            due("wrong(): the first", x.wrong(), 2);
            LidForEach first = lids(1);
            first.lend(1, 0, 0);
            due("wrong(): tale 0", first.wrong(), 0);
            LidForEach last = lids(1);
            for (int i = 0; i < 7; i++) {
                last.lend(i % 2, 0, 1 - i % 2);
            }
            last.lend(0, 0, 2);
            due("wrong(): the last", last.wrong(), 7);
        });
    }

    private static void hintTerms() {
        inTerms("LABELS: foods 0 to BOXES less 1 are in BOXES, one in each.", () -> {
            int[] ways = {1, 1, 2, 6, 24, 120, 720, 5040};
            for (int n = 0; n <= 7; n++) {
                LidForEach x = likeBoxes(n, 0, 1, 0);
                due("labels(0, 0) of " + n, x.labels(0, 0), ways[n]);
                badBeside(x, 0, n - 1, -10, "labels of a food", f -> x.labels(f, 1));
                badBeside(x, 0, n - 1, "hint at a food", f -> x.hint(0, f, 0));
            }
            // with a box one more food comes, and hints stay
            LidForEach more = likeBoxes(2, 0, 1, 0);
            more.hint(0, 0, 1);
            due("labels(0, 0)", more.labels(0, 0), 1);
            more.box(0, 1, 0);
            due("labels(0, 0)", more.labels(0, 0), 2);
            due("labels(2, 1)", more.labels(2, 1), 5);
        });
        inTerms("HINTS, as they come (8 at most):", () -> {
            LidForEach x = likeBoxes(2, 0, 1, 0);
            for (int i = 0; i < 8; i++) {
                due("hint", x.hint(1, 0, i == 7 ? 1 : 0), i);
                due("labels(0, 0)", x.labels(0, 0), i == 7 ? 0 : 1);
            }
            full(x, "a ninth", () -> x.hint(1, 0, 0));
            due("how many", x.count(5), 8);
        });
        inTerms("sort 0: food f is in BOX b; 1: it is not;", () -> {
            LidForEach x = likeBoxes(3, 0, 1, 0);
            x.hint(0, 1, 2);
            due("labels(0, 0)", x.labels(0, 0), 2);
            row("where a food may be", f -> x.labels(f, 1), 3, 4, 3);
            LidForEach not = likeBoxes(3, 0, 1, 0);
            not.hint(1, 1, 2);
            due("labels(0, 0)", not.labels(0, 0), 4);
            row("where a food may be", f -> not.labels(f, 1), 7, 3, 7);
        });
        inTerms("2: f is in a lesser BOX (by number) than food b;", () -> {
            // sizes fall, so that by size it would be the other way
            LidForEach x = boxes(0, 9, 0, 0, 5, 0, 0, 1, 0);
            x.hint(2, 0, 1);
            due("labels(0, 0)", x.labels(0, 0), 3);
            row("where a food may be", f -> x.labels(f, 1), 3, 6, 7);
            x.hint(2, 1, 2);
            due("labels(0, 0)", x.labels(0, 0), 1);
            row("where a food may be", f -> x.labels(f, 1), 1, 2, 4);
            x.hint(2, 2, 0);
            due("labels(0, 0): round about", x.labels(0, 0), 0);
            LidForEach self = likeBoxes(3, 0, 1, 0);
            self.hint(2, 1, 1);
            due("labels(0, 0): in a lesser one than itself", self.labels(0, 0), 0);
        });
        inTerms("3: f is in a BOX of a lesser SIZE than food b is.", () -> {
            LidForEach x = boxes(0, 5, 0, 1, 3, 0, 2, 3, 0);
            x.hint(3, 0, 1);
            due("labels(0, 0)", x.labels(0, 0), 2);
            row("where a food may be", f -> x.labels(f, 1), 6, 1, 6);
            LidForEach turned = boxes(0, 3, 0, 1, 3, 0, 2, 5, 0);
            turned.hint(3, 1, 0);
            due("labels(0, 0)", turned.labels(0, 0), 2);
            row("where a food may be", f -> turned.labels(f, 1), 4, 3, 3);
            LidForEach seven = likeBoxes(6, 0, 8, 0);
            seven.box(0, 9, 0);
            seven.hint(3, 6, 0);
            due("labels(0, 0)", seven.labels(0, 0), 720);
            row("where a food may be", f -> seven.labels(f, 1), 64, 63, 63, 63, 63, 63, 63);
            LidForEach least = likeBoxes(6, 0, 2, 0);
            least.box(0, 1, 0);
            least.hint(3, 6, 0);
            due("labels(0, 0)", least.labels(0, 0), 720);
            row("where a food may be", f -> least.labels(f, 1), 63, 63, 63, 63, 63, 63, 64);
            LidForEach alike = likeBoxes(3, 0, 9, 0);
            alike.hint(3, 0, 1);
            due("labels(0, 0): as great is not lesser", alike.labels(0, 0), 0);
            LidForEach self = boxes(0, 1, 0, 0, 9, 0);
            self.hint(3, 1, 1);
            due("labels(0, 0): lesser than itself", self.labels(0, 0), 0);
        });
    }

    private static void wayTerms() {
        inTerms("WAYS that fit all: how many;", () -> {
            LidForEach x = boxes(0, 3, 0, 0, 3, 0, 0, 5, 0, 0, 1, 0);
            x.hint(1, 0, 0);
            due("labels(0, 0)", x.labels(0, 0), 18);
            x.hint(2, 0, 1);
            due("labels(0, 0)", x.labels(0, 0), 6);
            x.hint(3, 2, 3);
            due("labels(0, 0)", x.labels(0, 0), 2);
            x.hint(0, 2, 1);
            due("labels(0, 0)", x.labels(0, 0), 0);
            due("labels(0, 0) of none", new LidForEach().labels(0, 0), 1);
        });
        inTerms("in which BOXES a food may be (bits);", () -> {
            LidForEach x = likeBoxes(7, 0, 1, 0);
            row("where a food may be", f -> x.labels(f, 1), 127, 127, 127, 127, 127, 127, 127);
            x.hint(0, 6, 6);
            row("where a food may be", f -> x.labels(f, 1), 63, 63, 63, 63, 63, 63, 64);
            x.hint(0, 5, 6);
            row("where a food may be: no ways", f -> x.labels(f, 1), 0, 0, 0, 0, 0, 0, 0);
        });
        inTerms("the BOX that, looked into, leaves fewest ways in the worst case; of like ones the least;", () -> {
            LidForEach x = likeBoxes(4, 0, 1, 0);
            due("labels(0, 2): all alike", x.labels(0, 2), 0);
            x.hint(0, 0, 0);
            due("labels(0, 2): what is known is not asked", x.labels(0, 2), 1);
            x.hint(0, 1, 1);
            due("labels(0, 2)", x.labels(0, 2), 2);
            x.hint(0, 2, 2);
            due("labels(0, 2): one way alone", x.labels(0, 2), 0);
            // the worst case counts: of six ways 3, 4, 2, 4 are left
            LidForEach worst = likeBoxes(4, 0, 1, 0);
            worst.hint(1, 0, 0);
            worst.hint(2, 0, 1);
            due("labels(0, 2)", worst.labels(0, 2), 2);
        });
        inTerms("none: no ways.", () -> {
            LidForEach x = likeBoxes(2, 0, 1, 0);
            x.hint(2, 0, 1);
            quiet(x, "labels(0, 2)", () -> x.labels(0, 2), 0);
            x.hint(2, 1, 0);
            quiet(x, "labels(0, 2)", () -> x.labels(0, 2), LidForEach.NONE);
            LidForEach none = new LidForEach();
            quiet(none, "labels(0, 2) of none", () -> none.labels(0, 2), LidForEach.NONE);
        });
    }

    /** How many of seven boxes were drawn, by numbers that know no bound. */
    private static int drawnOf(int count, int n, int seed) {
        BigInteger x = BigInteger.valueOf(seed);
        int drawn = 0;
        for (int i = 0; i < n; i++) {
            x = x.multiply(BigInteger.valueOf(1103515245)).add(BigInteger.valueOf(12345)).mod(BigInteger.valueOf(2147483648L));
            drawn |= 1 << x.divide(BigInteger.valueOf(65536)).mod(BigInteger.valueOf(count)).intValue();
        }
        return Integer.bitCount(drawn);
    }

    private static void eveningTerms() {
        inTerms("AN EVENING by a SEED (0 .. 999999) of n (0 .. 60) draws:", () -> {
            LidForEach x = likeBoxes(7, 0, 1, 0);
            due("evening(0, 0)", x.evening(0, 0), 0);
            due("evening(0, 999999)", x.evening(0, 999999), 0);
            due("evening(60, 0)", x.evening(60, 0), 7);
            due("evening(60, 999999)", x.evening(60, 999999), 7);
            // by this seed the last box comes with the sixtieth draw
            due("evening(59, 9214)", x.evening(59, 9214), 6);
            due("evening(60, 9214)", x.evening(60, 9214), 7);
            badBeside(x, 0, 60, "draws", n -> x.evening(n, 7));
            badBeside(x, 0, 999999, "seed", seed -> x.evening(7, seed));
        });
        inTerms("X is SEED at first; for each X becomes X times 1103515245 and 12345, by 2147483648 what is left over;"
            + " X by 65536 (cut), by BOXES left over, is a BOX", () -> {
            // by seed 0: 0 6 6 4 5 1 1 1 5 3; by seed 999999: 2 4 6 6 5 3 4 1 3 0
            LidForEach seven = likeBoxes(7, 0, 1, 0);
            row("evening by seed 0", n -> seven.evening(n, 0), 0, 1, 2, 2, 3, 4, 5, 5, 5, 5, 6);
            row("evening by seed 999999", n -> seven.evening(n, 999999), 0, 1, 2, 3, 3, 4, 5, 5, 6, 6, 7);
            for (int count = 1; count <= 7; count++) {
                LidForEach x = likeBoxes(count, 0, 1, 0);
                for (int n = 0; n <= 60; n += 4) {
                    for (int seed : new int[] {0, 1, 65535, 123456, 999998}) {
                        due("evening(" + n + ", " + seed + ") of " + count, x.evening(n, seed), drawnOf(count, n, seed));
                    }
                }
            }
            int[] firstBoxes = {0, 3, 6, 2};
            int[] seeds = {0, 1, 7, 999999};
            for (int i = 0; i < 4; i++) {
                for (int lidded = 0; lidded < 7; lidded++) {
                    LidForEach one = new LidForEach();
                    for (int box = 0; box < 7; box++) {
                        one.box(0, box == lidded ? 2 : 1, 0);
                    }
                    one.lid(0, 0, 2);
                    due("evening(1, " + seeds[i] + ")", one.evening(1, seeds[i]), firstBoxes[i] == lidded ? 0 : 1);
                }
            }
        });
        inTerms("that is filled, if it is not yet:", () -> {
            LidForEach open = likeBoxes(7, 0, 1, 0);
            due("evening(3, 0): 0 6 6", open.evening(3, 0), 2);
            // were 6 filled twice, no lid would be left for 4
            LidForEach x = withLids(boxes(1, 1, 0, 1, 1, 0, 1, 1, 0, 1, 1, 0, 0, 4, 0, 1, 1, 0, 0, 4, 0), 0, 0, 4, 0, 0, 4);
            due("evening(4, 0): 0 6 6 4", x.evening(4, 0), 1);
            LidForEach one = withLids(boxes(0, 4, 0), 0, 0, 4);
            due("evening(60, 5) of one", one.evening(60, 5), 0);
            due("evening(60, 5) of one without lids", boxes(0, 4, 0).evening(60, 5), 1);
        });
        inTerms("with the least LID that FITS and is on none of these yet, else it stays open", () -> {
            // by seed 0 of three boxes: 0 0 1 1 0 1 1 1 2
            LidForEach least = withLids(boxes(0, 4, 0, 0, 3, 0, 1, 1, 0), 1, 0, 4, 0, 0, 4);
            due("evening(3, 0): the least is taken from the next", least.evening(3, 0), 1);
            LidForEach turned = withLids(boxes(0, 4, 0, 0, 3, 0, 1, 1, 0), 0, 0, 4, 1, 0, 4);
            due("evening(3, 0): the least is another", turned.evening(3, 0), 0);
            due("evening(9, 0): none fits the third", turned.evening(9, 0), 1);
            LidForEach few = withLids(likeBoxes(3, 0, 4, 0), 0, 0, 4);
            due("evening(9, 0): one lid for three", few.evening(9, 0), 2);
            few.put(0, 2);
            due("evening(9, 0): what is on is not asked", few.evening(9, 0), 2);
            due("evening(1, 0): what is on is not asked", few.evening(1, 0), 0);
        });
        inTerms("(NO: no BOXES):", () -> {
            LidForEach x = lids(7);
            no(x, "evening(0, 0)", () -> x.evening(0, 0));
            no(x, "evening(60, 999999)", () -> x.evening(60, 999999));
            bad(x, "evening(61, 0)", () -> x.evening(61, 0));
            bad(x, "evening(0, -1)", () -> x.evening(0, -1));
        });
        inTerms("how many are open at last.", () -> {
            LidForEach x = withLikeLids(likeBoxes(7, 0, 4, 0), 3, 0, 0, 4);
            row("evening by seed 999999", n -> x.evening(n, 999999), 0, 0, 0, 0, 0, 1, 2, 2, 3, 3, 4, 4);
            due("evening(60, 999999)", x.evening(60, 999999), 4);
            withLikeLids(x, 4, 0, 0, 4);
            due("evening(60, 999999)", x.evening(60, 999999), 0);
        });
    }

    private static void lend() {
        inPromise(26, "A tale: its number.", () -> {
            LidForEach x = lids(1);
            due("lend(0, 0, 4)", x.lend(0, 0, 4), 0);
            // one that is wrong is a tale too
            due("lend(3, 0, 2)", x.lend(3, 0, 2), 1);
            due("lend(0, 0, 4)", x.lend(0, 0, 4), 2);
            x.lend(0, 0, 5);
            due("lend(4, 0, 0)", x.lend(4, 0, 0), 3);
        });
        inPromise(26, "BAD: alike, too;", () -> {
            LidForEach x = withLids(boxes(0, 4, 0, 0, 4, 0, 0, 4, 0), 0, 0, 4, 0, 0, 4);
            for (int who = 0; who <= 4; who++) {
                int one = who;
                bad(x, "lend(" + who + ", 0, " + who + ")", () -> x.lend(one, 0, one));
            }
            badBeside(x, 0, 4, "one who gave", a -> x.lend(a, 0, 1));
            badBeside(x, 0, 4, "one to whom", b -> x.lend(1, 0, b));
            badBeside(x, 0, 1, "what was lent", lid -> x.lend(0, lid, 1));
            LidForEach none = boxes(0, 4, 0);
            badBeside(none, 0, -1, "what was lent where no lid is", lid -> none.lend(0, lid, 1));
        });
        inPromise(26, "FULL: 8.", () -> {
            LidForEach x = lids(1);
            for (int i = 0; i < 8; i++) {
                due("lend", x.lend(1, 0, 2), i);
            }
            full(x, "the ninth", () -> x.lend(0, 0, 1));
            bad(x, "the ninth, to oneself", () -> x.lend(0, 0, 0));
            bad(x, "the ninth, of no lid", () -> x.lend(0, 1, 1));
            due("has(0)", x.has(0), 0);
            x.forget(0);
            due("the first when they are forgotten", x.lend(0, 0, 1), 0);
        });
    }

    private static void hasAndWrong() {
        inPromise(27, "HAS.", () -> {
            LidForEach x = lids(2);
            x.lend(0, 1, 4);
            quiet(x, "has(0)", () -> x.has(0), 0);
            quiet(x, "has(1)", () -> x.has(1), 4);
        });
        inPromise(27, "BAD.", () -> {
            LidForEach x = withLids(boxes(0, 4, 0, 0, 4, 0, 0, 4, 0), 0, 0, 4, 0, 0, 4);
            badBeside(x, 0, 1, "has", x::has);
            LidForEach none = boxes(0, 4, 0);
            badBeside(none, 0, -1, "has where no lid is", none::has);
        });
        inPromise(28, "WRONG.", () -> {
            LidForEach x = lids(1);
            x.lend(0, 0, 4);
            x.lend(0, 0, 3);
            quiet(x, "wrong()", () -> x.wrong(), 1);
        });
        inPromise(28, "NONE.", () -> {
            LidForEach x = lids(1);
            quiet(x, "wrong() without tales", () -> x.wrong(), LidForEach.NONE);
            x.lend(0, 0, 4);
            x.lend(4, 0, 3);
            quiet(x, "wrong()", () -> x.wrong(), LidForEach.NONE);
            x.lend(0, 0, 3);
            x.forget(0);
            quiet(x, "wrong() when they are forgotten", () -> x.wrong(), LidForEach.NONE);
        });
    }

    private static void hint() {
        inPromise(29, "A HINT: its number.", () -> {
            LidForEach x = likeBoxes(7, 0, 1, 0);
            due("hint(0, 0, 0)", x.hint(0, 0, 0), 0);
            due("hint(3, 6, 6)", x.hint(3, 6, 6), 1);
            x.hint(4, 0, 0);
            due("hint(0, 0, 0) again", x.hint(0, 0, 0), 2);
        });
        inPromise(29, "BAD: b is a BOX (sorts 0, 1), a food (2, 3);", () -> {
            LidForEach x = withLids(boxes(0, 1, 0, 0, 2, 0), 0, 0, 1, 0, 0, 1, 0, 0, 1);
            badBeside(x, 0, 3, "sort", sort -> x.hint(sort, 0, 0));
            for (int sort = 0; sort <= 3; sort++) {
                int one = sort;
                badBeside(x, 0, 1, "food of sort " + sort, f -> x.hint(one, f, 0));
                badBeside(x, 0, 1, "box or food of sort " + sort, b -> x.hint(one, 0, b));
            }
            LidForEach none = new LidForEach();
            bad(none, "hint(0, 0, 0) of none", () -> none.hint(0, 0, 0));
        });
        inPromise(29, "FULL: 8.", () -> {
            LidForEach x = likeBoxes(1, 0, 1, 0);
            for (int i = 0; i < 8; i++) {
                due("hint", x.hint(0, 0, 0), i);
            }
            full(x, "the ninth", () -> x.hint(0, 0, 0));
            bad(x, "the ninth, of no box", () -> x.hint(0, 0, 1));
            bad(x, "the ninth, of no sort", () -> x.hint(4, 0, 0));
            due("labels(0, 0)", x.labels(0, 0), 1);
            x.forget(1);
            due("the first when they are forgotten", x.hint(0, 0, 0), 0);
        });
    }

    private static void forget() {
        inPromise(30, "No tales (0), HINTS (1), SORTS (2): how many there were.", () -> {
            LidForEach x = withLids(boxes(0, 4, 0), 0, 0, 4);
            row("forget where none is", x::forget, 0, 0, 0);
            for (int i = 0; i < 8; i++) {
                x.lend(0, 0, 1);
                x.hint(0, 0, 0);
                x.sort(0, 0, 4, 1);
            }
            int[][] left = {{0, 8, 4}, {0, 0, 4}, {0, 0, 0}};
            int[] were = {8, 8, 4};
            for (int what = 0; what <= 2; what++) {
                due("forget(" + what + ")", x.forget(what), were[what]);
                row("count from 3 on", i -> x.count(i == 2 ? 3 : 4 + i), left[what]);
                due("forget(" + what + ") again", x.forget(what), 0);
            }
            due("how many boxes", x.count(0), 1);
            due("how many lids", x.count(1), 1);
            // what was told by them is not so any more
            LidForEach told = withLids(boxes(0, 2, 0, 0, 1, 0, 0, 3, 0), 0, 0, 1);
            told.lend(0, 0, 1);
            told.lend(0, 0, 1);
            told.sort(5, 0, 9, 1);
            row("has, wrong, buy", i -> i == 0 ? told.has(0) : i == 1 ? told.wrong() : told.buy(-1), 1, 1, 2);
            for (int sort = 0; sort <= 3; sort++) {
                told.hint(sort, 2, 1);
                due("labels(0, 0) by a hint", told.labels(0, 0) < 6 ? 1 : 0, 1);
                told.forget(1);
                due("labels(0, 0) without hints", told.labels(0, 0), 6);
                row("where a food may be", f -> told.labels(f, 1), 7, 7, 7);
            }
            told.forget(0);
            told.forget(2);
            row("has, wrong, buy", i -> i == 0 ? told.has(0) : i == 1 ? told.wrong() : told.buy(-1), 0, -1, -1);
        });
        inPromise(30, "BAD.", () -> {
            LidForEach x = withLids(boxes(0, 4, 0), 0, 0, 4);
            x.lend(0, 0, 1);
            x.hint(0, 0, 0);
            x.sort(0, 0, 4, 1);
            badBeside(x, 0, 2, "forget", x::forget);
            due("how many", x.count(3) + x.count(4) + x.count(5), 3);
        });
    }

    private static void labels() {
        inPromise(31, "WAYS: how many (what = 0; f 0),", () -> {
            LidForEach x = likeBoxes(3, 0, 1, 0);
            quiet(x, "labels(0, 0)", () -> x.labels(0, 0), 6);
            badBeside(x, 0, 0, -10, "another f", f -> x.labels(f, 0));
        });
        inPromise(31, "in which BOXES food f may be (1),", () -> {
            LidForEach x = likeBoxes(3, 0, 1, 0);
            x.hint(0, 2, 1);
            row("labels", f -> x.labels(f, 1), 5, 5, 2);
            quiet(x, "labels(2, 1)", () -> x.labels(2, 1), 2);
        });
        inPromise(31, "the BOX to look into (2; f 0; NONE).", () -> {
            LidForEach x = likeBoxes(3, 0, 1, 0);
            x.hint(0, 2, 0);
            quiet(x, "labels(0, 2)", () -> x.labels(0, 2), 1);
            badBeside(x, 0, 0, -10, "another f", f -> x.labels(f, 2));
            x.hint(1, 2, 0);
            quiet(x, "labels(0, 2): no ways", () -> x.labels(0, 2), LidForEach.NONE);
        });
        inPromise(31, "BAD: -10.", () -> {
            LidForEach x = withLids(boxes(0, 1, 0, 0, 1, 0), 0, 0, 1, 0, 0, 1, 0, 0, 1);
            badBeside(x, 0, 2, -10, "what", what -> x.labels(0, what));
            badBeside(x, 0, 1, -10, "food", f -> x.labels(f, 1));
            bad10(x, "labels(1, 3)", () -> x.labels(1, 3));
            bad10(x, "labels(1, -1)", () -> x.labels(1, -1));
            LidForEach none = new LidForEach();
            bad10(none, "labels(0, 1) of none", () -> none.labels(0, 1));
        });
    }

    private static void evening() {
        inPromise(32, "AN EVENING.", () -> {
            LidForEach x = withLids(likeBoxes(2, 0, 4, 0), 0, 0, 4);
            quiet(x, "evening(60, 7)", () -> x.evening(60, 7), 1);
            quiet(x, "evening(0, 7)", () -> x.evening(0, 7), 0);
        });
        inPromise(32, "BAD;", () -> {
            LidForEach x = boxes(0, 4, 0);
            badBeside(x, 0, 60, "draws", n -> x.evening(n, 0));
            badBeside(x, 0, 999999, "seed", seed -> x.evening(0, seed));
        });
        inPromise(32, "NO.", () -> {
            LidForEach x = new LidForEach();
            no(x, "evening(1, 1)", () -> x.evening(1, 1));
            x.box(0, 4, 0);
            due("evening(1, 1) of one", x.evening(1, 1), 1);
        });
    }
}
