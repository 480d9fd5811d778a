import java.util.List;

/** Boxes and lids paired: promises 15 to 20, and their terms. */
final class PairingEdges extends Sentences {
    private PairingEdges() {
    }

    static void all() {
        changesNothing();
        mostTerms();
        shortTerms();
        soupTerms();
        muchTerms();
        most();
        lacking();
        soup();
        muchWorthSpare();
    }

    private static LidForEach rich() {
        LidForEach x = boxes(0, 4, 10, 0, 3, 5, 2, 4, 8, 1, 4, 12, 2, 5, 20);
        withLids(x, 0, 0, 4, 1, 0, 4, 2, 2, 4, 3, 1, 4, 4, 2, 5);
        x.sort(5, 0, 9, 7);
        x.sort(0, 1, 4, 3);
        x.eye(3, 8);
        x.lend(0, 2, 3);
        x.hint(1, 0, 0);
        return x;
    }

    private static void changesNothing() {
        inTerms("(What is below changes nothing, and asks not what is ON, if not told else.)", () -> {
            LidForEach x = rich();
            long bare = x.digest();
            List<Integer> asked = allAnswers(x);
            due("digest() behind all that was asked", x.digest(), bare);
            row("status", x::status, 0, 0, 0);
            x.put(0, 0);
            x.put(2, 2);
            x.put(4, 4);
            long lidded = x.digest();
            List<Integer> again = allAnswers(x);
            due("how many are asked", again.size(), asked.size());
            // what is on stands first of each box's, behind twelve
            for (int i = 0; i < asked.size(); i++) {
                boolean isOn = i >= 12 && i < 12 + 9 * 5 && (i - 12) % 9 == 0;
                due("answer " + i + " with lids on", again.get(i), isOn ? x.on((i - 12) / 9) : asked.get(i));
            }
            due("digest() behind all that was asked", x.digest(), lidded);
            due("undo()", x.undo(), 1);
            row("on", x::on, 0, -1, 2, -1, -1);
        });
    }

    private static void mostTerms() {
        inTerms("MOST: pairs of BOXES and LIDS, each in one at most, that FIT: as many as can be;", () -> {
            due("most(-1) of none", new LidForEach().most(-1), 0);
            due("most(-1) without lids", likeBoxes(7, 0, 4, 0).most(-1), 0);
            due("most(-1) without boxes", withLikeLids(new LidForEach(), 7, 0, 0, 4).most(-1), 0);
            due("most(-1) where none fits", withLids(boxes(0, 4, 0), 0, 0, 5).most(-1), 0);
            due("most(-1) of one lid for seven", withLids(likeBoxes(7, 0, 4, 0), 0, 0, 4).most(-1), 1);
            due("most(-1) of seven lids for one", withLikeLids(boxes(0, 4, 0), 7, 0, 0, 4).most(-1), 1);
            due("most(-1) of seven", withLikeLids(likeBoxes(7, 0, 4, 0), 7, 0, 0, 4).most(-1), 7);
            // the least lid for the first box would leave the second one open
            LidForEach x = withLids(boxes(0, 4, 0, 0, 3, 0), 1, 0, 4, 0, 0, 4);
            due("most(-1)", x.most(-1), 2);
        });
        inTerms("the LID of a BOX then (of like ones the first row: BOX by BOX, the least LID ahead, none behind"
            + " all); NONE: none.", () -> {
            row("most: none behind all", withLikeLids(likeBoxes(3, 0, 4, 0), 2, 0, 0, 4)::most, 0, 1, -1);
            row("most: the least ahead", withLikeLids(likeBoxes(2, 0, 4, 0), 7, 0, 0, 4)::most, 0, 1);
            row("most: as many go ahead of the least", withLids(boxes(0, 4, 0, 0, 3, 0), 1, 0, 4, 0, 0, 4)::most, 1, 0);
            row("most: one that none fits", withLids(boxes(1, 1, 0, 0, 4, 0), 0, 0, 4)::most, -1, 0);
            row("most without lids", likeBoxes(7, 0, 4, 0)::most, -1, -1, -1, -1, -1, -1, -1);
            row("most of seven", withLikeLids(likeBoxes(7, 0, 4, 0), 7, 0, 0, 4)::most, 0, 1, 2, 3, 4, 5, 6);
            // sizes 3, 4, 5 under ALL lids of 5, 4, 3: each has but one way
            row("most by force", withLids(boxes(0, 3, 0, 0, 4, 0, 0, 5, 0), 5, 1, 5, 5, 1, 4, 5, 1, 3)::most, 2, 1, 0);
        });
    }

    private static void shortTerms() {
        inTerms("SHORT: a set of BOXES (bits) for which there are fewer LIDS that FIT any of them than they"
            + " are:", () -> {
            LidForEach x = withLids(boxes(0, 4, 0, 0, 4, 0, 1, 1, 0), 0, 0, 4, 0, 1, 1);
            due("lacking(): one lid for two", x.lacking(), 3);
            x.lid(0, 0, 4);
            due("lacking(): as many as they are", x.lacking(), 0);
            due("lacking() without lids", likeBoxes(7, 0, 4, 0).lacking(), 127);
            // six lids, but they fit the last box alone
            due("lacking(): lids that do not fit", withLikeLids(boxes(0, 4, 0, 1, 4, 0), 6, 0, 1, 4).lacking(), 1);
            due("lacking(): a lid for either, not for both", withLids(boxes(0, 4, 0, 0, 3, 0), 1, 0, 4).lacking(), 3);
        });
        inTerms("that by which more are lacking,", () -> {
            due("lacking(): two sooner than one", boxes(0, 4, 0, 1, 4, 0).lacking(), 3);
            LidForEach x = withLids(likeBoxes(5, 0, 4, 0), 0, 0, 4, 0, 1, 4);
            x.box(1, 4, 0);
            x.box(1, 4, 0);
            due("lacking(): four and one", x.lacking(), 127);
        });
        inTerms("of like ones of fewer BOXES,", () -> {
            LidForEach own = withLids(boxes(0, 4, 0, 1, 4, 0, 0, 4, 0), 0, 0, 4, 0, 1, 4);
            due("lacking(): without the one that has its own", own.lacking(), 5);
            due("lacking(): the bare one alone", withLids(boxes(1, 4, 0, 0, 4, 0), 0, 1, 4).lacking(), 2);
        });
        inTerms("then the least;", () -> {
            LidForEach x = withLids(boxes(0, 4, 0, 0, 4, 0, 1, 4, 0, 1, 4, 0), 0, 0, 4, 0, 1, 4, 0, 1, 4);
            due("lacking(): the least set", x.lacking(), 3);
            due("lacking(): of seven", withLids(likeBoxes(7, 0, 4, 0), 0, 0, 4).lacking(), 127);
        });
        inTerms("0: there is none.", () -> {
            due("lacking() of none", new LidForEach().lacking(), 0);
            due("lacking() without boxes", withLids(new LidForEach(), 0, 0, 4).lacking(), 0);
            due("lacking() of seven", withLikeLids(likeBoxes(7, 0, 4, 0), 7, 0, 0, 4).lacking(), 0);
        });
    }

    private static void soupTerms() {
        inTerms("SOUP of an amount (0 .. 99):", () -> {
            LidForEach x = withLikeLids(boxes(0, 4, 20, 0, 4, 20, 0, 4, 20, 0, 4, 20, 0, 4, 19), 5, 0, 0, 4);
            due("soup(0, 0)", x.soup(0, 0), 0);
            due("soup(0, 1)", x.soup(0, 1), 0);
            due("soup(99, 0)", x.soup(99, 0), 20);
            due("soup(99, 1)", x.soup(99, 1), 31);
            badBeside(x, 0, 99, -10, "soup", amount -> x.soup(amount, 0));
        });
        inTerms("BOXES, each with a LID that FITS, no LID on two,", () -> {
            LidForEach x = withLids(boxes(0, 4, 10, 0, 3, 10, 1, 1, 20), 1, 0, 4);
            due("soup(10, 1): the one that no lid fits is not there", x.soup(10, 1), 2);
            due("soup(20, 1): one lid is not on two", x.soup(20, 1), -1);
            x.lid(0, 0, 4);
            due("soup(20, 1): two lids", x.soup(20, 1), 3);
            due("soup(21, 1)", x.soup(21, 1), -1);
        });
        inTerms("that HOLD as much together at least,", () -> {
            LidForEach x = withLikeLids(likeBoxes(2, 0, 4, 10), 2, 0, 0, 4);
            due("soup(1, 0)", x.soup(1, 0), 4);
            due("soup(10, 0)", x.soup(10, 0), 4);
            due("soup(11, 0)", x.soup(11, 0), 8);
            due("soup(20, 0)", x.soup(20, 0), 8);
            due("soup(21, 0)", x.soup(21, 0), -1);
        });
        inTerms("by which SIZES together are least;", () -> {
            LidForEach x = withLids(boxes(0, 9, 20, 1, 2, 10, 2, 3, 10), 0, 0, 9, 0, 1, 2, 0, 2, 3);
            due("soup(20, 1): two small ones", x.soup(20, 1), 6);
            due("soup(20, 0)", x.soup(20, 0), 5);
            due("soup(10, 1)", x.soup(10, 1), 2);
            due("soup(30, 0)", x.soup(30, 0), 11);
            due("soup(31, 0)", x.soup(31, 0), 14);
        });
        inTerms("of like ones the least set: how much SIZE, the BOXES (bits); none.", () -> {
            LidForEach few = withLids(boxes(0, 4, 10, 1, 2, 5, 1, 2, 5), 0, 0, 4, 0, 1, 2, 0, 1, 2);
            due("soup(10, 1): the first one", few.soup(10, 1), 1);
            LidForEach many = withLids(boxes(1, 2, 5, 1, 2, 5, 0, 4, 10), 0, 0, 4, 0, 1, 2, 0, 1, 2);
            due("soup(10, 1): the least set, not the fewest boxes", many.soup(10, 1), 3);
            due("soup(10, 0)", many.soup(10, 0), 4);
            due("soup(21, 0): none", many.soup(21, 0), -1);
            due("soup(21, 1): none", many.soup(21, 1), -1);
        });
    }

    private static void muchTerms() {
        inTerms("MUCH: the most that BOXES so lidded HOLD together.", () -> {
            due("much() of none", new LidForEach().much(), 0);
            due("much() without lids", likeBoxes(7, 0, 4, 20).much(), 0);
            due("much() of boxes that hold 0", withLids(boxes(0, 4, 0), 0, 0, 4).much(), 0);
            due("much() of seven", withLikeLids(likeBoxes(7, 0, 4, 20), 7, 0, 0, 4).much(), 140);
            due("much(): the one that holds more", withLids(boxes(0, 4, 3, 0, 3, 19), 1, 0, 4).much(), 19);
            due("much(): the one that holds more ahead", withLids(boxes(0, 4, 19, 0, 3, 3), 1, 0, 4).much(), 19);
        });
        inTerms("WORTH of a LID: MUCH less what MUCH were without it.", () -> {
            LidForEach x = withLids(boxes(0, 4, 10, 0, 3, 15, 2, 2, 7), 1, 0, 4, 0, 0, 4, 0, 1, 9);
            row("worth", x::worth, 15, 10, 0);
            x.lid(0, 0, 3);
            row("worth beside another", x::worth, 0, 0, 0, 0);
            row("worth of the only one", withLids(boxes(0, 4, 20), 0, 0, 4)::worth, 20);
            row("worth of two for one", withLikeLids(boxes(0, 4, 20), 2, 0, 0, 4)::worth, 0, 0);
        });
        inTerms("SPARE: LIDS (bits) without each of which (alone) MOST is as much as it is.", () -> {
            due("spare(): each of two for one", withLikeLids(boxes(0, 4, 20), 2, 0, 0, 4).spare(), 3);
            due("spare() of the only one", withLids(boxes(0, 4, 20), 0, 0, 4).spare(), 0);
            due("spare(): one that fits none", withLids(boxes(0, 4, 20), 0, 1, 4, 0, 0, 4).spare(), 1);
            // by how many, not by what they hold
            due("spare()", withLids(boxes(0, 4, 20, 0, 4, 0), 0, 0, 4, 0, 0, 4).spare(), 0);
            due("spare()", withLids(boxes(0, 4, 20, 0, 3, 0), 0, 0, 4, 1, 0, 4, 0, 0, 3).spare(), 7);
        });
    }

    private static void most() {
        inPromise(15, "MOST: how many (box = NONE),", () -> {
            LidForEach x = withLids(boxes(0, 4, 0, 0, 4, 0), 0, 0, 4);
            quiet(x, "most(NONE)", () -> x.most(LidForEach.NONE), 1);
        });
        inPromise(15, "the LID of a BOX (NONE).", () -> {
            LidForEach x = withLids(boxes(1, 4, 0, 0, 4, 0), 0, 1, 9, 0, 0, 4);
            quiet(x, "most(0)", () -> x.most(0), LidForEach.NONE);
            quiet(x, "most(1)", () -> x.most(1), 1);
        });
        inPromise(15, "BAD: -10.", () -> {
            LidForEach x = withLids(boxes(0, 4, 0, 0, 4, 0), 0, 0, 4, 0, 0, 4, 0, 0, 4);
            badBeside(x, -1, 1, -10, "most", x::most);
            LidForEach none = withLids(new LidForEach(), 0, 0, 4);
            badBeside(none, -1, -1, -10, "most where no box is", none::most);
        });
    }

    private static void lacking() {
        inPromise(16, "SHORT, as bits.", () -> {
            LidForEach x = boxes(1, 1, 0, 1, 1, 0, 0, 4, 0, 1, 1, 0, 1, 1, 0, 1, 1, 0, 0, 4, 0);
            withLids(x, 0, 0, 4, 5, 1, 1, 2, 1, 1, 1, 1, 1, 0, 1, 1, 4, 1, 1);
            quiet(x, "lacking(): the third and the last", () -> x.lacking(), 68);
        });
    }

    private static void soup() {
        inPromise(17, "SOUP: SIZE (0), BOXES (1).", () -> {
            LidForEach x = withLids(boxes(1, 1, 20, 0, 9, 20), 0, 0, 9);
            quiet(x, "soup(20, 0)", () -> x.soup(20, 0), 9);
            quiet(x, "soup(20, 1)", () -> x.soup(20, 1), 2);
        });
        inPromise(17, "NONE.", () -> {
            LidForEach x = boxes(1, 1, 20);
            quiet(x, "soup(1, 0)", () -> x.soup(1, 0), LidForEach.NONE);
            quiet(x, "soup(1, 1)", () -> x.soup(1, 1), LidForEach.NONE);
            quiet(x, "soup(0, 0)", () -> x.soup(0, 0), 0);
            LidForEach none = new LidForEach();
            quiet(none, "soup(0, 1) of none", () -> none.soup(0, 1), 0);
            quiet(none, "soup(99, 0) of none", () -> none.soup(99, 0), LidForEach.NONE);
        });
        inPromise(17, "BAD: -10.", () -> {
            LidForEach x = withLids(boxes(0, 9, 20), 0, 0, 9);
            badBeside(x, 0, 99, -10, "soup of an amount", amount -> x.soup(amount, 1));
            badBeside(x, 0, 1, -10, "soup, what", what -> x.soup(1, what));
            bad10(x, "soup(100, 2)", () -> x.soup(100, 2));
        });
    }

    private static void muchWorthSpare() {
        inPromise(18, "MUCH.", () -> {
            LidForEach x = withLids(boxes(0, 4, 10, 0, 4, 20), 0, 0, 4);
            quiet(x, "much()", () -> x.much(), 20);
        });
        inPromise(19, "WORTH.", () -> {
            LidForEach x = withLids(boxes(0, 4, 10, 0, 4, 20), 0, 0, 4, 0, 0, 4, 0, 0, 5);
            quiet(x, "worth(0)", () -> x.worth(0), 10);
            quiet(x, "worth(2)", () -> x.worth(2), 0);
        });
        inPromise(19, "BAD.", () -> {
            LidForEach x = withLids(boxes(0, 4, 10, 0, 4, 20, 0, 4, 0), 0, 0, 4, 0, 0, 4);
            badBeside(x, 0, 1, "worth", x::worth);
            LidForEach none = boxes(0, 4, 10);
            badBeside(none, 0, -1, "worth where no lid is", none::worth);
        });
        inPromise(20, "SPARE, as bits.", () -> {
            LidForEach all = withLikeLids(new LidForEach(), 7, 0, 0, 4);
            quiet(all, "spare() without boxes", () -> all.spare(), 127);
            LidForEach ends = withLids(boxes(0, 4, 0, 1, 4, 0, 2, 4, 0, 1, 5, 0, 2, 5, 0, 0, 6, 0),
                0, 0, 4, 0, 1, 4, 0, 2, 4, 0, 1, 5, 0, 2, 5, 0, 0, 6, 0, 0, 4);
            quiet(ends, "spare(): the first and the last", () -> ends.spare(), 65);
            due("spare() of none", new LidForEach().spare(), 0);
            due("spare() without lids", likeBoxes(7, 0, 4, 0).spare(), 0);
        });
    }
}
