/** The boundary cases that the document's terms name: a method for each sentence, which it quotes. */
public final class TermsTest {
    private static final int FAR = 500000000;

    public static void main(String[] args) {
        endsMayBeAlike();
        nextNumber();
        leftBorderIsIn();
        rightBorderIsOut();
        lowerBorderIsIn();
        upperBorderIsOut();
        eachPlaceIsInJustOne();
        onePlaceIsEnoughToMeet();
        crossInJustOnePlace();
        crossInAnEndOfNeither();
        hotAreEndsAndCrossings();
        hotNumbers();
        chainGoesFromTheFirstEnd();
        chainThroughACorner();
        piecesLowerFirst();
        piecesEachOnce();
        piecesOfNoNeighbours();
        noneBehindClear();
        noneBehindSegment();
        untilSnapAgain();
        lastOfTheCalls();
        Checks.end();
    }

    /** "two ENDS (which may be alike)" */
    private static void endsMayBeAlike() {
        PixelSnapper snapper = Checks.drawn(Checks.point(3, -4), Checks.point(FAR, -FAR), Checks.line(0, -4, 6, -4));
        Checks.due("a point: hot", snapper.snap(), 4);
        Checks.due("a point: its pixel", snapper.meets(0, 3, -4), true);
        Checks.dueChain("a point", snapper, 0, 1);
        Checks.dueChain("a far point", snapper, 1, 3);
        Checks.dueChain("through a point", snapper, 2, 0, 1, 2);
        for (int dx = -1; dx <= 1; dx++) {
            for (int dy = -1; dy <= 1; dy++) {
                Checks.due("round a point", snapper.meets(0, 3 + dx, -4 + dy), dx == 0 && dy == 0);
            }
        }
    }

    /** "one after another gets the next number" */
    private static void nextNumber() {
        PixelSnapper snapper = new PixelSnapper();
        Checks.due("the first", snapper.segment(0, 0, 9, 9), 0);
        Checks.due("the second", snapper.segment(0, 0, 9, 9), 1);
        snapper.snap();
        Checks.due("behind snap()", snapper.segment(9, 9, 0, 0), 2);
        Checks.dueThrow("a refused one", Checks.ARGUMENT, () -> snapper.segment(FAR + 1, 0, 0, 0));
        Checks.due("behind a refused one", snapper.segment(1, 1, 1, 1), 3);
        snapper.clear();
        Checks.due("behind clear()", snapper.segment(1, 1, 1, 1), 0);
    }

    private static void dueCrossing(String name, int[] one, int[] other, int x, int y) {
        PixelSnapper snapper = Checks.drawn(one, other);
        Checks.due(name + ": x", snapper.crossing(0, 1, 0), x);
        Checks.due(name + ": y", snapper.crossing(0, 1, 1), y);
        Checks.due(name + ": x from the other", snapper.crossing(1, 0, 0), x);
        Checks.due(name + ": y from the other", snapper.crossing(1, 0, 1), y);
        Checks.due(name + ": met by one", snapper.meets(0, x, y), true);
        Checks.due(name + ": met by the other", snapper.meets(1, x, y), true);
    }

    /** "all places from x - 1/2 on": crossings at x = 1/2, -1/2 and -3/2, on ways right and left. */
    private static void leftBorderIsIn() {
        dueCrossing("at 1/2", Checks.line(0, 1, 1, 1), Checks.line(0, 0, 1, 2), 1, 1);
        dueCrossing("at 1/2, back", Checks.line(1, 1, 0, 1), Checks.line(1, 2, 0, 0), 1, 1);
        dueCrossing("at -1/2", Checks.line(-1, 1, 0, 1), Checks.line(-1, 0, 0, 2), 0, 1);
        dueCrossing("at -1/2, back", Checks.line(0, 1, -1, 1), Checks.line(0, 2, -1, 0), 0, 1);
        dueCrossing("at -3/2", Checks.line(-3, 1, 0, 1), Checks.line(-2, 0, -1, 2), -1, 1);
        dueCrossing("at the far left", Checks.line(-FAR, 1, 1 - FAR, 1), Checks.line(-FAR, 0, 1 - FAR, 2), 1 - FAR, 1);
        dueCrossing("at the far right", Checks.line(FAR, 1, FAR - 1, 1), Checks.line(FAR, 0, FAR - 1, 2), FAR, 1);
    }

    /** "below x + 1/2": what lies a little before it, and the corners on it. */
    private static void rightBorderIsOut() {
        dueCrossing("before 1/2", Checks.line(-FAR, 0, FAR, 0), Checks.line(0, 2, 1, -3), 0, 0);
        dueCrossing("behind 1/2", Checks.line(-FAR, 0, FAR, 0), Checks.line(0, 3, 1, -2), 1, 0);
        PixelSnapper snapper = Checks.drawn(Checks.line(0, 1, 1, 0), Checks.line(0, 0, 1, 1), Checks.line(0, 2, 1, -1));
        Checks.due("its upper right corner, falling", snapper.meets(0, 0, 0), false);
        Checks.due("its upper right corner, steep", snapper.meets(2, 0, 0), false);
        Checks.due("its lower right corner, rising", snapper.meets(1, 0, 1), false);
    }

    /** "and from y - 1/2 on": crossings at y = 1/2, -1/2 and -3/2, on ways up and down. */
    private static void lowerBorderIsIn() {
        dueCrossing("at 1/2", Checks.line(1, 0, 1, 1), Checks.line(0, 0, 2, 1), 1, 1);
        dueCrossing("at 1/2, down", Checks.line(1, 1, 1, 0), Checks.line(2, 1, 0, 0), 1, 1);
        dueCrossing("at -1/2", Checks.line(1, -1, 1, 0), Checks.line(0, -1, 2, 0), 1, 0);
        dueCrossing("at -1/2, down", Checks.line(1, 0, 1, -1), Checks.line(2, 0, 0, -1), 1, 0);
        dueCrossing("at -3/2", Checks.line(1, -3, 1, 0), Checks.line(0, -2, 2, -1), 1, -1);
        dueCrossing("at the lowest", Checks.line(1, -FAR, 1, 1 - FAR), Checks.line(0, -FAR, 2, 1 - FAR), 1, 1 - FAR);
        dueCrossing("at the highest", Checks.line(1, FAR, 1, FAR - 1), Checks.line(0, FAR, 2, FAR - 1), 1, FAR);
    }

    /** "below y + 1/2": what lies a little before it, and the corners on it. */
    private static void upperBorderIsOut() {
        dueCrossing("before 1/2", Checks.line(0, -FAR, 0, FAR), Checks.line(2, 0, -3, 1), 0, 0);
        dueCrossing("behind 1/2", Checks.line(0, -FAR, 0, FAR), Checks.line(3, 0, -2, 1), 0, 1);
        PixelSnapper snapper = Checks.drawn(Checks.line(0, 1, 1, 0), Checks.line(0, 0, 1, 1), Checks.line(-1, 1, 2, 0));
        Checks.due("its upper right corner, falling", snapper.meets(0, 0, 0), false);
        Checks.due("its upper right corner, flat", snapper.meets(2, 0, 0), false);
        Checks.due("its upper left corner, rising", snapper.meets(1, 1, 0), false);
    }

    /** "Each place is in just one.": a corner, where a rising and a falling segment cross, is the upper right's. */
    private static void eachPlaceIsInJustOne() {
        int[] corners = {0, -1, 7, -FAR, FAR - 1};
        for (int x : corners) {
            for (int y : corners) {
                String name = "the corner behind " + x + ", " + y;
                dueCrossing(name, Checks.line(x, y, x + 1, y + 1), Checks.line(x, y + 1, x + 1, y), x + 1, y + 1);
                PixelSnapper snapper = Checks.drawn(Checks.line(x, y + 1, x + 1, y));
                Checks.due(name + ": not in the lower left", snapper.meets(0, x, y), false);
                Checks.due(name + ": hot", snapper.snap(), 2);
                snapper.segment(x, y, x + 1, y + 1);
                Checks.due(name + ": no hot pixel more", snapper.snap(), 4);
            }
        }
    }

    /** "A segment MEETS a pixel when one of its places is in it." */
    private static void onePlaceIsEnoughToMeet() {
        PixelSnapper snapper = Checks.drawn(Checks.line(0, 1, 1, 0), Checks.line(0, 2, 1, -1), Checks.line(-1, 1, 2, 0),
                Checks.line(-FAR, FAR, FAR, 1 - FAR));
        Checks.due("one corner", snapper.meets(0, 1, 1), true);
        Checks.due("one corner, steep", snapper.meets(1, 1, 1), true);
        Checks.due("one corner, flat", snapper.meets(2, 1, 1), true);
        Checks.due("an end", snapper.meets(0, 0, 1), true);
        Checks.due("the other end", snapper.meets(0, 1, 0), true);
        // It falls by 2 * FAR - 1 on a way of 2 * FAR, and so is at y = 1/2 where x is 0.
        Checks.due("the middle of a far one", snapper.meets(3, 0, 0), true);
        Checks.due("above the middle", snapper.meets(3, 0, 1), true);
        Checks.due("left of the middle", snapper.meets(3, -1, 0), false);
        Checks.due("right of the middle", snapper.meets(3, 1, 1), false);
    }

    private static void dueNoCrossing(String name, int[] one, int[] other) {
        PixelSnapper snapper = Checks.drawn(one, other);
        for (int what = 0; what <= 1; what++) {
            int asked = what;
            Checks.dueThrow(name, Checks.STATE, () -> snapper.crossing(0, 1, asked));
            Checks.dueThrow(name + " from the other", Checks.STATE, () -> snapper.crossing(1, 0, asked));
        }
    }

    /** "Two segments CROSS when they have just one place in common" */
    private static void crossInJustOnePlace() {
        int[] flat = Checks.line(0, 0, 10, 0);
        dueCrossing("one place", flat, Checks.line(5, -5, 5, 5), 5, 0);
        dueNoCrossing("no place", flat, Checks.line(0, 1, 10, 2));
        dueNoCrossing("no place, one line", flat, Checks.line(11, 0, 12, 0));
        dueNoCrossing("no place, only the lines cross", flat, Checks.line(12, -1, 12, 1));
        dueNoCrossing("no place, one steeper", Checks.line(0, 0, 4, 4), Checks.line(3, 0, 9, 8));
        dueNoCrossing("many places", flat, Checks.line(5, 0, 15, 0));
        dueNoCrossing("many places inside", flat, Checks.line(7, 0, 3, 0));
        dueNoCrossing("all places", flat, flat);
        dueNoCrossing("all places, back", flat, Checks.line(10, 0, 0, 0));
        // Over 2 * FAR the two differ by 1, and at the middle of the way by 1/2.
        dueCrossing("nearly one line", Checks.line(-FAR, 0, FAR, 1), Checks.line(-FAR, 1, FAR, 0), 0, 1);
        dueNoCrossing("nearly one line, apart", Checks.line(-FAR, 0, FAR, 1), Checks.line(-FAR, -1, FAR, 0));
    }

    /** "which is an end of neither" */
    private static void crossInAnEndOfNeither() {
        int[] flat = Checks.line(0, 0, 10, 0);
        dueNoCrossing("the other's first end, from above", flat, Checks.line(5, 0, 5, 5));
        dueNoCrossing("the other's first end, from below", flat, Checks.line(5, 0, 5, -5));
        dueNoCrossing("the other's second end, from above", flat, Checks.line(5, 5, 5, 0));
        dueNoCrossing("the other's second end, from below", flat, Checks.line(5, -5, 5, 0));
        dueNoCrossing("an end of both", flat, Checks.line(10, 0, 12, 3));
        dueNoCrossing("an end of both on one line", flat, Checks.line(10, 0, 20, 0));
        dueNoCrossing("a point on it", flat, Checks.point(5, 0));
        dueNoCrossing("a point at its end", flat, Checks.point(0, 0));
        dueNoCrossing("the same point", Checks.point(5, 0), Checks.point(5, 0));
        dueNoCrossing("far, its end", Checks.line(-FAR, -FAR, FAR, FAR), Checks.line(1, 1, FAR, -FAR));
        dueCrossing("far, a little before its end", Checks.line(-FAR, -FAR, FAR, FAR), Checks.line(1, 2, FAR, -FAR), 1, 1);
    }

    /** "HOT are the pixels of all ends, and of all places where two segments cross" */
    private static void hotAreEndsAndCrossings() {
        Checks.due("no segments", new PixelSnapper().snap(), 0);
        Checks.due("alike ends", Checks.drawn(Checks.point(3, 3)).snap(), 1);
        Checks.due("ends of two", Checks.drawn(Checks.line(0, 0, 10, 0), Checks.line(0, 0, 5, 5)).snap(), 3);
        Checks.due("a crossing in an end's pixel", Checks.drawn(Checks.line(0, 0, 3, 1),
                Checks.line(0, 1, 3, 0), Checks.point(2, 1)).snap(), 5);
        Checks.due("a crossing in its own end's pixel", Checks.drawn(Checks.line(0, 0, 1, 1),
                Checks.line(0, 1, 1, 0)).snap(), 4);
        Checks.due("three crossings in one pixel", Checks.drawn(Checks.line(-100, 0, 100, 0),
                Checks.line(0, -100, 0, 100), Checks.line(-100, -101, 100, 101)).snap(), 7);
        Checks.due("an end on a segment", Checks.drawn(Checks.line(0, 0, 10, 0), Checks.line(5, 0, 5, 5)).snap(), 4);
        Checks.due("an overlap", Checks.drawn(Checks.line(0, 0, 10, 0), Checks.line(5, 0, 15, 0)).snap(), 4);
    }

    /** "they are numbered from 0, by x, of equal ones by y" */
    private static void hotNumbers() {
        PixelSnapper snapper = Checks.snapped(Checks.line(3, -2, -3, 4), Checks.line(3, 5, 3, -7),
                Checks.line(-FAR, FAR, FAR, -FAR), Checks.point(-3, -4), Checks.point(-FAR, -FAR), Checks.point(FAR, FAR));
        int[][] want = {{-FAR, -FAR}, {-FAR, FAR}, {-3, -4}, {-3, 4}, {3, -7}, {3, -3}, {3, -2}, {3, 5},
                {FAR, -FAR}, {FAR, FAR}};
        Checks.due("hot pixels", snapper.count(1), want.length);
        for (int p = 0; p < want.length; p++) {
            Checks.due("pixel(" + p + ", 0)", snapper.pixel(p, 0), want[p][0]);
            Checks.due("pixel(" + p + ", 1)", snapper.pixel(p, 1), want[p][1]);
        }
    }

    /** "in the order in which one that goes from its first end to its second one is in them" */
    private static void chainGoesFromTheFirstEnd() {
        // Pixels: 0 (0, 0), 1 (0, 2), 2 (0, 4), 3 (2, 0), 4 (2, 2), 5 (2, 4), 6 (4, 0), 7 (4, 2), 8 (4, 4).
        int[][] lines = new int[17][];
        for (int p = 0; p < 9; p++) {
            lines[p] = Checks.point(2 * (p / 3), 2 * (p % 3));
        }
        int[][] ends = {{0, 8}, {8, 0}, {2, 6}, {6, 2}, {3, 5}, {5, 3}, {1, 7}, {7, 1}};
        for (int e = 0; e < ends.length; e++) {
            int[] from = lines[ends[e][0]];
            int[] to = lines[ends[e][1]];
            lines[9 + e] = Checks.line(from[0], from[1], to[0], to[1]);
        }
        PixelSnapper snapper = Checks.snapped(lines);
        for (int e = 0; e < ends.length; e++) {
            Checks.dueChain("from " + ends[e][0] + " to " + ends[e][1], snapper, 9 + e, ends[e][0], 4, ends[e][1]);
        }
    }

    /** The same: a falling way is for one place, a corner, in the upper right pixel, between the two beside it. */
    private static void chainThroughACorner() {
        // Pixels: 0 (0, 0), 1 (0, 1), 2 (1, 0), 3 (1, 1).
        PixelSnapper snapper = Checks.snapped(Checks.line(0, 1, 1, 0), Checks.line(1, 0, 0, 1),
                Checks.line(0, 0, 1, 1), Checks.line(1, 1, 0, 0));
        Checks.dueChain("falling", snapper, 0, 1, 3, 2);
        Checks.dueChain("falling, back", snapper, 1, 2, 3, 1);
        Checks.dueChain("rising", snapper, 2, 0, 3);
        Checks.dueChain("rising, back", snapper, 3, 3, 0);
    }

    private static void duePiece(PixelSnapper snapper, int piece, int... want) {
        for (int what = 0; what < want.length; what++) {
            Checks.due("piece(" + piece + ", " + what + ")", snapper.piece(piece, what), want[what]);
        }
    }

    /** "told by two hot pixels that are neighbours in some chain, the lower number first" */
    private static void piecesLowerFirst() {
        PixelSnapper snapper = Checks.snapped(Checks.line(9, 0, 0, 0), Checks.point(5, 0), Checks.line(0, 9, 0, 5));
        Checks.due("pieces", snapper.count(2), 3);
        duePiece(snapper, 0, 0, 3, 1);
        duePiece(snapper, 1, 1, 2, 1);
        duePiece(snapper, 2, 3, 4, 1);
    }

    /** "each once, in the order of the first ones, of equal ones in that of the second ones" */
    private static void piecesEachOnce() {
        // Pixels: 0 (0, 0), 1 (0, 10), 2 (5, 5), 3 (10, 0), 4 (10, 10).
        PixelSnapper snapper = Checks.snapped(Checks.line(10, 10, 0, 0), Checks.line(0, 10, 10, 0),
                Checks.line(5, 5, 0, 0), Checks.line(0, 0, 5, 5), Checks.line(0, 0, 0, 10), Checks.line(10, 0, 0, 0));
        Checks.due("pieces", snapper.count(2), 6);
        duePiece(snapper, 0, 0, 1, 1);
        duePiece(snapper, 1, 0, 2, 3);
        duePiece(snapper, 2, 0, 3, 1);
        duePiece(snapper, 3, 1, 2, 1);
        duePiece(snapper, 4, 2, 3, 1);
        duePiece(snapper, 5, 2, 4, 1);
    }

    /** The same where a chain has one pixel alone, or there is no chain. */
    private static void piecesOfNoNeighbours() {
        PixelSnapper points = Checks.snapped(Checks.point(1, 1), Checks.point(2, 2), Checks.point(1, 1));
        Checks.due("points: pieces", points.count(2), 0);
        Checks.due("points: places", points.count(3), 3);
        Checks.dueThrow("points: piece(0, 0)", Checks.INDEX, () -> points.piece(0, 0));
        PixelSnapper empty = Checks.snapped();
        Checks.due("empty: pieces", empty.count(2), 0);
        Checks.dueThrow("empty: piece(0, 0)", Checks.INDEX, () -> empty.piece(0, 0));
    }

    /** "there is none behind clear()" */
    private static void noneBehindClear() {
        PixelSnapper snapper = Checks.snapped(Checks.line(0, 0, 10, 10), Checks.line(0, 10, 10, 0));
        snapper.clear();
        Checks.dueNothingSnapped("behind clear()", snapper);
        snapper.snap();
        snapper.clear();
        Checks.dueNothingSnapped("behind clear() of a snapped empty one", snapper);
    }

    /** "or segment()": behind one that is taken; a refused one changes nothing. */
    private static void noneBehindSegment() {
        PixelSnapper snapper = Checks.snapped(Checks.line(0, 0, 10, 10));
        Checks.dueThrow("refused", Checks.ARGUMENT, () -> snapper.segment(0, 0, 0, -FAR - 1));
        int[] kept = {1, 2, 1, 2, 1};
        for (int what = 0; what < kept.length; what++) {
            Checks.due("behind a refused one: count(" + what + ")", snapper.count(what), kept[what]);
        }
        Checks.dueChain("behind a refused one", snapper, 0, 0, 1);
        duePiece(snapper, 0, 0, 1, 1);
        snapper.segment(0, 0, 10, 10);
        Checks.due("behind segment(): count(0)", snapper.count(0), 2);
        Checks.dueNothingSnapped("behind segment()", snapper);
        Checks.due("behind segment(): meets", snapper.meets(1, 5, 5), true);
    }

    /** "until snap() is called again": all of it is of the latest one. */
    private static void untilSnapAgain() {
        PixelSnapper snapper = Checks.snapped(Checks.line(0, 0, 10, 10));
        Checks.dueChain("the first snap()", snapper, 0, 0, 1);
        snapper.segment(0, 10, 10, 0);
        Checks.due("the second snap()", snapper.snap(), 5);
        Checks.dueChain("the second snap()", snapper, 0, 0, 2, 4);
        Checks.dueChain("the second snap()", snapper, 1, 1, 2, 3);
        Checks.due("the same again", snapper.snap(), 5);
        int[] same = {2, 5, 4, 6, 1};
        for (int what = 0; what < same.length; what++) {
            Checks.due("the same again: count(" + what + ")", snapper.count(what), same[what]);
        }
        snapper.segment(0, 0, 5, 5);
        Checks.due("one more", snapper.snap(), 5);
        duePiece(snapper, 0, 0, 2, 2);
        snapper.clear();
        snapper.segment(7, 7, 7, 7);
        Checks.due("fewer", snapper.snap(), 1);
        Checks.due("fewer: pieces", snapper.count(2), 0);
        Checks.dueChain("fewer", snapper, 0, 0);
        Checks.dueThrow("fewer: pixel(1, 0)", Checks.INDEX, () -> snapper.pixel(1, 0));
    }

    /** "at most 512 calls after it has been made": the last of these is as good as the first. */
    private static void lastOfTheCalls() {
        PixelSnapper snapper = new PixelSnapper();
        for (int s = 0; s < 510; s++) {
            snapper.segment(0, s, 1000, s);
        }
        Checks.due("call 511: snap()", snapper.snap(), 1020);
        Checks.due("call 512: chainAt(509, 1)", snapper.chainAt(509, 1), 1019);
    }
}
