/** Each promise by ordinary inputs; its boundary cases are in BoundariesTest, LimitsTest and TermsTest. */
public final class PromisesTest {
    private static final int FAR = 500000000;

    public static void main(String[] args) {
        newObject();
        segmentNumbers();
        clearDrops();
        snapFinds();
        snapIsForgotten();
        meetsHalfOpen();
        crossingPlaces();
        pixelOrder();
        chainDirections();
        pieceOrder();
        countKinds();
        Checks.end();
    }

    private static void newObject() {
        PixelSnapper snapper = new PixelSnapper();
        Checks.due("NONE", PixelSnapper.NONE, -1);
        Checks.due("new: count(0)", snapper.count(0), 0);
        Checks.dueNothingSnapped("new", snapper);
        Checks.due("new: clear()", snapper.clear(), 0);
        Checks.due("new: snap()", snapper.snap(), 0);
        Checks.due("new, snapped: count(4)", snapper.count(4), 1);
        PixelSnapper other = new PixelSnapper();
        snapper.segment(0, 0, 1, 1);
        Checks.due("another object: count(0)", other.count(0), 0);
    }

    private static void segmentNumbers() {
        PixelSnapper snapper = new PixelSnapper();
        for (int n = 0; n < 100; n++) {
            Checks.due("segment " + n, snapper.segment(n, -n, 2 * n, n), n);
        }
        Checks.due("alike ends", snapper.segment(7, 7, 7, 7), 100);
        Checks.due("the same again", snapper.segment(7, 7, 7, 7), 101);
        Checks.due("the farthest ends", snapper.segment(-FAR, -FAR, FAR, FAR), 102);
        Checks.due("the farthest ends back", snapper.segment(FAR, -FAR, -FAR, FAR), 103);
        Checks.due("count(0)", snapper.count(0), 104);
    }

    private static void clearDrops() {
        PixelSnapper snapper = Checks.snapped(Checks.line(0, 0, 5, 5), Checks.line(0, 5, 5, 0));
        Checks.due("clear()", snapper.clear(), 2);
        Checks.due("clear() again", snapper.clear(), 0);
        Checks.due("cleared: count(0)", snapper.count(0), 0);
        Checks.dueNothingSnapped("cleared", snapper);
        Checks.dueThrow("cleared: meets", Checks.INDEX, () -> snapper.meets(0, 0, 0));
        Checks.dueThrow("cleared: crossing", Checks.INDEX, () -> snapper.crossing(0, 1, 0));
        Checks.due("cleared: snap()", snapper.snap(), 0);
        Checks.due("cleared, snapped: count(4)", snapper.count(4), 1);
        Checks.due("clear() of none", snapper.clear(), 0);
        Checks.due("cleared again: count(4)", snapper.count(4), 0);
        Checks.due("numbers from 0 again", snapper.segment(9, 9, 8, 8), 0);
        Checks.due("snap of the new", snapper.snap(), 2);
        Checks.due("pixel of the new", snapper.pixel(0, 0), 8);
    }

    private static void snapFinds() {
        PixelSnapper snapper = Checks.drawn(Checks.line(0, 0, 10, 10), Checks.line(0, 10, 10, 0));
        Checks.due("a cross: snap()", snapper.snap(), 5);
        Checks.due("a cross: snap() again", snapper.snap(), 5);
        Checks.due("a cross: places", snapper.count(3), 6);
        Checks.due("an end on a segment", Checks.drawn(Checks.line(0, 0, 10, 0), Checks.line(5, 0, 5, 5)).snap(), 4);
        Checks.due("a common end", Checks.drawn(Checks.line(0, 0, 10, 0), Checks.line(0, 0, 5, 5)).snap(), 3);
        Checks.due("an overlap", Checks.drawn(Checks.line(0, 0, 10, 0), Checks.line(5, 0, 15, 0)).snap(), 4);
        Checks.due("the same twice", Checks.drawn(Checks.line(0, 0, 9, 4), Checks.line(9, 4, 0, 0)).snap(), 2);
        Checks.due("a point", Checks.drawn(Checks.point(3, 3)).snap(), 1);
        Checks.due("crossings in one pixel", Checks.drawn(Checks.line(-100, 0, 100, 0),
                Checks.line(0, -100, 0, 100), Checks.line(-100, -101, 100, 101)).snap(), 7);
        Checks.due("a crossing in an end's pixel", Checks.drawn(Checks.line(0, 0, 3, 1),
                Checks.line(0, 1, 3, 0), Checks.point(2, 1)).snap(), 5);
    }

    private static void snapIsForgotten() {
        PixelSnapper snapper = Checks.snapped(Checks.line(0, 0, 10, 10));
        snapper.segment(0, 10, 10, 0);
        Checks.dueNothingSnapped("behind segment()", snapper);
        Checks.due("behind segment(): crossing", snapper.crossing(0, 1, 0), 5);
        Checks.due("behind segment(): meets", snapper.meets(0, 5, 5), true);
        Checks.due("snap() again", snapper.snap(), 5);
        Checks.dueChain("snapped again", snapper, 0, 0, 2, 4);
        Checks.dueChain("snapped again", snapper, 1, 1, 2, 3);
    }

    private static void meetsHalfOpen() {
        PixelSnapper snapper = Checks.drawn(Checks.line(0, 0, 10, 1), Checks.line(0, 0, 4, 4),
                Checks.line(0, 4, 4, 0), Checks.line(0, 0, 1, 10), Checks.point(2, 3), Checks.line(0, 1, 3, 0),
                Checks.line(-FAR, -FAR, FAR, FAR - 1), Checks.line(3, 3, 3, -3));
        // At x = 5 the first one is at y = 1/2, which is the upper pixel's.
        Checks.due("below the half", snapper.meets(0, 5, 0), true);
        Checks.due("at the half", snapper.meets(0, 5, 1), true);
        Checks.due("before the half", snapper.meets(0, 4, 1), false);
        Checks.due("behind the half", snapper.meets(0, 6, 0), false);
        Checks.due("behind the end", snapper.meets(0, 11, 1), false);
        Checks.due("steep, at the half", snapper.meets(3, 1, 5), true);
        Checks.due("steep, before the half", snapper.meets(3, 1, 4), false);
        // A rising diagonal goes through corners that belong to the pixels on it; a falling one, whose
        // corners belong to the pixels above it.
        Checks.due("rising", snapper.meets(1, 2, 2), true);
        Checks.due("rising, above", snapper.meets(1, 1, 2), false);
        Checks.due("rising, below", snapper.meets(1, 2, 1), false);
        Checks.due("falling", snapper.meets(2, 2, 2), true);
        Checks.due("falling, its corner above", snapper.meets(2, 2, 3), true);
        Checks.due("falling, its corner below", snapper.meets(2, 1, 2), false);
        Checks.due("a point", snapper.meets(4, 2, 3), true);
        Checks.due("beside a point", snapper.meets(4, 2, 2), false);
        Checks.due("falling by a third", snapper.meets(5, 1, 1), true);
        Checks.due("falling by a third, below", snapper.meets(5, 2, 1), true);
        Checks.due("far", snapper.meets(6, 0, -1), true);
        Checks.due("far, its end", snapper.meets(6, FAR, FAR - 1), true);
        Checks.due("far, beside its end", snapper.meets(6, FAR, FAR), false);
        Checks.due("upright", snapper.meets(7, 3, 0), true);
        Checks.due("beside upright", snapper.meets(7, 2, 0), false);
        Checks.due("below upright", snapper.meets(7, 3, -4), false);
        Checks.due("farthest pixel", snapper.meets(7, -FAR, FAR), false);
    }

    private static void dueCrossing(String name, int[] one, int[] other, int x, int y) {
        PixelSnapper snapper = Checks.drawn(one, other);
        Checks.due(name + ": x", snapper.crossing(0, 1, 0), x);
        Checks.due(name + ": y", snapper.crossing(0, 1, 1), y);
        Checks.due(name + ": x from the other", snapper.crossing(1, 0, 0), x);
        Checks.due(name + ": y from the other", snapper.crossing(1, 0, 1), y);
    }

    private static void crossingPlaces() {
        dueCrossing("whole", Checks.line(0, 0, 10, 10), Checks.line(0, 10, 10, 0), 5, 5);
        dueCrossing("halves go up", Checks.line(0, 0, 1, 1), Checks.line(0, 1, 1, 0), 1, 1);
        dueCrossing("halves below 0 go up", Checks.line(-1, -1, 0, 0), Checks.line(-1, 0, 0, -1), 0, 0);
        dueCrossing("halves on a way down", Checks.line(1, 1, 0, 0), Checks.line(1, 0, 0, 1), 1, 1);
        dueCrossing("thirds", Checks.line(0, 0, 2, 1), Checks.line(0, 1, 1, 0), 1, 0);
        dueCrossing("far", Checks.line(-FAR, -FAR, FAR, FAR - 1), Checks.line(-FAR, FAR, FAR, -FAR), 0, 0);
        dueCrossing("far and flat", Checks.line(-FAR, FAR, FAR, -FAR), Checks.line(FAR, 0, -FAR, 1), -1, 1);
        dueCrossing("far corner", Checks.line(FAR - 1, FAR, FAR, FAR - 1), Checks.line(-FAR, -FAR, FAR, FAR), FAR, FAR);
    }

    private static void pixelOrder() {
        PixelSnapper snapper = Checks.snapped(Checks.line(3, -2, -3, 4), Checks.line(3, 5, 3, -7),
                Checks.line(-FAR, FAR, FAR, -FAR), Checks.point(-3, -4));
        int[][] want = {{-FAR, FAR}, {-3, -4}, {-3, 4}, {3, -7}, {3, -3}, {3, -2}, {3, 5}, {FAR, -FAR}};
        Checks.due("hot pixels", snapper.count(1), want.length);
        for (int p = 0; p < want.length; p++) {
            Checks.due("pixel(" + p + ", 0)", snapper.pixel(p, 0), want[p][0]);
            Checks.due("pixel(" + p + ", 1)", snapper.pixel(p, 1), want[p][1]);
        }
    }

    /** One steep and one flat way, each in all four directions, with two hot pixels in one column or row. */
    private static void chainDirections() {
        int[][] points = {{0, 0}, {0, 1}, {1, 2}, {1, 3}, {2, 4}};
        for (int turn = 0; turn < 8; turn++) {
            int[][] on = new int[points.length][];
            for (int p = 0; p < points.length; p++) {
                on[p] = turned(points[p], turn);
            }
            PixelSnapper snapper = new PixelSnapper();
            snapper.segment(on[0][0], on[0][1], on[4][0], on[4][1]);
            snapper.segment(on[4][0], on[4][1], on[0][0], on[0][1]);
            for (int[] p : on) {
                snapper.segment(p[0], p[1], p[0], p[1]);
            }
            snapper.snap();
            dueWay("turn " + turn, snapper, on);
        }
        PixelSnapper point = Checks.snapped(Checks.point(2, 2), Checks.line(0, 2, 9, 2));
        Checks.dueChain("a point", point, 0, 1);
        Checks.dueChain("through a point", point, 1, 0, 1, 2);
    }

    private static int[] turned(int[] point, int turn) {
        int x = (turn & 1) == 0 ? point[0] : -point[0];
        int y = (turn & 2) == 0 ? point[1] : -point[1];
        return (turn & 4) == 0 ? new int[] {x, y} : new int[] {y, x};
    }

    /** Which of the points the way meets is asked of meets(), which has tests of its own. */
    private static void dueWay(String name, PixelSnapper snapper, int[][] on) {
        int met = 0;
        for (int[] p : on) {
            if (!snapper.meets(0, p[0], p[1])) {
                continue;
            }
            int pixel = snapper.chainAt(0, met);
            Checks.due(name + ": x of place " + met, snapper.pixel(pixel, 0), p[0]);
            Checks.due(name + ": y of place " + met, snapper.pixel(pixel, 1), p[1]);
            Checks.due(name + ": the way back", snapper.chainAt(1, snapper.chain(1) - 1 - met), pixel);
            met++;
        }
        Checks.due(name + ": chain(0)", snapper.chain(0), met);
        Checks.due(name + ": chain(1)", snapper.chain(1), met);
    }

    private static void duePiece(PixelSnapper snapper, int piece, int... want) {
        for (int what = 0; what < want.length; what++) {
            Checks.due("piece(" + piece + ", " + what + ")", snapper.piece(piece, what), want[what]);
        }
    }

    private static void pieceOrder() {
        // Pixels: 0 (0, 0), 1 (0, 10), 2 (5, 5), 3 (10, 0), 4 (10, 10).
        PixelSnapper snapper = Checks.snapped(Checks.line(10, 10, 0, 0), Checks.line(0, 10, 10, 0),
                Checks.line(5, 5, 0, 0), Checks.line(0, 0, 5, 5), Checks.line(0, 0, 0, 10), Checks.point(5, 5));
        Checks.due("pieces", snapper.count(2), 5);
        duePiece(snapper, 0, 0, 1, 1);
        duePiece(snapper, 1, 0, 2, 3);
        duePiece(snapper, 2, 1, 2, 1);
        duePiece(snapper, 3, 2, 3, 1);
        duePiece(snapper, 4, 2, 4, 1);
        Checks.due("points have no pieces", Checks.snapped(Checks.point(1, 1), Checks.point(2, 2)).count(2), 0);
    }

    private static void countKinds() {
        PixelSnapper snapper = Checks.drawn(Checks.line(0, 0, 10, 10), Checks.line(0, 10, 10, 0), Checks.point(9, 0));
        Checks.due("unsnapped: segments", snapper.count(0), 3);
        Checks.dueNothingSnapped("unsnapped", snapper);
        snapper.snap();
        int[] want = {3, 6, 4, 7, 1};
        for (int what = 0; what < want.length; what++) {
            Checks.due("count(" + what + ")", snapper.count(what), want[what]);
        }
        for (int bad : new int[] {-1, 5, Integer.MAX_VALUE, Integer.MIN_VALUE}) {
            Checks.due("count(" + bad + ")", snapper.count(bad), PixelSnapper.NONE);
        }
    }
}
