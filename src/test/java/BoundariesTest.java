/**
 * The boundary cases that the promises name: a method for each sentence, which it quotes. Those of a full
 * object are in LimitsTest, those of the terms in TermsTest.
 */
public final class BoundariesTest {
    private static final int FAR = 500000000;
    private static final int MOST = Integer.MAX_VALUE;
    private static final int LEAST = Integer.MIN_VALUE;
    /** None of these is a segment, pixel, place or what of the drawings here. */
    private static final int[] NOWHERE = {-1, -2, 5, 2047, 2048, 8192, 65536, MOST, MOST - 1, LEAST, LEAST + 1};
    private static final int[] OUT_OF_REACH = {FAR + 1, -FAR - 1, 2 * FAR, -2 * FAR, MOST, LEAST};

    public static void main(String[] args) {
        noSegmentsAtFirst();
        segmentAtTheReach();
        segmentOutOfReach();
        clearOfNone();
        clearTellsHowMany();
        snapOfNone();
        meetsNoSuchSegment();
        meetsAtTheReach();
        meetsOutOfReach();
        meetsFirstListed();
        crossingNoSuchSegment();
        crossingNoSuchWhat();
        crossingOfNone();
        crossingFirstListed();
        pixelNoSuchPixel();
        pixelNoSuchWhat();
        chainNoSuchSegment();
        chainWithoutChains();
        chainFirstListed();
        chainAtNoSuchSegment();
        chainAtNoSuchPixel();
        chainAtWithoutChains();
        chainAtFirstListed();
        pieceNoSuchPiece();
        pieceNoSuchWhat();
        pieceInHowManyChains();
        countOfNone();
        countWhetherSnapped();
        countAnotherWhat();
        Checks.end();
    }

    /** Two that cross, and one point: 6 pixels, 4 pieces, 7 places. */
    private static PixelSnapper unsnapped() {
        return Checks.drawn(Checks.line(0, 0, 10, 10), Checks.line(0, 10, 10, 0), Checks.point(9, 0));
    }

    private static PixelSnapper snapped() {
        PixelSnapper snapper = unsnapped();
        snapper.snap();
        return snapper;
    }

    private static PixelSnapper[] allStates() {
        PixelSnapper emptied = snapped();
        emptied.clear();
        return new PixelSnapper[] {new PixelSnapper(), emptied, Checks.snapped(), unsnapped(), snapped()};
    }

    /** Promise 1: "No segments." */
    private static void noSegmentsAtFirst() {
        PixelSnapper used = snapped();
        PixelSnapper snapper = new PixelSnapper();
        Checks.due("new: count(0)", snapper.count(0), 0);
        Checks.dueNothingSnapped("new", snapper);
        Checks.dueThrow("new: meets(0, 0, 0)", Checks.INDEX, () -> snapper.meets(0, 0, 0));
        Checks.dueThrow("new: crossing(0, 0, 0)", Checks.INDEX, () -> snapper.crossing(0, 0, 0));
        Checks.due("new: clear()", snapper.clear(), 0);
        Checks.due("new: segment()", snapper.segment(1, 2, 3, 4), 0);
        Checks.due("another one: count(0)", used.count(0), 3);
        Checks.due("another one: count(4)", used.count(4), 1);
    }

    /** Promise 2: "IllegalArgumentException, when an x or y is none of these": not at -500000000 or 500000000. */
    private static void segmentAtTheReach() {
        PixelSnapper snapper = new PixelSnapper();
        int number = 0;
        for (int edge : new int[] {-FAR, FAR}) {
            Checks.due("x " + edge, snapper.segment(edge, 0, 0, 0), number++);
            Checks.due("y " + edge, snapper.segment(0, edge, 0, 0), number++);
            Checks.due("toX " + edge, snapper.segment(0, 0, edge, 0), number++);
            Checks.due("toY " + edge, snapper.segment(0, 0, 0, edge), number++);
            Checks.due("all " + edge, snapper.segment(edge, edge, edge, edge), number++);
        }
        Checks.due("across", snapper.segment(-FAR, FAR, FAR, -FAR), number++);
        Checks.due("count(0)", snapper.count(0), number);
        Checks.due("snap()", snapper.snap(), 9);
    }

    /** Promise 2: the same, one past these and farther; nothing is changed then. */
    private static void segmentOutOfReach() {
        PixelSnapper snapper = snapped();
        for (int bad : OUT_OF_REACH) {
            Checks.dueThrow("x " + bad, Checks.ARGUMENT, () -> snapper.segment(bad, 0, 0, 0));
            Checks.dueThrow("y " + bad, Checks.ARGUMENT, () -> snapper.segment(0, bad, 0, 0));
            Checks.dueThrow("toX " + bad, Checks.ARGUMENT, () -> snapper.segment(0, 0, bad, 0));
            Checks.dueThrow("toY " + bad, Checks.ARGUMENT, () -> snapper.segment(0, 0, 0, bad));
            Checks.dueThrow("all " + bad, Checks.ARGUMENT, () -> snapper.segment(bad, bad, bad, bad));
        }
        int[] kept = {3, 6, 4, 7, 1};
        for (int what = 0; what < kept.length; what++) {
            Checks.due("refused: count(" + what + ")", snapper.count(what), kept[what]);
        }
        Checks.due("behind refused ones", snapper.segment(1, 1, 2, 2), 3);
    }

    /** Promise 3: "how many there were", of none. */
    private static void clearOfNone() {
        PixelSnapper snapper = new PixelSnapper();
        Checks.due("new", snapper.clear(), 0);
        Checks.due("cleared", snapper.clear(), 0);
        snapper.snap();
        Checks.due("snapped", snapper.clear(), 0);
        Checks.due("snapped and cleared: count(4)", snapper.count(4), 0);
    }

    /** Promise 3: "No segments: how many there were." */
    private static void clearTellsHowMany() {
        PixelSnapper snapper = snapped();
        Checks.dueThrow("refused", Checks.ARGUMENT, () -> snapper.segment(MOST, 0, 0, 0));
        Checks.due("clear(), of which a refused one is none", snapper.clear(), 3);
        Checks.due("clear() again", snapper.clear(), 0);
        Checks.due("cleared: count(0)", snapper.count(0), 0);
        Checks.dueThrow("cleared: meets", Checks.INDEX, () -> snapper.meets(0, 0, 0));
        Checks.dueThrow("cleared: crossing", Checks.INDEX, () -> snapper.crossing(0, 1, 0));
        Checks.due("cleared: segment()", snapper.segment(9, 9, 8, 8), 0);
        Checks.due("cleared, another: snap()", snapper.snap(), 2);
        Checks.due("cleared, another: pixel(0, 0)", snapper.pixel(0, 0), 8);
        Checks.due("one: clear()", snapper.clear(), 1);
    }

    /** Promise 4: "how many pixels are hot", of none. */
    private static void snapOfNone() {
        PixelSnapper snapper = new PixelSnapper();
        Checks.due("new: snap()", snapper.snap(), 0);
        Checks.due("new: snap() again", snapper.snap(), 0);
        int[] want = {0, 0, 0, 0, 1};
        for (int what = 0; what < want.length; what++) {
            Checks.due("snapped: count(" + what + ")", snapper.count(what), want[what]);
        }
        Checks.dueThrow("snapped: pixel(0, 0)", Checks.INDEX, () -> snapper.pixel(0, 0));
        Checks.dueThrow("snapped: chain(0)", Checks.INDEX, () -> snapper.chain(0));
    }

    /** Promise 5: "IndexOutOfBoundsException, when there is no such segment" */
    private static void meetsNoSuchSegment() {
        for (PixelSnapper snapper : allStates()) {
            for (int bad : NOWHERE) {
                Checks.dueThrow("meets(" + bad + ", ..)", Checks.INDEX, () -> snapper.meets(bad, 0, 0));
            }
            int segments = snapper.count(0);
            Checks.dueThrow("behind the last", Checks.INDEX, () -> snapper.meets(segments, 0, 0));
        }
        Checks.due("the last", snapped().meets(2, 9, 0), true);
    }

    /** Promise 5: "when x or y is none from -500000000 to 500000000": not at these. */
    private static void meetsAtTheReach() {
        PixelSnapper snapper = Checks.drawn(Checks.line(-FAR, -FAR, FAR, FAR), Checks.line(-FAR, FAR, FAR, -FAR));
        Checks.due("rising, least", snapper.meets(0, -FAR, -FAR), true);
        Checks.due("rising, most", snapper.meets(0, FAR, FAR), true);
        Checks.due("rising, beside", snapper.meets(0, FAR, FAR - 1), false);
        Checks.due("rising, another corner", snapper.meets(0, -FAR, FAR), false);
        Checks.due("falling, highest", snapper.meets(1, -FAR, FAR), true);
        Checks.due("falling, lowest", snapper.meets(1, FAR, -FAR), true);
        Checks.due("falling, the corner above", snapper.meets(1, FAR, 1 - FAR), true);
        Checks.due("falling, another corner", snapper.meets(1, FAR, FAR), false);
    }

    /** Promise 5: the same, one past these and farther. */
    private static void meetsOutOfReach() {
        PixelSnapper snapper = Checks.drawn(Checks.line(-FAR, -FAR, FAR, FAR));
        for (int bad : OUT_OF_REACH) {
            Checks.dueThrow("x " + bad, Checks.ARGUMENT, () -> snapper.meets(0, bad, 0));
            Checks.dueThrow("y " + bad, Checks.ARGUMENT, () -> snapper.meets(0, 0, bad));
            Checks.dueThrow("x and y " + bad, Checks.ARGUMENT, () -> snapper.meets(0, bad, bad));
        }
    }

    /** Promise 5, and "Of several exceptions the first one listed is thrown". */
    private static void meetsFirstListed() {
        PixelSnapper snapper = unsnapped();
        Checks.dueThrow("segment and x", Checks.INDEX, () -> snapper.meets(3, FAR + 1, 0));
        Checks.dueThrow("segment and y", Checks.INDEX, () -> snapper.meets(-1, 0, -FAR - 1));
        Checks.dueThrow("no segments, and x", Checks.INDEX, () -> new PixelSnapper().meets(0, MOST, 0));
    }

    /** Promise 6: "IndexOutOfBoundsException, when there is no such segment" */
    private static void crossingNoSuchSegment() {
        for (PixelSnapper snapper : allStates()) {
            for (int bad : NOWHERE) {
                Checks.dueThrow("crossing(" + bad + ", 0, 0)", Checks.INDEX, () -> snapper.crossing(bad, 0, 0));
                Checks.dueThrow("crossing(0, " + bad + ", 1)", Checks.INDEX, () -> snapper.crossing(0, bad, 1));
            }
            int segments = snapper.count(0);
            Checks.dueThrow("behind the last", Checks.INDEX, () -> snapper.crossing(segments, 0, 0));
            Checks.dueThrow("other behind the last", Checks.INDEX, () -> snapper.crossing(0, segments, 0));
        }
    }

    /** Promise 6: "or what" */
    private static void crossingNoSuchWhat() {
        PixelSnapper snapper = unsnapped();
        Checks.due("what 0", snapper.crossing(0, 1, 0), 5);
        Checks.due("what 1", snapper.crossing(0, 1, 1), 5);
        Checks.dueThrow("what 2", Checks.INDEX, () -> snapper.crossing(0, 1, 2));
        for (int bad : NOWHERE) {
            Checks.dueThrow("what " + bad, Checks.INDEX, () -> snapper.crossing(0, 1, bad));
        }
    }

    /** Promise 6: "IllegalStateException, when they do not cross" */
    private static void crossingOfNone() {
        for (PixelSnapper snapper : new PixelSnapper[] {unsnapped(), snapped()}) {
            Checks.dueThrow("apart", Checks.STATE, () -> snapper.crossing(0, 2, 0));
            Checks.dueThrow("apart, y", Checks.STATE, () -> snapper.crossing(2, 1, 1));
            Checks.dueThrow("with itself", Checks.STATE, () -> snapper.crossing(0, 0, 0));
            Checks.dueThrow("a point with itself", Checks.STATE, () -> snapper.crossing(2, 2, 0));
        }
    }

    /** Promise 6, and "Of several exceptions the first one listed is thrown". */
    private static void crossingFirstListed() {
        PixelSnapper snapper = unsnapped();
        Checks.dueThrow("what, and no crossing", Checks.INDEX, () -> snapper.crossing(0, 2, 2));
        Checks.dueThrow("what, and itself", Checks.INDEX, () -> snapper.crossing(1, 1, -1));
        Checks.dueThrow("segment, and itself", Checks.INDEX, () -> snapper.crossing(3, 3, 0));
    }

    /** Promise 7: "IndexOutOfBoundsException, when there is no such pixel" */
    private static void pixelNoSuchPixel() {
        PixelSnapper snapper = snapped();
        Checks.due("the first", snapper.pixel(0, 1), 0);
        Checks.due("the last", snapper.pixel(5, 1), 10);
        Checks.dueThrow("behind the last", Checks.INDEX, () -> snapper.pixel(6, 0));
        for (int bad : new int[] {-1, 2048, 8191, 8192, MOST, LEAST}) {
            Checks.dueThrow("pixel(" + bad + ", 0)", Checks.INDEX, () -> snapper.pixel(bad, 0));
            Checks.dueThrow("pixel(" + bad + ", 1)", Checks.INDEX, () -> snapper.pixel(bad, 1));
        }
        Checks.dueThrow("without snap()", Checks.INDEX, () -> unsnapped().pixel(0, 0));
        Checks.dueThrow("empty, snapped", Checks.INDEX, () -> Checks.snapped().pixel(0, 0));
    }

    /** Promise 7: "or what" */
    private static void pixelNoSuchWhat() {
        PixelSnapper snapper = snapped();
        Checks.due("what 0", snapper.pixel(3, 0), 9);
        Checks.due("what 1", snapper.pixel(3, 1), 0);
        Checks.dueThrow("what 2", Checks.INDEX, () -> snapper.pixel(3, 2));
        for (int bad : NOWHERE) {
            Checks.dueThrow("what " + bad, Checks.INDEX, () -> snapper.pixel(3, bad));
        }
    }

    /** Promise 8: "IndexOutOfBoundsException, when there is no such segment" */
    private static void chainNoSuchSegment() {
        PixelSnapper snapper = snapped();
        Checks.due("the last", snapper.chain(2), 1);
        Checks.dueThrow("behind the last", Checks.INDEX, () -> snapper.chain(3));
        for (int bad : NOWHERE) {
            Checks.dueThrow("chain(" + bad + ")", Checks.INDEX, () -> snapper.chain(bad));
        }
        Checks.dueThrow("empty, snapped", Checks.INDEX, () -> Checks.snapped().chain(0));
    }

    /** Promise 8: "IllegalStateException, when there are no chains" */
    private static void chainWithoutChains() {
        PixelSnapper snapper = unsnapped();
        Checks.dueThrow("the first", Checks.STATE, () -> snapper.chain(0));
        Checks.dueThrow("the last", Checks.STATE, () -> snapper.chain(2));
        snapper.snap();
        Checks.due("snapped", snapper.chain(0), 3);
        snapper.segment(0, 0, 0, 0);
        Checks.dueThrow("an old one behind segment()", Checks.STATE, () -> snapper.chain(0));
        Checks.dueThrow("the new one behind segment()", Checks.STATE, () -> snapper.chain(3));
    }

    /** Promise 8, and "Of several exceptions the first one listed is thrown". */
    private static void chainFirstListed() {
        PixelSnapper snapper = unsnapped();
        Checks.dueThrow("behind the last, no chains", Checks.INDEX, () -> snapper.chain(3));
        for (int bad : NOWHERE) {
            Checks.dueThrow("no chains: chain(" + bad + ")", Checks.INDEX, () -> snapper.chain(bad));
        }
        Checks.dueThrow("new", Checks.INDEX, () -> new PixelSnapper().chain(0));
    }

    /** Promise 9: "IndexOutOfBoundsException, when there is no such segment" */
    private static void chainAtNoSuchSegment() {
        PixelSnapper snapper = snapped();
        Checks.due("the last", snapper.chainAt(2, 0), 3);
        Checks.dueThrow("behind the last", Checks.INDEX, () -> snapper.chainAt(3, 0));
        for (int bad : NOWHERE) {
            Checks.dueThrow("chainAt(" + bad + ", 0)", Checks.INDEX, () -> snapper.chainAt(bad, 0));
            Checks.dueThrow("chainAt(" + bad + ", " + bad + ")", Checks.INDEX, () -> snapper.chainAt(bad, bad));
        }
    }

    /** Promise 9: "or pixel": behind a chain's last, though other chains go on there, and where k would wrap. */
    private static void chainAtNoSuchPixel() {
        PixelSnapper snapper = snapped();
        int[] lengths = {3, 3, 1};
        for (int s = 0; s < lengths.length; s++) {
            int segment = s;
            int length = lengths[s];
            Checks.due("chain(" + s + ")", snapper.chain(s), length);
            Checks.due("the last is a pixel", snapper.chainAt(s, length - 1) >= 0, true);
            Checks.dueThrow("behind the last of " + s, Checks.INDEX, () -> snapper.chainAt(segment, length));
            Checks.dueThrow("before the first of " + s, Checks.INDEX, () -> snapper.chainAt(segment, -1));
            for (int bad : NOWHERE) {
                Checks.dueThrow("chainAt(" + s + ", " + bad + ")", Checks.INDEX, () -> snapper.chainAt(segment, bad));
            }
        }
    }

    /** Promise 9: "IllegalStateException, when there are no chains" */
    private static void chainAtWithoutChains() {
        PixelSnapper snapper = unsnapped();
        Checks.dueThrow("the first", Checks.STATE, () -> snapper.chainAt(0, 0));
        Checks.dueThrow("the last", Checks.STATE, () -> snapper.chainAt(2, 0));
        snapper.snap();
        snapper.segment(0, 0, 0, 0);
        Checks.dueThrow("behind segment()", Checks.STATE, () -> snapper.chainAt(0, 0));
    }

    /**
     * Promise 9, "Of several exceptions the first one listed is thrown; without chains no pixel of a chain is
     * asked for": a wrong segment comes first, a wrong k does not count.
     */
    private static void chainAtFirstListed() {
        PixelSnapper snapper = unsnapped();
        for (int bad : NOWHERE) {
            Checks.dueThrow("no chains: segment " + bad, Checks.INDEX, () -> snapper.chainAt(bad, 0));
            Checks.dueThrow("no chains: k " + bad, Checks.STATE, () -> snapper.chainAt(0, bad));
            Checks.dueThrow("no chains: both " + bad, Checks.INDEX, () -> snapper.chainAt(bad, bad));
        }
        Checks.dueThrow("new", Checks.INDEX, () -> new PixelSnapper().chainAt(0, 0));
    }

    /** Promise 10: "IndexOutOfBoundsException, when there is no such piece" */
    private static void pieceNoSuchPiece() {
        PixelSnapper snapper = snapped();
        Checks.due("the first", snapper.piece(0, 0), 0);
        Checks.due("the last", snapper.piece(3, 1), 5);
        Checks.dueThrow("behind the last", Checks.INDEX, () -> snapper.piece(4, 0));
        for (int bad : NOWHERE) {
            for (int what = 0; what <= 2; what++) {
                int asked = what;
                Checks.dueThrow("piece(" + bad + ", " + what + ")", Checks.INDEX, () -> snapper.piece(bad, asked));
            }
        }
        Checks.dueThrow("without snap()", Checks.INDEX, () -> unsnapped().piece(0, 0));
        Checks.dueThrow("empty, snapped", Checks.INDEX, () -> Checks.snapped().piece(0, 0));
    }

    /** Promise 10: "or what" */
    private static void pieceNoSuchWhat() {
        PixelSnapper snapper = snapped();
        Checks.due("what 0", snapper.piece(2, 0), 2);
        Checks.due("what 1", snapper.piece(2, 1), 4);
        Checks.due("what 2", snapper.piece(2, 2), 1);
        Checks.dueThrow("what 3", Checks.INDEX, () -> snapper.piece(2, 3));
        for (int bad : NOWHERE) {
            Checks.dueThrow("what " + bad, Checks.INDEX, () -> snapper.piece(2, bad));
        }
    }

    /** Promise 10: "in how many chains it is, each as often as it is in it": those of equal segments too. */
    private static void pieceInHowManyChains() {
        PixelSnapper snapper = new PixelSnapper();
        for (int s = 0; s < 100; s++) {
            snapper.segment(s % 2 == 0 ? 0 : 9, 0, s % 2 == 0 ? 9 : 0, 0);
        }
        snapper.segment(4, 0, 9, 0);
        snapper.snap();
        Checks.due("pieces", snapper.count(2), 2);
        Checks.due("in all but one", snapper.piece(0, 2), 100);
        Checks.due("in all", snapper.piece(1, 2), 101);
    }

    /** Promise 11: "Segments (0), hot pixels (1), pieces (2), places in all chains (3)", of none. */
    private static void countOfNone() {
        PixelSnapper emptied = snapped();
        emptied.clear();
        for (PixelSnapper snapper : new PixelSnapper[] {new PixelSnapper(), emptied, Checks.snapped()}) {
            for (int what = 0; what <= 3; what++) {
                Checks.due("empty: count(" + what + ")", snapper.count(what), 0);
            }
        }
        int[] want = {3, 0, 0, 0};
        for (int what = 0; what < want.length; what++) {
            Checks.due("unsnapped: count(" + what + ")", unsnapped().count(what), want[what]);
        }
    }

    /** Promise 11: "whether something was snapped (4: 1 or 0)" */
    private static void countWhetherSnapped() {
        PixelSnapper snapper = new PixelSnapper();
        Checks.due("new", snapper.count(4), 0);
        snapper.snap();
        Checks.due("snapped", snapper.count(4), 1);
        snapper.snap();
        Checks.due("snapped again", snapper.count(4), 1);
        snapper.segment(0, 0, 1, 1);
        Checks.due("behind segment()", snapper.count(4), 0);
        snapper.snap();
        Checks.due("snapped once more", snapper.count(4), 1);
        snapper.clear();
        Checks.due("behind clear()", snapper.count(4), 0);
    }

    /** Promise 11: "NONE for another what." */
    private static void countAnotherWhat() {
        Checks.due("NONE", PixelSnapper.NONE, -1);
        for (PixelSnapper snapper : allStates()) {
            for (int bad : NOWHERE) {
                Checks.due("count(" + bad + ")", snapper.count(bad), PixelSnapper.NONE);
            }
        }
    }
}
