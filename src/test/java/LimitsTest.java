import java.util.List;

/** The boundary cases of a full object: the document's limits, at the last that is allowed and one past it. */
public final class LimitsTest {
    public static void main(String[] args) {
        mostHotPixels();
        repeatedCrossings();
        farTooManyCrossings();
        mostPlaces();
        noneIsThereThen();
        mostSegments();
        mostSegmentsFirstListed();
        Checks.end();
    }

    private static void dueRefused(String name, PixelSnapper snapper, int segments) {
        Checks.dueThrow(name + ": snap()", Checks.UNSUPPORTED, snapper::snap);
        Checks.due(name + ": count(0)", snapper.count(0), segments);
        Checks.dueNothingSnapped(name, snapper);
        Checks.dueThrow(name + ": snap() again", Checks.UNSUPPORTED, snapper::snap);
    }

    /** 88 by 88 lines make 7744 crossings and 352 ends; 96 points make it 8192. */
    private static PixelSnapper fullOfHot() {
        List<int[]> lines = Checks.grid(88, 88);
        for (int p = 0; p < 96; p++) {
            lines.add(Checks.point(1000, p));
        }
        return Checks.drawn(lines.toArray(new int[0][]));
    }

    /** Promise 4: "UnsupportedOperationException, when there would be more than 8192" */
    private static void mostHotPixels() {
        PixelSnapper snapper = fullOfHot();
        Checks.due("8192 hot: snap()", snapper.snap(), 8192);
        Checks.due("8192 hot: count(1)", snapper.count(1), 8192);
        Checks.due("8192 hot: places", snapper.count(3), 176 * 90 + 96);
        Checks.due("8192 hot: pieces", snapper.count(2), 176 * 89);
        // The last crossing, of number 88 + 87 * 90 + 88, and the right end beside it.
        Checks.due("8192 hot: last piece, lower", snapper.piece(176 * 89 - 1, 0), 8006);
        Checks.due("8192 hot: last piece, higher", snapper.piece(176 * 89 - 1, 1), 8095);
        Checks.due("8192 hot: last pixel", snapper.pixel(8191, 1), 95);
        Checks.due("8192 hot: last chain", snapper.chainAt(271, 0), 8191);
        Checks.dueThrow("8192 hot: behind the last pixel", Checks.INDEX, () -> snapper.pixel(8192, 0));
        Checks.dueThrow("8192 hot: behind the last piece", Checks.INDEX, () -> snapper.piece(176 * 89, 0));
        Checks.dueThrow("8192 hot: behind the last place", Checks.INDEX, () -> snapper.chainAt(271, 1));
        snapper.segment(1000, 95, 1000, 95);
        Checks.due("a hot pixel again: snap()", snapper.snap(), 8192);
        snapper.segment(1000, 96, 1000, 96);
        dueRefused("8193 hot", snapper, 274);
    }

    /** Promise 4, the same: crossings are no limit. 200 by 200 lines cross 40000 times, but in 6 pixels. */
    private static void repeatedCrossings() {
        PixelSnapper snapper = new PixelSnapper();
        for (int s = 0; s < 200; s++) {
            snapper.segment(s % 2, -10, s % 2, 10);
            snapper.segment(-10, s % 3, 10, s % 3);
        }
        Checks.due("repeated crossings: snap()", snapper.snap(), 2 * 2 + 3 * 2 + 2 * 3);
        Checks.due("repeated crossings: places", snapper.count(3), 200 * 5 + 200 * 4);
        Checks.due("repeated crossings: pieces", snapper.count(2), 2 * 4 + 3 * 3);
        Checks.due("repeated crossings: uses", snapper.piece(0, 2), 67);
    }

    /** Promise 4, the same: far past the limit. */
    private static void farTooManyCrossings() {
        PixelSnapper snapper = Checks.drawn(Checks.grid(200, 200).toArray(new int[0][]));
        dueRefused("40000 crossings", snapper, 400);
    }

    /**
     * Promise 4: "or more than 65536 places in all chains together"
     * 200 verticals of 32 places, and horizontals on 30 rows, 292 of 202 places and one of 152, make 65536.
     */
    private static void mostPlaces() {
        List<int[]> lines = Checks.grid(200, 30);
        for (int h = 30; h < 292; h++) {
            lines.add(Checks.line(-4, 4 * (h % 30), 800, 4 * (h % 30)));
        }
        lines.add(Checks.line(-4, 0, 4 * 150, 0));
        PixelSnapper snapper = Checks.drawn(lines.toArray(new int[0][]));
        Checks.due("65536 places: snap()", snapper.snap(), 6000 + 460);
        Checks.due("65536 places: count(3)", snapper.count(3), 65536);
        Checks.due("65536 places: last chain", snapper.chain(492), 152);
        Checks.due("65536 places: pieces", snapper.count(2), 200 * 31 + 30 * 201);
        snapper.segment(0, 0, 0, 0);
        dueRefused("65537 places", snapper, 494);
    }

    /** Promise 4: "(none is there then)": of the snap before neither; the segments stay. */
    private static void noneIsThereThen() {
        PixelSnapper snapper = fullOfHot();
        snapper.snap();
        snapper.segment(1000, 96, 1000, 97);
        dueRefused("refused", snapper, 273);
        Checks.due("refused: meets", snapper.meets(272, 1000, 97), true);
        Checks.due("refused: crossing", snapper.crossing(0, 88, 0), 0);
        Checks.dueThrow("refused: last chain", Checks.STATE, () -> snapper.chain(272));
        Checks.due("refused: segment()", snapper.segment(0, 0, 0, 0), 273);
        Checks.due("refused: clear()", snapper.clear(), 274);
        Checks.dueNothingSnapped("refused and cleared", snapper);
        snapper.segment(0, 0, 1, 1);
        Checks.due("behind a refusal: snap()", snapper.snap(), 2);
        Checks.dueChain("behind a refusal", snapper, 0, 0, 1);
        Checks.due("behind a refusal: pieces", snapper.count(2), 1);
    }

    /**
     * Promise 2: "IllegalStateException, when there are 2048"
     * So many need more calls than an object's 512, but the promise names the limit all the same.
     */
    private static void mostSegments() {
        PixelSnapper snapper = new PixelSnapper();
        for (int s = 0; s < 2048; s++) {
            Checks.due("segment " + s, snapper.segment(s, 0, s, 0), s);
        }
        Checks.dueThrow("one more", Checks.STATE, () -> snapper.segment(0, 0, 0, 0));
        Checks.due("2048: snap()", snapper.snap(), 2048);
        Checks.dueThrow("one more, snapped", Checks.STATE, () -> snapper.segment(0, 0, 0, 0));
        Checks.due("refused: count(4)", snapper.count(4), 1);
        Checks.due("last chain", snapper.chainAt(2047, 0), 2047);
        Checks.dueThrow("2048: chain behind the last", Checks.INDEX, () -> snapper.chain(2048));
        Checks.due("2048: clear()", snapper.clear(), 2048);
        Checks.due("room again", snapper.segment(0, 0, 0, 0), 0);
    }

    /** Promise 2, and "Of several exceptions the first one listed is thrown". */
    private static void mostSegmentsFirstListed() {
        PixelSnapper snapper = new PixelSnapper();
        for (int s = 0; s < 2048; s++) {
            snapper.segment(0, 0, 0, 0);
        }
        Checks.dueThrow("full", Checks.STATE, () -> snapper.segment(500000000, 0, 0, -500000000));
        Checks.dueThrow("full, x", Checks.ARGUMENT, () -> snapper.segment(-500000001, 0, 0, 0));
        Checks.dueThrow("full, toY", Checks.ARGUMENT, () -> snapper.segment(0, 0, 0, 500000001));
    }
}
