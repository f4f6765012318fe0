import java.util.ArrayList;
import java.util.Arrays;

/**
 * Segments of a drawing, bent so that all their corners and crossings lie on whole numbers, and
 * nothing crosses anything but at these: each segment becomes a chain of pieces from one hot pixel
 * to the next.
 */
public final class PixelSnapper {
    public static final int NONE = -1;

    private static final int REACH = 500000000;
    private static final int MOST_SEGMENTS = 2048;
    private static final int MOST_HOT = 8192;
    private static final int MOST_PLACES = 65536;

    // A pixel's key is its x and y, both counted from -REACH, in one number that sorts by x, then y.
    private static final int Y_BITS = 30;
    private static final long Y_MASK = (1L << Y_BITS) - 1;

    // A piece's key is its lower and its higher pixel in one number that sorts by these.
    private static final int PIXEL_BITS = 13;
    private static final long PIXEL_MASK = (1L << PIXEL_BITS) - 1;

    // No way from one end to another is longer than 2 * REACH, which needs 30 bits.
    private static final long TOP_BIT = 1L << 29;

    private final ArrayList<Segment> segments;
    private final Row hot;
    private final Row chainStarts;
    private final Row places;
    private final Row pieceKeys;
    private final Row pieceUses;
    private boolean snapped;

    public PixelSnapper() {
        segments = new ArrayList<>();
        // Twice the limit, as crossings in pixels that are hot already wait there to be merged.
        hot = new Row(2 * MOST_HOT);
        chainStarts = new Row(MOST_SEGMENTS + 1);
        places = new Row(MOST_PLACES);
        pieceKeys = new Row(MOST_PLACES);
        pieceUses = new Row(MOST_PLACES);
        snapped = false;
    }

    public int segment(int x, int y, int toX, int toY) throws IllegalArgumentException, IllegalStateException {
        if (!inReach(x) || !inReach(y) || !inReach(toX) || !inReach(toY)) {
            throw new IllegalArgumentException("an end lies out of reach");
        }
        if (segments.size() >= MOST_SEGMENTS) {
            throw new IllegalStateException("there are as many segments as may be");
        }
        segments.add(new Segment(x, y, toX, toY));
        forgetSnap();
        return segments.size() - 1;
    }

    public int clear() {
        int before = segments.size();
        segments.clear();
        forgetSnap();
        return before;
    }

    public int snap() throws UnsupportedOperationException {
        if (!snapped) {
            snapped = findHot() && findChains();
            if (!snapped) {
                forgetSnap();
                throw new UnsupportedOperationException("more hot pixels or places in chains than may be");
            }
            findPieces();
        }
        return hot.size();
    }

    public boolean meets(int segment, int x, int y) throws IndexOutOfBoundsException, IllegalArgumentException {
        if (!hasSegment(segment)) {
            throw new IndexOutOfBoundsException("no such segment");
        }
        if (!inReach(x) || !inReach(y)) {
            throw new IllegalArgumentException("the pixel lies out of reach");
        }
        return segments.get(segment).enters(x, y);
    }

    public int crossing(int segment, int other, int what) throws IndexOutOfBoundsException, IllegalStateException {
        if (!hasSegment(segment) || !hasSegment(other) || !isXOrY(what)) {
            throw new IndexOutOfBoundsException("no such segment or what");
        }
        Segment one = segments.get(segment);
        Segment two = segments.get(other);
        if (!one.crosses(two)) {
            throw new IllegalStateException("the segments do not cross");
        }
        return keyPart(one.crossingKey(two), what);
    }

    public int pixel(int pixel, int what) throws IndexOutOfBoundsException {
        if (!hot.has(pixel) || !isXOrY(what)) {
            throw new IndexOutOfBoundsException("no such pixel or what");
        }
        return keyPart(hot.at(pixel), what);
    }

    public int chain(int segment) throws IndexOutOfBoundsException, IllegalStateException {
        if (!hasSegment(segment)) {
            throw new IndexOutOfBoundsException("no such segment");
        }
        if (!snapped) {
            throw new IllegalStateException("there are no chains");
        }
        return chainStart(segment + 1) - chainStart(segment);
    }

    public int chainAt(int segment, int k) throws IndexOutOfBoundsException, IllegalStateException {
        if (!hasSegment(segment)) {
            throw new IndexOutOfBoundsException("no such segment");
        }
        // Without chains no pixel of a chain is asked for, so k is looked at last.
        if (!snapped) {
            throw new IllegalStateException("there are no chains");
        }
        int start = chainStart(segment);
        if (k < 0 || k >= chainStart(segment + 1) - start) {
            throw new IndexOutOfBoundsException("no such pixel in the chain");
        }
        return (int) places.at(start + k);
    }

    public int piece(int piece, int what) throws IndexOutOfBoundsException {
        if (!pieceKeys.has(piece) || what < 0 || what > 2) {
            throw new IndexOutOfBoundsException("no such piece or what");
        }
        if (what == 2) {
            return (int) pieceUses.at(piece);
        }
        long key = pieceKeys.at(piece);
        return (int) (what == 0 ? key >> PIXEL_BITS : key & PIXEL_MASK);
    }

    public int count(int what) {
        switch (what) {
            case 0:
                return segments.size();
            case 1:
                return hot.size();
            case 2:
                return pieceKeys.size();
            case 3:
                return places.size();
            case 4:
                return snapped ? 1 : 0;
            default:
                return NONE;
        }
    }

    private static boolean inReach(int coordinate) {
        return coordinate >= -REACH && coordinate <= REACH;
    }

    private static boolean isXOrY(int what) {
        return what == 0 || what == 1;
    }

    private static long keyOf(long x, long y) {
        return ((x + REACH) << Y_BITS) | (y + REACH);
    }

    private static long keyX(long key) {
        return (key >> Y_BITS) - REACH;
    }

    private static long keyY(long key) {
        return (key & Y_MASK) - REACH;
    }

    private static int keyPart(long key, int what) {
        return (int) (what == 0 ? keyX(key) : keyY(key));
    }

    private boolean hasSegment(int segment) {
        return segment >= 0 && segment < segments.size();
    }

    private int chainStart(int segment) {
        return (int) chainStarts.at(segment);
    }

    private void forgetSnap() {
        snapped = false;
        hot.drop();
        chainStarts.drop();
        places.drop();
        pieceKeys.drop();
        pieceUses.drop();
    }

    /** False when more pixels are hot than may be. */
    private boolean findHot() {
        for (int s = 0; s < segments.size(); s++) {
            Segment segment = segments.get(s);
            if (!heat(segment.fromKey()) || !heat(segment.toKey()) || !heatCrossings(segment, s)) {
                return false;
            }
        }
        return mergeHot();
    }

    private boolean heatCrossings(Segment segment, int others) {
        for (int s = 0; s < others && s < segments.size(); s++) {
            Segment other = segments.get(s);
            if (segment.crosses(other) && !heat(segment.crossingKey(other))) {
                return false;
            }
        }
        return true;
    }

    private boolean heat(long key) {
        if (hot.isFull() && !mergeHot()) {
            return false;
        }
        return hot.add(key);
    }

    private boolean mergeHot() {
        hot.sort();
        hot.keepDistinct();
        return hot.size() <= MOST_HOT;
    }

    /** False when the chains have more places than may be. */
    private boolean findChains() {
        for (int s = 0; s < segments.size(); s++) {
            int start = places.size();
            chainStarts.add(start);
            if (!addPlaces(segments.get(s))) {
                return false;
            }
            orderPlaces(segments.get(s), start);
        }
        chainStarts.add(places.size());
        return true;
    }

    private boolean addPlaces(Segment segment) {
        int end = hot.firstFrom(segment.mostKey() + 1);
        for (int h = hot.firstFrom(segment.leastKey()); h < end; h++) {
            long key = hot.at(h);
            if (segment.enters(keyX(key), keyY(key)) && !places.add(h)) {
                return false;
            }
        }
        return true;
    }

    /**
     * A segment never turns back in x or in y, so the way along it is told by its columns and, in each
     * of these, by y; the places come here by rising x, then rising y.
     */
    private void orderPlaces(Segment segment, int start) {
        if (segment.goesLeft()) {
            places.turnRound(start, places.size());
        }
        if (segment.goesLeft() != segment.goesDown()) {
            turnColumnsRound(start);
        }
    }

    private void turnColumnsRound(int start) {
        int from = start;
        for (int k = start + 1; k <= places.size(); k++) {
            if (k == places.size() || placeX(k) != placeX(from)) {
                places.turnRound(from, k);
                from = k;
            }
        }
    }

    private long placeX(int k) {
        return keyX(hot.at((int) places.at(k)));
    }

    private void findPieces() {
        for (int s = 0; s < segments.size(); s++) {
            for (int k = chainStart(s) + 1; k < chainStart(s + 1); k++) {
                long one = places.at(k - 1);
                long other = places.at(k);
                pieceKeys.add((Math.min(one, other) << PIXEL_BITS) | Math.max(one, other));
            }
        }
        pieceKeys.sort();
        pieceKeys.countEqual(pieceUses);
        pieceKeys.keepDistinct();
    }

    /** A segment with its geometry, which is exact: no number in it passes 64 bits. */
    private static final class Segment {
        private final long fromX;
        private final long fromY;
        private final long toX;
        private final long toY;
        private final long wayX;
        private final long wayY;
        private final long leastX;
        private final long leastY;
        private final long mostX;
        private final long mostY;

        Segment(int x, int y, int endX, int endY) {
            fromX = x;
            fromY = y;
            toX = endX;
            toY = endY;
            wayX = toX - fromX;
            wayY = toY - fromY;
            leastX = Math.min(fromX, toX);
            leastY = Math.min(fromY, toY);
            mostX = Math.max(fromX, toX);
            mostY = Math.max(fromY, toY);
        }

        long fromKey() {
            return keyOf(fromX, fromY);
        }

        long toKey() {
            return keyOf(toX, toY);
        }

        /** No pixel that the segment meets has a lower key. */
        long leastKey() {
            return keyOf(leastX, leastY);
        }

        /** No pixel that the segment meets has a higher key. */
        long mostKey() {
            return keyOf(mostX, mostY);
        }

        boolean goesLeft() {
            return wayX < 0;
        }

        boolean goesDown() {
            return wayY < 0;
        }

        /**
         * The stretches of the segment's line that lie in the pixel's column, in its row, and between the
         * ends have a place in common when each two of them have.
         */
        boolean enters(long x, long y) {
            return x >= leastX && x <= mostX && y >= leastY && y <= mostY && lineEnters(x, y);
        }

        /**
         * The line is where sideOf is 0. Over the pixel twice the side (which keeps its halves whole) begins
         * at the lowest corner, and changes by acrossX up to the right bound and by acrossY up to the upper
         * one, neither of which is in the pixel.
         */
        private boolean lineEnters(long x, long y) {
            long acrossX = -2 * wayY;
            long acrossY = 2 * wayX;
            long corner = wayX * (2 * (y - fromY) - 1) - wayY * (2 * (x - fromX) - 1);
            long least = corner + Math.min(acrossX, 0L) + Math.min(acrossY, 0L);
            long most = corner + Math.max(acrossX, 0L) + Math.max(acrossY, 0L);
            boolean leastIsInPixel = acrossX >= 0 && acrossY >= 0;
            boolean mostIsInPixel = acrossX <= 0 && acrossY <= 0;
            return (least < 0 || (least == 0 && leastIsInPixel))
                    && (most > 0 || (most == 0 && mostIsInPixel));
        }

        /** Above 0 on the left of the way along the segment, below 0 on its right, 0 on its line. */
        private long sideOf(long x, long y) {
            return wayX * (y - fromY) - wayY * (x - fromX);
        }

        boolean crosses(Segment other) {
            return parts(other) && other.parts(this);
        }

        /** Whether the segment's line has the ends of the other one on its two sides. */
        private boolean parts(Segment other) {
            long one = sideOf(other.fromX, other.fromY);
            if (one == 0) {
                return false;
            }
            long two = sideOf(other.toX, other.toY);
            return one < 0 ? two > 0 : two < 0;
        }

        /** The key of the pixel where two segments cross, which they have to. */
        long crossingKey(Segment other) {
            long before = Math.abs(other.sideOf(fromX, fromY));
            long whole = before + Math.abs(other.sideOf(toX, toY));
            return keyOf(fromX + roundedPart(wayX, before, whole), fromY + roundedPart(wayY, before, whole));
        }

        /**
         * The whole number whose pixel has way * share / whole. The product would pass 64 bits, so it is
         * built and divided bit by bit of the way: what is left stays below the whole, at most 2 * 10^18.
         */
        private static long roundedPart(long way, long share, long whole) {
            long length = Math.abs(way);
            long part = 0;
            long left = 0;
            for (long bit = TOP_BIT; bit > 0; bit >>= 1) {
                part = 2 * part;
                left = 2 * left + ((length & bit) != 0 ? share : 0L);
                if (left >= whole) {
                    left -= whole;
                    part++;
                }
                if (left >= whole) {
                    left -= whole;
                    part++;
                }
            }
            // A half goes up, which on a way down is towards where it began.
            if (way < 0) {
                return -(2 * left > whole ? part + 1 : part);
            }
            return 2 * left >= whole ? part + 1 : part;
        }
    }

    /** Numbers in a row that grows as it is filled, up to its most, and is used again when dropped. */
    private static final class Row {
        private static final int FIRST_LENGTH = 16;

        private final int most;
        private long[] cells;
        private int size;

        Row(int most) {
            this.most = most;
            cells = new long[FIRST_LENGTH];
            size = 0;
        }

        int size() {
            return size;
        }

        boolean has(int index) {
            return index >= 0 && index < size;
        }

        boolean isFull() {
            return size >= most;
        }

        /** A number that is not there is NONE, so that no index ever reaches the machine untested. */
        long at(int index) {
            return has(index) ? cells[index] : NONE;
        }

        void drop() {
            size = 0;
        }

        /** False when the row is full. */
        boolean add(long number) {
            if (isFull()) {
                return false;
            }
            if (size >= cells.length) {
                cells = Arrays.copyOf(cells, Math.min(most, 2 * cells.length));
            }
            cells[size] = number;
            size++;
            return true;
        }

        /** In a sorted row, the index of the first number that is not below the limit. */
        int firstFrom(long limit) {
            int low = 0;
            int high = size;
            while (low < high) {
                int middle = (low + high) / 2;
                if (cells[middle] < limit) {
                    low = middle + 1;
                } else {
                    high = middle;
                }
            }
            return low;
        }

        void turnRound(int from, int end) {
            int low = from;
            int high = end - 1;
            while (low < high && has(low) && has(high)) {
                long kept = cells[low];
                cells[low] = cells[high];
                cells[high] = kept;
                low++;
                high--;
            }
        }

        /** A heap sort, as it needs no second row. */
        void sort() {
            for (int root = size / 2 - 1; root >= 0; root--) {
                sink(cells[root], root, size);
            }
            for (int end = size - 1; end > 0; end--) {
                long last = cells[end];
                cells[end] = cells[0];
                sink(last, 0, end);
            }
        }

        private void sink(long number, int root, int end) {
            int hole = root;
            while (2 * hole + 1 < end) {
                int child = 2 * hole + 1;
                if (child + 1 < end && cells[child + 1] > cells[child]) {
                    child++;
                }
                if (cells[child] <= number) {
                    break;
                }
                cells[hole] = cells[child];
                hole = child;
            }
            cells[hole] = number;
        }

        /** Of a sorted row, to the other row: how often each number is in it. */
        void countEqual(Row counts) {
            int from = 0;
            for (int k = 1; k <= size; k++) {
                if (k == size || cells[k] != cells[from]) {
                    counts.add(k - from);
                    from = k;
                }
            }
        }

        /** Leaves of each number of a sorted row one. */
        void keepDistinct() {
            int kept = 0;
            for (int k = 0; k < size; k++) {
                if (kept == 0 || cells[k] != cells[kept - 1]) {
                    cells[kept] = cells[k];
                    kept++;
                }
            }
            size = kept;
        }
    }
}
