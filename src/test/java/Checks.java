import java.util.ArrayList;
import java.util.List;

/** What the tests share: checks that print what is not as due, and drawings snapped within 512 calls. */
final class Checks {
    static final Class<? extends RuntimeException> INDEX = IndexOutOfBoundsException.class;
    static final Class<? extends RuntimeException> ARGUMENT = IllegalArgumentException.class;
    static final Class<? extends RuntimeException> STATE = IllegalStateException.class;
    static final Class<? extends RuntimeException> UNSUPPORTED = UnsupportedOperationException.class;

    private static int made = 0;
    private static int wrong = 0;

    private Checks() {
    }

    static void due(String call, long got, long want) {
        made++;
        if (got != want) {
            tell(call + " answered " + got + ", due is " + want);
        }
    }

    static void due(String call, boolean got, boolean want) {
        due(call, got ? 1 : 0, want ? 1 : 0);
    }

    /** The class itself is due, not one below it: the machine's exceptions are below the document's. */
    static void dueThrow(String call, Class<? extends RuntimeException> want, Runnable run) {
        made++;
        try {
            run.run();
            tell(call + " threw nothing, due is " + want.getSimpleName());
        } catch (RuntimeException thrown) {
            if (thrown.getClass() != want) {
                tell(call + " threw " + thrown.getClass().getSimpleName() + ", due is " + want.getSimpleName());
            }
        }
    }

    static void tell(String what) {
        wrong++;
        if (wrong <= 50) {
            System.out.println(what);
        }
    }

    static void end() {
        System.out.println(made + " checks, " + wrong + " wrong");
        if (wrong != 0 || made == 0) {
            System.exit(1);
        }
    }

    static PixelSnapper drawn(int[]... segments) {
        PixelSnapper snapper = new PixelSnapper();
        draw(snapper, segments);
        return snapper;
    }

    static void draw(PixelSnapper snapper, int[]... segments) {
        for (int[] s : segments) {
            snapper.segment(s[0], s[1], s[2], s[3]);
        }
    }

    static PixelSnapper snapped(int[]... segments) {
        PixelSnapper snapper = drawn(segments);
        snapper.snap();
        return snapper;
    }

    static int[] line(int x, int y, int toX, int toY) {
        return new int[] {x, y, toX, toY};
    }

    static int[] point(int x, int y) {
        return line(x, y, x, y);
    }

    static void dueChain(String name, PixelSnapper snapper, int segment, int... want) {
        due(name + ": chain(" + segment + ")", snapper.chain(segment), want.length);
        for (int k = 0; k < want.length && k < snapper.chain(segment); k++) {
            due(name + ": chainAt(" + segment + ", " + k + ")", snapper.chainAt(segment, k), want[k]);
        }
    }

    static void dueNothingSnapped(String name, PixelSnapper snapper) {
        for (int what = 1; what <= 4; what++) {
            due(name + ": count(" + what + ")", snapper.count(what), 0);
        }
        dueThrow(name + ": pixel(0, 0)", INDEX, () -> snapper.pixel(0, 0));
        dueThrow(name + ": piece(0, 0)", INDEX, () -> snapper.piece(0, 0));
        if (snapper.count(0) > 0) {
            dueThrow(name + ": chain(0)", STATE, () -> snapper.chain(0));
            dueThrow(name + ": chainAt(0, 0)", STATE, () -> snapper.chainAt(0, 0));
        } else {
            dueThrow(name + ": chain(0)", INDEX, () -> snapper.chain(0));
            dueThrow(name + ": chainAt(0, 0)", INDEX, () -> snapper.chainAt(0, 0));
        }
    }

    /** Verticals crossed by horizontals, 4 apart; the ends stand off, so that each line has its two more. */
    static List<int[]> grid(int verticals, int horizontals) {
        List<int[]> lines = new ArrayList<>();
        for (int v = 0; v < verticals; v++) {
            lines.add(line(4 * v, -4, 4 * v, 4 * horizontals));
        }
        for (int h = 0; h < horizontals; h++) {
            lines.add(line(-4, 4 * h, 4 * verticals, 4 * h));
        }
        return lines;
    }

    /** Hands out a snapped object, and a new one before the old one has had its 512 calls. */
    static final class Asked {
        private final int[][] lines;
        private PixelSnapper snapper;
        private int calls;

        Asked(int[][] lines) {
            this.lines = lines;
            renew();
        }

        private void renew() {
            snapper = snapped(lines);
            calls = lines.length + 1;
        }

        PixelSnapper next() {
            if (calls >= 512) {
                renew();
            }
            calls++;
            return snapper;
        }
    }
}
