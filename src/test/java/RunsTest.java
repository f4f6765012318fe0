import java.util.ArrayList;
import java.util.List;
import java.util.Random;
import java.util.function.Supplier;

/**
 * Runs of 512 calls by chance (of fixed seeds), right and wrong ones: each answer is that of a new object that
 * has the same segments, and the same snap() if it is not forgotten. So no call leaves anything behind.
 */
public final class RunsTest {
    private static final int FAR = 500000000;
    private static final int[] ODD = {-1, 0, 1, 2, 3, 2048, FAR, -FAR, FAR + 1, -FAR - 1, Integer.MAX_VALUE,
            Integer.MIN_VALUE};

    private static final List<?> DOCUMENTED = List.of(Checks.INDEX, Checks.ARGUMENT, Checks.STATE,
            Checks.UNSUPPORTED);

    private final Random random;
    private final PixelSnapper used = new PixelSnapper();
    private final List<int[]> lines = new ArrayList<>();
    private boolean snapped = false;

    private RunsTest(long seed) {
        random = new Random(seed);
    }

    public static void main(String[] args) {
        for (int seed = 0; seed < 60; seed++) {
            RunsTest run = new RunsTest(seed);
            for (int call = 0; call < 512; call++) {
                run.oneCall("run " + seed + ", call " + call);
            }
        }
        Checks.end();
    }

    private void oneCall(String name) {
        int kind = random.nextInt(24);
        if (kind < 4) {
            draw(name);
        } else if (kind < 7) {
            dueSame(name + ": snap()", PixelSnapper::snap);
            snapped = true;
        } else if (kind == 7 && random.nextInt(4) == 0) {
            dueSame(name + ": clear()", PixelSnapper::clear);
            lines.clear();
            snapped = false;
        } else {
            ask(name, kind);
        }
    }

    private void draw(String name) {
        int[] line = new int[4];
        boolean taken = true;
        for (int c = 0; c < 4; c++) {
            line[c] = random.nextInt(60) == 0 ? odd() : random.nextInt(13) - 6;
            taken &= line[c] >= -FAR && line[c] <= FAR;
        }
        dueSame(name + ": segment()", snapper -> snapper.segment(line[0], line[1], line[2], line[3]));
        if (taken) {
            lines.add(line);
            snapped = false;
        }
    }

    private void ask(String name, int kind) {
        int segment = some(lines.size());
        int other = some(lines.size());
        int what = some(3);
        int number = some(40);
        switch (kind % 7) {
            case 0: dueSame(name + ": meets()", s -> s.meets(segment, number / 3 - 6, other - 6) ? 1 : 0); break;
            case 1: dueSame(name + ": crossing()", s -> s.crossing(segment, other, what)); break;
            case 2: dueSame(name + ": pixel()", s -> s.pixel(number, what)); break;
            case 3: dueSame(name + ": chain()", s -> s.chain(segment)); break;
            case 4: dueSame(name + ": chainAt()", s -> s.chainAt(segment, number / 4)); break;
            case 5: dueSame(name + ": count()", s -> s.count(number / 6)); break;
            default: dueSame(name + ": piece()", s -> s.piece(number, what)); break;
        }
    }

    private int some(int bound) {
        return bound == 0 || random.nextInt(15) == 0 ? odd() : random.nextInt(bound);
    }

    private int odd() {
        return ODD[random.nextInt(ODD.length)];
    }

    private interface Call {
        int on(PixelSnapper snapper);
    }

    private void dueSame(String name, Call call) {
        PixelSnapper fresh = Checks.drawn(lines.toArray(new int[0][]));
        if (snapped) {
            fresh.snap();
        }
        String got = told(() -> call.on(used));
        String want = told(() -> call.on(fresh));
        Checks.due(name + " answered " + got + ", a new object answers " + want, got.equals(want), true);
    }

    private static String told(Supplier<Integer> call) {
        try {
            return String.valueOf(call.get());
        } catch (RuntimeException thrown) {
            Checks.due("the document's: " + thrown, DOCUMENTED.contains(thrown.getClass()), true);
            return thrown.getClass().getName();
        }
    }
}
