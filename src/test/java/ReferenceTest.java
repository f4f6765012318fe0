import java.math.BigInteger;
import java.util.ArrayList;
import java.util.List;
import java.util.Random;
import java.util.TreeMap;

/** Drawings by chance (of fixed seeds) against a slow reference that works with fractions of any size. */
public final class ReferenceTest {
    private static final int FAR = 500000000;

    public static void main(String[] args) {
        Random random = new Random(20261115);
        for (int round = 0; round < 1500; round++) {
            compare("small " + round, drawing(random, 1 + random.nextInt(9), 1 + random.nextInt(6), 0), true);
        }
        for (int round = 0; round < 200; round++) {
            compare("wide " + round, drawing(random, 1 + random.nextInt(14), 40, 0), true);
            compare("far " + round, drawing(random, 1 + random.nextInt(14), FAR, 0), false);
            compare("at the edge " + round, drawing(random, 1 + random.nextInt(9), 5, FAR - 5), true);
            compare("long " + round, longLines(random, 2 + random.nextInt(12)), false);
        }
        for (int round = 0; round < 4; round++) {
            compare("many " + round, drawing(random, 60, 30 + 100 * round, 0), false);
        }
        Checks.end();
    }

    private static int[][] drawing(Random random, int size, int reach, int middle) {
        int[][] lines = new int[size][];
        int sign = random.nextBoolean() ? 1 : -1;
        for (int s = 0; s < size; s++) {
            int[] line = new int[4];
            for (int c = 0; c < 4; c++) {
                line[c] = sign * middle + random.nextInt(2 * reach + 1) - reach;
            }
            lines[s] = line;
        }
        return lines;
    }

    /** From edge to edge with a small difference, so that crossings lie near halves and near each other. */
    private static int[][] longLines(Random random, int size) {
        int[][] lines = new int[size][];
        for (int s = 0; s < size; s++) {
            int a = random.nextInt(7) - 3;
            int b = random.nextInt(7) - 3;
            switch (random.nextInt(5)) {
                case 0: lines[s] = Checks.line(-FAR, a, FAR, b); break;
                case 1: lines[s] = Checks.line(a, FAR, b, -FAR); break;
                case 2: lines[s] = Checks.line(-FAR, -FAR + 3 + a, FAR, FAR - 3 + b); break;
                case 3: lines[s] = Checks.line(FAR - 3 + a, -FAR, -FAR + 3 + b, FAR); break;
                default: lines[s] = Checks.line(a, b, random.nextInt(7) - 3, random.nextInt(7) - 3); break;
            }
        }
        return lines;
    }

    private static void compare(String name, int[][] lines, boolean eachPixel) {
        Checks.Asked asked = new Checks.Asked(lines);
        List<long[]> hot = hotPixels(lines);
        Checks.due(name + ": count(0)", asked.next().count(0), lines.length);
        Checks.due(name + ": count(1)", asked.next().count(1), hot.size());
        for (int p = 0; p < hot.size() && p < asked.next().count(1); p++) {
            Checks.due(name + ": x of " + p, asked.next().pixel(p, 0), hot.get(p)[0]);
            Checks.due(name + ": y of " + p, asked.next().pixel(p, 1), hot.get(p)[1]);
        }
        compareChains(name, lines, hot, asked);
        compareCrossings(name, lines, asked);
        if (eachPixel) {
            compareMeets(name, lines, asked);
        }
    }

    private static void compareChains(String name, int[][] lines, List<long[]> hot, Checks.Asked asked) {
        TreeMap<Long, Integer> pieces = new TreeMap<>();
        int places = 0;
        for (int s = 0; s < lines.length; s++) {
            List<Integer> chain = chainOf(lines[s], hot);
            places += chain.size();
            Checks.due(name + ": chain(" + s + ")", asked.next().chain(s), chain.size());
            for (int k = 0; k < chain.size() && k < asked.next().chain(s); k++) {
                Checks.due(name + ": chainAt(" + s + ", " + k + ")", asked.next().chainAt(s, k), chain.get(k));
            }
            for (int k = 1; k < chain.size(); k++) {
                long low = Math.min(chain.get(k - 1), chain.get(k));
                long high = Math.max(chain.get(k - 1), chain.get(k));
                pieces.merge(low * 1000000 + high, 1, Integer::sum);
            }
        }
        Checks.due(name + ": count(2)", asked.next().count(2), pieces.size());
        Checks.due(name + ": count(3)", asked.next().count(3), places);
        int piece = 0;
        for (long key : pieces.keySet()) {
            if (piece >= asked.next().count(2)) {
                break;
            }
            Checks.due(name + ": piece(" + piece + ", 0)", asked.next().piece(piece, 0), key / 1000000);
            Checks.due(name + ": piece(" + piece + ", 1)", asked.next().piece(piece, 1), key % 1000000);
            Checks.due(name + ": piece(" + piece + ", 2)", asked.next().piece(piece, 2), pieces.get(key));
            piece++;
        }
    }

    private static void compareCrossings(String name, int[][] lines, Checks.Asked asked) {
        for (int s = 0; s < lines.length; s++) {
            for (int other = 0; other < lines.length; other++) {
                String call = name + ": crossing(" + s + ", " + other + ")";
                long[] want = crossingOf(lines[s], lines[other]);
                PixelSnapper snapper = asked.next();
                PixelSnapper again = asked.next();
                int one = s;
                int two = other;
                if (want == null) {
                    Checks.dueThrow(call, Checks.STATE, () -> snapper.crossing(one, two, 0));
                    Checks.dueThrow(call, Checks.STATE, () -> again.crossing(one, two, 1));
                } else {
                    Checks.due(call, snapper.crossing(one, two, 0), want[0]);
                    Checks.due(call, again.crossing(one, two, 1), want[1]);
                }
            }
        }
    }

    private static void compareMeets(String name, int[][] lines, Checks.Asked asked) {
        for (int s = 0; s < Math.min(lines.length, 2); s++) {
            int[] line = lines[s];
            for (int x = Math.min(line[0], line[2]) - 1; x <= Math.max(line[0], line[2]) + 1; x++) {
                for (int y = Math.min(line[1], line[3]) - 1; y <= Math.max(line[1], line[3]) + 1; y++) {
                    if (Math.abs(x) <= FAR && Math.abs(y) <= FAR) {
                        Checks.due(name + ": meets(" + s + ", " + x + ", " + y + ")", asked.next().meets(s, x, y),
                                Stretch.of(line, x, y) != null);
                    }
                }
            }
        }
    }

    private static List<long[]> hotPixels(int[][] lines) {
        TreeMap<Long, TreeMap<Long, Boolean>> byX = new TreeMap<>();
        for (int s = 0; s < lines.length; s++) {
            put(byX, lines[s][0], lines[s][1]);
            put(byX, lines[s][2], lines[s][3]);
            for (int other = 0; other < s; other++) {
                long[] pixel = crossingOf(lines[s], lines[other]);
                if (pixel != null) {
                    put(byX, pixel[0], pixel[1]);
                }
            }
        }
        List<long[]> hot = new ArrayList<>();
        byX.forEach((x, ys) -> ys.forEach((y, there) -> hot.add(new long[] {x, y})));
        return hot;
    }

    private static void put(TreeMap<Long, TreeMap<Long, Boolean>> byX, long x, long y) {
        byX.computeIfAbsent(x, key -> new TreeMap<>()).put(y, true);
    }

    /** The chain by where the stretches in the pixels lie on the way, not by columns and rows. */
    private static List<Integer> chainOf(int[] line, List<long[]> hot) {
        List<Stretch> stretches = new ArrayList<>();
        for (int p = 0; p < hot.size(); p++) {
            Stretch stretch = Stretch.of(line, hot.get(p)[0], hot.get(p)[1]);
            if (stretch != null) {
                stretch.pixel = p;
                stretches.add(stretch);
            }
        }
        stretches.sort((a, b) -> a.from.add(a.to).compareTo(b.from.add(b.to)));
        List<Integer> chain = new ArrayList<>();
        for (Stretch stretch : stretches) {
            chain.add(stretch.pixel);
        }
        return chain;
    }

    /** The pixel of the place where two lines cross, by Cramer's rule, or null. */
    private static long[] crossingOf(int[] a, int[] b) {
        BigInteger ax = big((long) a[2] - a[0]);
        BigInteger ay = big((long) a[3] - a[1]);
        BigInteger bx = big((long) b[2] - b[0]);
        BigInteger by = big((long) b[3] - b[1]);
        BigInteger px = big((long) b[0] - a[0]);
        BigInteger py = big((long) b[1] - a[1]);
        BigInteger whole = ax.multiply(by).subtract(ay.multiply(bx));
        if (whole.signum() == 0) {
            return null;
        }
        Fraction t = new Fraction(px.multiply(by).subtract(py.multiply(bx)), whole);
        Fraction u = new Fraction(px.multiply(ay).subtract(py.multiply(ax)), whole);
        if (!t.isInside() || !u.isInside()) {
            return null;
        }
        return new long[] {pixelOf(a[0], ax, t), pixelOf(a[1], ay, t)};
    }

    private static long pixelOf(long from, BigInteger way, Fraction t) {
        return new Fraction(big(from), BigInteger.ONE).add(new Fraction(way, BigInteger.ONE).times(t))
                .add(new Fraction(BigInteger.ONE, big(2))).floor();
    }

    private static BigInteger big(long number) {
        return BigInteger.valueOf(number);
    }

    /** The part of a line, from 0 at its first end to 1 at its second one, that is in a pixel. */
    private static final class Stretch {
        private Fraction from = new Fraction(BigInteger.ZERO, BigInteger.ONE);
        private Fraction to = new Fraction(BigInteger.ONE, BigInteger.ONE);
        private boolean fromIsIn = true;
        private boolean toIsIn = true;
        private int pixel;

        static Stretch of(int[] line, long x, long y) {
            Stretch stretch = new Stretch();
            boolean met = stretch.cut(line[0], line[2], x) && stretch.cut(line[1], line[3], y);
            int order = stretch.from.compareTo(stretch.to);
            return met && (order < 0 || (order == 0 && stretch.fromIsIn && stretch.toIsIn)) ? stretch : null;
        }

        private boolean cut(long start, long end, long pixel) {
            if (start == end) {
                return start == pixel;
            }
            Fraction near = new Fraction(big(2 * (pixel - start) - 1), big(2 * (end - start)));
            Fraction far = new Fraction(big(2 * (pixel - start) + 1), big(2 * (end - start)));
            if (start < end) {
                cutFrom(near, true);
                cutTo(far, false);
            } else {
                cutFrom(far, false);
                cutTo(near, true);
            }
            return true;
        }

        private void cutFrom(Fraction at, boolean isIn) {
            int order = at.compareTo(from);
            if (order > 0) {
                from = at;
                fromIsIn = isIn;
            } else if (order == 0) {
                fromIsIn &= isIn;
            }
        }

        private void cutTo(Fraction at, boolean isIn) {
            int order = at.compareTo(to);
            if (order < 0) {
                to = at;
                toIsIn = isIn;
            } else if (order == 0) {
                toIsIn &= isIn;
            }
        }
    }

    private static final class Fraction implements Comparable<Fraction> {
        private final BigInteger over;
        private final BigInteger under;

        Fraction(BigInteger over, BigInteger under) {
            this.over = under.signum() < 0 ? over.negate() : over;
            this.under = under.abs();
        }

        Fraction add(Fraction other) {
            return new Fraction(over.multiply(other.under).add(other.over.multiply(under)), under.multiply(other.under));
        }

        Fraction times(Fraction other) {
            return new Fraction(over.multiply(other.over), under.multiply(other.under));
        }

        boolean isInside() {
            return over.signum() > 0 && over.compareTo(under) < 0;
        }

        long floor() {
            BigInteger[] parts = over.divideAndRemainder(under);
            return (parts[1].signum() < 0 ? parts[0].subtract(BigInteger.ONE) : parts[0]).longValueExact();
        }

        @Override
        public int compareTo(Fraction other) {
            return over.multiply(other.under).compareTo(other.over.multiply(under));
        }
    }
}
