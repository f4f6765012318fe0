import java.util.Random;

/**
 * The document's first line, of the whole drawing: "all their corners and crossings lie on whole numbers, and
 * nothing crosses anything but at these: each segment becomes a chain of pieces from one hot pixel to the next."
 */
public final class DrawingTest {
    private static final int FAR = 500000000;

    private final String name;
    private final int[][] lines;
    private final Checks.Asked asked;
    private final int[][] pixels;
    private final int[][] pieces;

    private DrawingTest(String name, int[][] lines) {
        this.name = name;
        this.lines = lines;
        asked = new Checks.Asked(lines);
        pixels = new int[asked.next().count(1)][2];
        pieces = new int[asked.next().count(2)][3];
        for (int p = 0; p < pixels.length; p++) {
            pixels[p] = new int[] {asked.next().pixel(p, 0), asked.next().pixel(p, 1)};
        }
        for (int p = 0; p < pieces.length; p++) {
            pieces[p] = new int[] {asked.next().piece(p, 0), asked.next().piece(p, 1), asked.next().piece(p, 2)};
        }
    }

    public static void main(String[] args) {
        Random random = new Random(20261116);
        for (int round = 0; round < 400; round++) {
            check("close " + round, drawing(random, 2 + random.nextInt(12), 3 + random.nextInt(5), 0));
            check("wide " + round, drawing(random, 2 + random.nextInt(16), 25, 0));
            check("edge " + round, drawing(random, 2 + random.nextInt(12), 4, FAR - 4));
            check("far " + round, drawing(random, 2 + random.nextInt(8), FAR, 0));
            check("fan " + round, fan(random, 3 + random.nextInt(10)));
        }
        for (int round = 0; round < 5; round++) {
            check("many " + round, drawing(random, 50, 20 + 30 * round, 0));
        }
        Checks.end();
    }

    private static int[][] drawing(Random random, int size, int reach, int middle) {
        int[][] lines = new int[size][4];
        for (int[] line : lines) {
            for (int c = 0; c < 4; c++) {
                line[c] = middle + random.nextInt(2 * reach + 1) - reach;
            }
        }
        return lines;
    }

    /** Long lines that lie close to each other, which are bent most. */
    private static int[][] fan(Random random, int size) {
        int[][] lines = new int[size][];
        for (int s = 0; s < size; s++) {
            int a = random.nextInt(5);
            int b = random.nextInt(5);
            lines[s] = random.nextInt(3) == 0 ? Checks.line(20 + a, a, 20 + b, b) : Checks.line(a, a / 2, 60 - b, 20 + b);
        }
        return lines;
    }

    private static void check(String name, int[][] lines) {
        DrawingTest drawing = new DrawingTest(name, lines);
        drawing.chainsGoFromEndToEnd();
        drawing.piecesAreThoseOfTheChains();
        drawing.noPixelIsPassedOver();
        drawing.nothingCrosses();
    }

    private void chainsGoFromEndToEnd() {
        for (int s = 0; s < lines.length; s++) {
            int last = asked.next().chain(s) - 1;
            duePixel(s, asked.next().chainAt(s, 0), lines[s][0], lines[s][1]);
            duePixel(s, asked.next().chainAt(s, last), lines[s][2], lines[s][3]);
        }
    }

    private void duePixel(int segment, int pixel, int x, int y) {
        Checks.due(name + ": x of an end of " + segment, pixels[pixel][0], x);
        Checks.due(name + ": y of an end of " + segment, pixels[pixel][1], y);
    }

    /** A chain has one piece less than places, and a piece that is in no chain is none. */
    private void piecesAreThoseOfTheChains() {
        int uses = 0;
        for (int[] piece : pieces) {
            uses += piece[2];
            Checks.due(name + ": a piece is in a chain", piece[2] > 0, true);
            Checks.due(name + ": the lower pixel is the first", piece[0] < piece[1], true);
        }
        Checks.due(name + ": all pieces of all chains", uses, asked.next().count(3) - lines.length);
    }

    private void noPixelIsPassedOver() {
        for (int[] piece : pieces) {
            int[] from = pixels[piece[0]];
            int[] to = pixels[piece[1]];
            // Pixels are numbered by x, then y, so only those between the two numbers can lie between.
            for (int p = piece[0] + 1; p < piece[1]; p++) {
                Checks.due(name + ": pixel " + p + " is inside a piece", side(from, to, pixels[p]) == 0, false);
            }
        }
    }

    private void nothingCrosses() {
        for (int one = 0; one < pieces.length; one++) {
            for (int other = 0; other < one; other++) {
                boolean cross = parts(pieces[one], pieces[other]) && parts(pieces[other], pieces[one]);
                Checks.due(name + ": pieces " + other + " and " + one + " cross", cross, false);
            }
        }
    }

    private boolean parts(int[] piece, int[] other) {
        int[] from = pixels[piece[0]];
        int[] to = pixels[piece[1]];
        return side(from, to, pixels[other[0]]) * side(from, to, pixels[other[1]]) < 0;
    }

    private static int side(int[] from, int[] to, int[] place) {
        long wayX = (long) to[0] - from[0];
        long wayY = (long) to[1] - from[1];
        return Long.signum(wayX * ((long) place[1] - from[1]) - wayY * ((long) place[0] - from[0]));
    }
}
