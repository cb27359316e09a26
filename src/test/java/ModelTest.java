import java.util.Random;

/** Long runs of calls, always the same ones, each answer beside that of the Model. */
public final class ModelTest {
    private static final int RUNS = 400;
    private static final int CALLS = 160;
    private static final int[] EXTREMES = {Integer.MIN_VALUE, Integer.MIN_VALUE + 1, -9001, -1, 4, 60, 100, 512,
        Integer.MAX_VALUE - 1, Integer.MAX_VALUE};
    private static final Due due = new Due();

    private final Random random;
    private final CurveTies ties = new CurveTies();
    private final Model model = new Model();
    /** How far the x and heights of a run spread: in a narrow one most things touch. */
    private final int wide;
    private final int high;
    private final String name;

    private ModelTest(int run) {
        random = new Random(run);
        wide = new int[] {40, 100, 300, 1000}[run % 4];
        high = new int[] {10, 40, 100}[run % 3];
        name = "run " + run;
    }

    public static void main(String[] args) {
        for (int run = 0; run < RUNS && due.wrong() < 20; run++) {
            ModelTest test = new ModelTest(run);
            test.begin();
            for (int i = 0; i < CALLS && due.wrong() < 20; i++) {
                test.anyCall();
            }
            test.askAll();
        }
        due.end();
    }

    private int from(int least, int most) {
        return least + random.nextInt(most - least + 1);
    }

    /** Now and then a number that fits nowhere. */
    private int odd(int number) {
        return random.nextInt(60) == 0 ? EXTREMES[random.nextInt(EXTREMES.length)] : number;
    }

    private int anyLine() {
        return odd(from(0, Math.max(0, model.count(0) - 1)));
    }

    private int anyX() {
        return odd(random.nextInt(12) == 0 ? from(0, 1000) : from(0, wide));
    }

    private int anyNote() {
        return odd(from(0, Math.max(0, model.count(1) - 1)));
    }

    private int anyCurve() {
        return odd(from(0, Math.max(0, model.count(4) - 1)));
    }

    private void same(String call, long got, long want) {
        due.is(name + ": " + call, got, want);
    }

    private void begin() {
        int lines = from(1, 3);
        for (int i = 0; i < lines; i++) {
            int width = from(Math.max(100, wide - 40), Math.min(1000, Math.max(120, wide + 60)));
            same("line", ties.line(width), model.line(width));
        }
        for (int i = 0; i < 12; i++) {
            tellNote();
        }
    }

    private void tellNote() {
        int line = anyLine();
        int x = anyX();
        int y = odd(random.nextInt(3) == 0 ? 0 : from(-high, high));
        boolean up = random.nextInt(3) != 0;
        same("note(" + line + ", " + x + ", " + y + ", " + up + ")", ties.note(line, x, y, up), model.note(line, x, y, up));
    }

    private void tellMark() {
        int line = anyLine();
        int x = anyX();
        int y = odd(from(-high - 40, high + 40));
        int w = odd(from(1, random.nextInt(4) == 0 ? 200 : 8));
        int l = odd(from(1, random.nextInt(4) == 0 ? 200 : 8));
        same("mark(" + line + ", " + x + ", " + y + ", " + w + ", " + l + ")",
                ties.mark(line, x, y, w, l), model.mark(line, x, y, w, l));
    }

    private void tellWedge() {
        int line = anyLine();
        int x1 = anyX();
        int x2 = anyX();
        int y = odd(from(-high - 40, high + 40));
        int o = odd(from(1, 40));
        same("wedge(" + line + ", " + x1 + ", " + x2 + ", " + y + ", " + o + ")",
                ties.wedge(line, x1, x2, y, o), model.wedge(line, x1, x2, y, o));
    }

    private void tellCurve() {
        boolean tie = random.nextInt(3) == 0;
        int a = anyNote();
        int b = anyNote();
        same((tie ? "tie(" : "slur(") + a + ", " + b + ")", tie ? ties.tie(a, b) : ties.slur(a, b), model.tell(a, b, tie));
    }

    private void anyCall() {
        int kind = random.nextInt(200);
        if (kind == 0) {
            same("clear", ties.clear(), model.clear());
            begin();
        } else if (kind == 1) {
            int width = odd(from(100, 1000));
            same("line(" + width + ")", ties.line(width), model.line(width));
        } else if (kind < 30) {
            tellNote();
        } else if (kind < 50) {
            tellMark();
        } else if (kind < 56) {
            tellWedge();
        } else if (kind < 110) {
            tellCurve();
        } else if (kind < 122) {
            same("again()", ties.again(), model.again());
        } else {
            ask(anyCurve(), odd(random.nextInt(2)));
        }
    }

    private void ask(int curve, int part) {
        int what = odd(from(0, 6));
        int k = odd(from(0, 24));
        int n = odd(from(0, 65));
        int axis = odd(from(0, 1));
        int other = anyCurve();
        int q = odd(random.nextInt(2));
        String of = "(" + curve + ", " + part + ", ..) ";
        same("curve" + of + what, ties.curve(curve, what), model.curve(curve, what));
        same("part" + of + what, ties.part(curve, part, what), model.part(curve, part, what));
        same("point" + of + what, ties.point(curve, part, what, axis), model.point(curve, part, what, axis));
        same("candidate" + of + k, ties.candidate(curve, part, k, what % 4), model.candidate(curve, part, k, what % 4));
        same("along" + of + n, ties.along(curve, part, n, axis), model.along(curve, part, n, axis));
        same("within" + of + other, ties.within(curve, part, other, q), model.within(curve, part, other, q));
        same("count " + what, ties.count(what), model.count(what));
    }

    private void askAll() {
        for (int curve = 0; curve < model.count(4); curve++) {
            for (int part = 0; part < model.curve(curve, 3); part++) {
                askPart(curve, part);
            }
        }
    }

    private void askPart(int curve, int part) {
        String of = "(" + curve + ", " + part + ", ..) ";
        for (int what = 0; what < 6; what++) {
            same("part" + of + what, ties.part(curve, part, what), model.part(curve, part, what));
            same("count " + what, ties.count(what), model.count(what));
        }
        for (int i = 0; i < 8; i++) {
            same("point" + of + i, ties.point(curve, part, i / 2, i % 2), model.point(curve, part, i / 2, i % 2));
        }
        for (int k = 0; k < 24; k++) {
            same("bars" + of + k, ties.candidate(curve, part, k, 0), model.candidate(curve, part, k, 0));
            same("hulls" + of + k, ties.candidate(curve, part, k, 1), model.candidate(curve, part, k, 1));
        }
        for (int other = 0; other < model.count(4); other++) {
            for (int q = 0; q < 2; q++) {
                same("within" + of + other, ties.within(curve, part, other, q), model.within(curve, part, other, q));
            }
        }
    }
}
