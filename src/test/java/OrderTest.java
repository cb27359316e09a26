import java.util.function.Supplier;

/**
 * Terms: "the first of these that fits: UNKNOWN, OUTSIDE, STATE, ROOM". Every argument of every call is right, too
 * small, too large, the least int and the greatest one, in every combination, in a small piece and in a full one.
 */
public final class OrderTest {
    private static final int MIN = Integer.MIN_VALUE, MAX = Integer.MAX_VALUE;
    /** An object is used for 512 calls at most; a full piece has taken 156 of them. */
    private static final int CALLS = 300;
    private static final Due due = new Due();

    /** What names a LINE, NOTE, CURVE or PART is UNKNOWN if it is wrong, another number is OUTSIDE. */
    private record Argument(boolean names, int right, int... wrong) {
        int choices() {
            return wrong.length + 1;
        }

        int choice(int i) {
            return i == 0 ? right : wrong[i - 1];
        }
    }

    /** A NOTE's stem can't be wrong. */
    private static final Argument STEM = new Argument(false, 1);

    private final Supplier<CurveTies> begin;
    private CurveTies ties;
    private int calls;

    private OrderTest(Supplier<CurveTies> begin) {
        this.begin = begin;
        this.ties = begin.get();
    }

    public static void main(String[] args) {
        OrderTest small = new OrderTest(Piece::small);
        small.questions();
        small.tellersOfSmall();
        OrderTest full = new OrderTest(Piece::full);
        full.tellersOfFull();
        full.stateBeforeRoom();
        due.end();
    }

    private static Argument name(int right, int firstWrong) {
        return new Argument(true, right, MIN, -1, firstWrong, MAX);
    }

    private static Argument number(int right, int lastTooSmall, int firstTooLarge) {
        return new Argument(false, right, MIN, lastTooSmall, firstTooLarge, MAX);
    }

    private CurveTies fresh() {
        if (calls == CALLS) {
            ties = begin.get();
            calls = 0;
        }
        calls++;
        return ties;
    }

    /** All combinations but the one in which all is right. */
    private void refused(String call, Argument... arguments) {
        int all = 1;
        for (Argument argument : arguments) {
            all *= argument.choices();
        }
        for (int combination = 1; combination < all; combination++) {
            int[] values = new int[arguments.length];
            boolean unknown = false;
            int rest = combination;
            for (int i = 0; i < values.length; i++) {
                int choice = rest % arguments[i].choices();
                rest /= arguments[i].choices();
                values[i] = arguments[i].choice(choice);
                unknown = unknown || choice > 0 && arguments[i].names();
            }
            is(call, unknown ? CurveTies.UNKNOWN : CurveTies.OUTSIDE, values);
        }
    }

    private void is(String call, int want, int... values) {
        long wanted = want;
        if (call.equals("along")) {
            wanted = want == CurveTies.UNKNOWN ? Told.ALONG_UNKNOWN : Told.ALONG_OUTSIDE;
        }
        due.is(Told.text(call, values), Told.call(fresh(), call, values), wanted);
    }

    private void questions() {
        Argument axis = number(1, -1, 2);
        for (int curve : new int[] {0, 3}) {
            Argument ofCurve = name(curve, 4);
            Argument ofPart = name(0, curve == 0 ? 1 : 2);
            refused("curve", ofCurve, number(4, -1, 5));
            refused("part", ofCurve, ofPart, number(5, -1, 6));
            refused("point", ofCurve, ofPart, number(3, -1, 4), axis);
            refused("candidate", ofCurve, ofPart, number(7, -1, curve == 0 ? 8 : 24), number(2, -1, 3));
            refused("along", ofCurve, ofPart, number(64, -1, 65), axis);
            refused("within", ofCurve, ofPart, name(2, 4), name(1, 2));
        }
        refused("count", number(5, -1, 6));
    }

    private void tellersOfSmall() {
        refused("line", number(100, 99, 1001));
        refused("note", name(0, 2), number(150, -1, 151), number(100, -101, 101), STEM);
        refused("mark", name(1, 2), number(200, -1, 201), number(-200, -201, 201), number(1, 0, 201), number(200, 0, 201));
        refused("wedge", name(0, 2), number(150, -1, 151), number(0, -1, 151), number(200, -201, 201), number(40, 0, 41));
        refused("tie", name(0, 5), name(1, 5));
        refused("slur", name(0, 5), name(1, 5));
    }

    /** The same beside what would be ROOM; and with all right it is. */
    private void tellersOfFull() {
        refused("line", number(100, 99, 1001));
        is("line", CurveTies.ROOM, 100);
        refused("note", name(3, 4), number(1000, -1, 1001), number(-100, -101, 101), STEM);
        is("note", CurveTies.ROOM, 3, 1000, -100, 0);
        refused("mark", name(0, 4), number(100, -1, 101), number(200, -201, 201), number(200, 0, 201), number(1, 0, 201));
        is("mark", CurveTies.ROOM, 0, 100, 200, 200, 1);
        refused("wedge", name(3, 4), number(0, -1, 1001), number(1000, -1, 1001), number(-200, -201, 201), number(1, 0, 41));
        is("wedge", CurveTies.ROOM, 3, 0, 1000, -200, 1);
        is("wedge", CurveTies.OUTSIDE, 3, 7, 7, -200, 1);
        is("wedge", CurveTies.UNKNOWN, 4, 7, 7, -200, 1);
        refused("tie", name(0, 60), name(1, 60));
        is("tie", CurveTies.ROOM, 0, 1);
        refused("slur", name(0, 60), name(5, 60));
        is("slur", CurveTies.ROOM, 0, 5);
    }

    /** NOTE i of a full piece is on LINE i % 4, at x 12 + i, at the height i / 4. */
    private void stateBeforeRoom() {
        is("tie", CurveTies.STATE, 0, 5);
        is("tie", CurveTies.STATE, 1, 0);
        for (String call : new String[] {"tie", "slur"}) {
            is(call, CurveTies.STATE, 7, 7);
            is(call, CurveTies.STATE, 0, 2);
            is(call, CurveTies.STATE, 0, 3);
            is(call, CurveTies.STATE, 12, 0);
            is(call, CurveTies.STATE, 0, 8);
            is(call, CurveTies.STATE, 59, 0);
        }
        is("slur", CurveTies.ROOM, 0, 12);
        is("tie", CurveTies.STATE, 0, 12);
        is("tie", CurveTies.UNKNOWN, 60, 60);
        is("slur", CurveTies.UNKNOWN, -1, -1);
        is("slur", CurveTies.UNKNOWN, MIN, MIN);
        is("tie", CurveTies.UNKNOWN, MAX, MAX);
    }
}
