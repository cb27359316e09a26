/** The calls of the class by their names, with arguments that a test makes up. */
final class Told {
    static final long ALONG_UNKNOWN = -9000000000001L, ALONG_OUTSIDE = -9000000000002L;

    private Told() {
    }

    static String text(String call, int... arguments) {
        StringBuilder text = new StringBuilder(call).append('(');
        for (int i = 0; i < arguments.length; i++) {
            text.append(i == 0 ? "" : ", ").append(arguments[i]);
        }
        return text.append(')').toString();
    }

    /** A NOTE's stem goes up if its last argument is not 0. */
    static long call(CurveTies ties, String call, int... a) {
        switch (call) {
            case "line":
                return ties.line(a[0]);
            case "note":
                return ties.note(a[0], a[1], a[2], a[3] != 0);
            case "mark":
                return ties.mark(a[0], a[1], a[2], a[3], a[4]);
            case "wedge":
                return ties.wedge(a[0], a[1], a[2], a[3], a[4]);
            case "tie":
                return ties.tie(a[0], a[1]);
            case "slur":
                return ties.slur(a[0], a[1]);
            case "again":
                return ties.again();
            case "curve":
                return ties.curve(a[0], a[1]);
            case "part":
                return ties.part(a[0], a[1], a[2]);
            case "point":
                return ties.point(a[0], a[1], a[2], a[3]);
            case "candidate":
                return ties.candidate(a[0], a[1], a[2], a[3]);
            case "along":
                return ties.along(a[0], a[1], a[2], a[3]);
            case "within":
                return ties.within(a[0], a[1], a[2], a[3]);
            case "count":
                return ties.count(a[0]);
            case "clear":
                return ties.clear();
            default:
                throw new IllegalArgumentException("no call " + call);
        }
    }
}
