/**
 * Ties and slurs as curves of four points: their sides, where they begin and end, over the end of a
 * line in two parts; of written candidates the one of least badness whose hull meets nothing, tested
 * exactly; those within another one lie apart from it; wedges.
 *
 * <p>Words in capitals are the terms of the document.
 */
public final class CurveTies {
    public static final int UNKNOWN = -9001, OUTSIDE = -9002, STATE = -9003, ROOM = -9004, NONE = -9005;

    private static final int MOST_LINES = 4;
    private static final int MOST_NOTES = 60;
    private static final int MOST_MARKS = 40;
    private static final int MOST_WEDGES = 12;
    private static final int MOST_BARS = MOST_MARKS + MOST_WEDGES;
    private static final int MOST_CURVES = 40;
    private static final int MOST_PARTS = 2 * MOST_CURVES;

    private static final int LEAST_WIDTH = 100;
    private static final int MOST_WIDTH = 1000;
    private static final int MOST_NOTE_HEIGHT = 100;
    private static final int MOST_BAR_HEIGHT = 200;
    private static final int MOST_MARK_SIZE = 200;
    private static final int MOST_OPENING = 40;
    private static final int LEAST_REACH = 12;

    private static final int ABOVE = 1;
    private static final int BELOW = -1;

    private static final int STEPS = 64;
    private static final long ALONG_UNKNOWN = -9000000000001L;
    private static final long ALONG_OUTSIDE = -9000000000002L;

    private final int[] widths = new int[MOST_LINES];
    private final Note[] notes = new Note[MOST_NOTES];
    private final Figure[] bars = new Figure[MOST_BARS];
    private final Curve[] curves = new Curve[MOST_CURVES];
    private final Part[] parts = new Part[MOST_PARTS];
    /** The HULL of the candidate that is looked at: one for all, so that looking makes no objects. */
    private final Figure trial = Figure.hullOn(0);

    private int lineCount;
    private int noteCount;
    private int markCount;
    private int wedgeCount;
    private int curveCount;
    private int partCount;

    public CurveTies() {
        forgetAll();
    }

    public int line(int width) {
        if (!isFrom(LEAST_WIDTH, width, MOST_WIDTH)) {
            return OUTSIDE;
        }
        if (lineCount >= MOST_LINES) {
            return ROOM;
        }
        widths[lineCount] = width;
        return lineCount++;
    }

    public int note(int line, int x, int y, boolean up) {
        if (!isLine(line)) {
            return UNKNOWN;
        }
        if (!isFrom(0, x, widths[line]) || !isFrom(-MOST_NOTE_HEIGHT, y, MOST_NOTE_HEIGHT)) {
            return OUTSIDE;
        }
        if (noteCount >= MOST_NOTES) {
            return ROOM;
        }
        notes[noteCount] = new Note(noteCount, line, x, y, up);
        return noteCount++;
    }

    public int mark(int line, int x, int y, int w, int l) {
        if (!isLine(line)) {
            return UNKNOWN;
        }
        if (!isBarPlace(line, x, y) || !isFrom(1, w, MOST_MARK_SIZE) || !isFrom(1, l, MOST_MARK_SIZE)) {
            return OUTSIDE;
        }
        if (markCount >= MOST_MARKS) {
            return ROOM;
        }
        bars[markCount + wedgeCount] = Figure.rectangle(line, x, y, w, l);
        return ++markCount;
    }

    public int wedge(int line, int x1, int x2, int y, int o) {
        if (!isLine(line)) {
            return UNKNOWN;
        }
        if (!isBarPlace(line, x1, y) || !isBarPlace(line, x2, y) || x1 == x2 || !isFrom(1, o, MOST_OPENING)) {
            return OUTSIDE;
        }
        if (wedgeCount >= MOST_WEDGES) {
            return ROOM;
        }
        bars[markCount + wedgeCount] = Figure.triangle(line, x1, x2, y, o);
        return ++wedgeCount;
    }

    public int tie(int a, int b) {
        return addCurve(a, b, true);
    }

    public int slur(int a, int b) {
        return addCurve(a, b, false);
    }

    public int again() {
        int changed = 0;
        for (int i = 0; i < partCount; i++) {
            int before = parts[i].chosen;
            choose(parts[i]);
            if (parts[i].chosen != before) {
                changed++;
            }
        }
        return changed;
    }

    public int curve(int curve, int what) {
        if (!isCurve(curve)) {
            return UNKNOWN;
        }
        Curve asked = curves[curve];
        switch (what) {
            case 0:
                return asked.first.number;
            case 1:
                return asked.second.number;
            case 2:
                return asked.side;
            case 3:
                return asked.partCount();
            case 4:
                return asked.isTie ? 1 : 0;
            default:
                return OUTSIDE;
        }
    }

    public int part(int curve, int part, int what) {
        Part asked = findPart(curve, part);
        if (asked == null) {
            return UNKNOWN;
        }
        switch (what) {
            case 0:
                return asked.line;
            case 1:
                return asked.chosen;
            case 2:
                return asked.badness(asked.chosen);
            case 3:
                return asked.collides ? 1 : 0;
            case 4:
                return asked.arch;
            case 5:
                return asked.candidateCount();
            default:
                return OUTSIDE;
        }
    }

    public int point(int curve, int part, int i, int axis) {
        Part asked = findPart(curve, part);
        if (asked == null) {
            return UNKNOWN;
        }
        if (!isFrom(0, i, 3) || !isFrom(0, axis, 1)) {
            return OUTSIDE;
        }
        return asked.hull.row(axis)[i];
    }

    public int candidate(int curve, int part, int k, int what) {
        Part asked = findPart(curve, part);
        if (asked == null) {
            return UNKNOWN;
        }
        if (!isFrom(0, k, asked.candidateCount() - 1)) {
            return OUTSIDE;
        }
        asked.draw(k, trial);
        switch (what) {
            case 0:
                return barsMet(MOST_BARS);
            case 1:
                return hullsMet(asked, MOST_PARTS);
            case 2:
                return asked.badness(k);
            default:
                return OUTSIDE;
        }
    }

    public long along(int curve, int part, int n, int axis) {
        Part asked = findPart(curve, part);
        if (asked == null) {
            return ALONG_UNKNOWN;
        }
        if (!isFrom(0, n, STEPS) || !isFrom(0, axis, 1)) {
            return ALONG_OUTSIDE;
        }
        int[] at = asked.hull.row(axis);
        long gone = n;
        long left = STEPS - gone;
        return left * left * left * at[0]
                + 3 * left * left * gone * at[1]
                + 3 * left * gone * gone * at[2]
                + gone * gone * gone * at[3];
    }

    public int within(int curve, int p, int other, int q) {
        Part inner = findPart(curve, p);
        Part outer = findPart(other, q);
        if (inner == null || outer == null) {
            return UNKNOWN;
        }
        return inner.liesWithin(outer) ? 1 : 0;
    }

    public int count(int what) {
        switch (what) {
            case 0:
                return lineCount;
            case 1:
                return noteCount;
            case 2:
                return markCount;
            case 3:
                return wedgeCount;
            case 4:
                return curveCount;
            case 5:
                return collidingParts();
            default:
                return OUTSIDE;
        }
    }

    public int clear() {
        int were = curveCount;
        forgetAll();
        return were;
    }

    private void forgetAll() {
        lineCount = 0;
        noteCount = 0;
        markCount = 0;
        wedgeCount = 0;
        curveCount = 0;
        partCount = 0;
    }

    private static boolean isFrom(int least, int number, int most) {
        return least <= number && number <= most;
    }

    private boolean isLine(int line) {
        return isFrom(0, line, lineCount - 1);
    }

    private boolean isNote(int note) {
        return isFrom(0, note, noteCount - 1);
    }

    private boolean isCurve(int curve) {
        return isFrom(0, curve, curveCount - 1);
    }

    private boolean isBarPlace(int line, int x, int y) {
        return isFrom(0, x, widths[line]) && isFrom(-MOST_BAR_HEIGHT, y, MOST_BAR_HEIGHT);
    }

    /** The PART, or null if there is no such CURVE or PART. */
    private Part findPart(int curve, int part) {
        if (!isCurve(curve) || !isFrom(0, part, curves[curve].partCount() - 1)) {
            return null;
        }
        return parts[curves[curve].firstPart + part];
    }

    private int addCurve(int a, int b, boolean isTie) {
        if (!isNote(a) || !isNote(b)) {
            return UNKNOWN;
        }
        Note first = notes[a];
        Note second = notes[b];
        if (!canBeJoined(first, second) || isTie && first.y != second.y) {
            return STATE;
        }
        if (curveCount >= MOST_CURVES) {
            return ROOM;
        }
        int side = isTie ? tieSide(first) : slurSide(first, second);
        Curve added = new Curve(curveCount, first, second, isTie, side, partCount);
        curves[curveCount] = added;
        addParts(added);
        for (int i = added.firstPart; i < partCount; i++) {
            choose(parts[i]);
        }
        return curveCount++;
    }

    private boolean canBeJoined(Note first, Note second) {
        if (!first.isBefore(second)) {
            return false;
        }
        if (first.line == second.line) {
            return second.x - first.x >= LEAST_REACH;
        }
        return second.line - first.line == 1
                && widths[first.line] - first.x >= LEAST_REACH
                && second.x >= LEAST_REACH;
    }

    private int tieSide(Note first) {
        int higher = 0;
        int lower = 0;
        for (int i = 0; i < noteCount; i++) {
            if (notes[i].isInChordOf(first)) {
                higher += notes[i].y > first.y ? 1 : 0;
                lower += notes[i].y < first.y ? 1 : 0;
            }
        }
        if (higher != lower) {
            return higher < lower ? ABOVE : BELOW;
        }
        return -first.stemSide();
    }

    private int slurSide(Note first, Note second) {
        boolean stemDown = !first.up || !second.up;
        for (int i = 0; i < noteCount && !stemDown; i++) {
            stemDown = !notes[i].up && first.isBefore(notes[i]) && notes[i].isBefore(second);
        }
        return stemDown ? ABOVE : BELOW;
    }

    private void addParts(Curve curve) {
        int x = curve.firstX();
        int y = curve.endHeight(curve.first);
        int lastX = curve.secondX();
        int lastY = curve.endHeight(curve.second);
        if (curve.partCount() == 1) {
            addPart(new Part(curve, curve.first.line, x, y, lastX, lastY));
        } else {
            addPart(new Part(curve, curve.first.line, x, y, widths[curve.first.line], y));
            addPart(new Part(curve, curve.second.line, 0, lastY, lastX, lastY));
        }
    }

    /** There is always room: MOST_PARTS is two for each CURVE. */
    private void addPart(Part part) {
        if (partCount < MOST_PARTS) {
            parts[partCount++] = part;
        }
    }

    private void choose(Part part) {
        int best = Part.NO_CANDIDATE;
        for (int k = 0; k < part.candidateCount(); k++) {
            if (best == Part.NO_CANDIDATE || part.badness(k) < part.badness(best)) {
                part.draw(k, trial);
                if (barsMet(1) == 0 && hullsMet(part, 1) == 0) {
                    best = k;
                }
            }
        }
        part.collides = best == Part.NO_CANDIDATE;
        part.chosen = part.collides ? part.candidateCount() - 1 : best;
        part.draw(part.chosen, part.hull);
    }

    /** How many BARS the trial MEETS; no more are looked for when there are enough. */
    private int barsMet(int enough) {
        int met = 0;
        for (int i = 0; i < markCount + wedgeCount && met < enough; i++) {
            if (trial.meets(bars[i])) {
                met++;
            }
        }
        return met;
    }

    /** How many HULLS of PARTS WITHIN the part the trial MEETS; no more are looked for when there are enough. */
    private int hullsMet(Part part, int enough) {
        int met = 0;
        for (int i = 0; i < partCount && met < enough; i++) {
            if (parts[i].liesWithin(part) && trial.meets(parts[i].hull)) {
                met++;
            }
        }
        return met;
    }

    private int collidingParts() {
        int colliding = 0;
        for (int i = 0; i < partCount; i++) {
            if (parts[i].collides) {
                colliding++;
            }
        }
        return colliding;
    }

    private static final class Note {
        final int number;
        final int line;
        final int x;
        final int y;
        final boolean up;

        Note(int number, int line, int x, int y, boolean up) {
            this.number = number;
            this.line = line;
            this.x = x;
            this.y = y;
            this.up = up;
        }

        boolean isBefore(Note other) {
            return line < other.line || line == other.line && x < other.x;
        }

        boolean isInChordOf(Note other) {
            return line == other.line && x == other.x;
        }

        int stemSide() {
            return up ? ABOVE : BELOW;
        }
    }

    private static final class Curve {
        private static final int TIE_INSET = 3;
        private static final int TIE_GAP = 2;
        private static final int SLUR_GAP = 4;
        private static final int STEM = 24;

        final int number;
        final Note first;
        final Note second;
        final boolean isTie;
        final int side;
        final int firstPart;

        Curve(int number, Note first, Note second, boolean isTie, int side, int firstPart) {
            this.number = number;
            this.first = first;
            this.second = second;
            this.isTie = isTie;
            this.side = side;
            this.firstPart = firstPart;
        }

        int partCount() {
            return first.line == second.line ? 1 : 2;
        }

        int firstX() {
            return isTie ? first.x + TIE_INSET : first.x;
        }

        int secondX() {
            return isTie ? second.x - TIE_INSET : second.x;
        }

        int endHeight(Note end) {
            if (isTie) {
                return end.y + TIE_GAP * side;
            }
            int stem = end.stemSide() == side ? STEM : 0;
            return end.y + (SLUR_GAP + stem) * side;
        }
    }

    private static final class Part {
        static final int NO_CANDIDATE = -1;
        private static final int ARCHES = 8;
        private static final int SLUR_SHIFTS = 3;
        private static final int STEP = 4;
        private static final int SHIFT_BADNESS = 48;
        private static final int MOST_ARCH = 20;
        private static final int LEAST_ARCH = 4;

        final Curve curve;
        final int line;
        final int fromX;
        final int fromY;
        final int toX;
        final int toY;
        final int arch;
        final Figure hull;
        int chosen = NO_CANDIDATE;
        boolean collides;

        Part(Curve curve, int line, int fromX, int fromY, int toX, int toY) {
            this.curve = curve;
            this.line = line;
            this.fromX = fromX;
            this.fromY = fromY;
            this.toX = toX;
            this.toY = toY;
            this.arch = Math.min(MOST_ARCH, LEAST_ARCH + (toX - fromX) / 8);
            this.hull = Figure.hullOn(line);
        }

        int candidateCount() {
            return curve.isTie ? ARCHES : ARCHES * SLUR_SHIFTS;
        }

        int badness(int candidate) {
            int higher = STEP * (candidate % ARCHES);
            int shifts = candidate / ARCHES;
            return higher * higher + SHIFT_BADNESS * shifts * shifts;
        }

        boolean liesWithin(Part other) {
            return line == other.line
                    && curve.number < other.curve.number
                    && curve.side == other.curve.side
                    && fromX >= other.fromX
                    && toX <= other.toX;
        }

        /** Makes the figure, which has four corners, the HULL of a candidate. */
        void draw(int candidate, Figure into) {
            int rise = (arch + STEP * (candidate % ARCHES)) * curve.side;
            int shift = STEP * (candidate / ARCHES) * curve.side;
            int y = fromY + shift;
            int lastY = toY + shift;
            int quarter = (toX - fromX) / 4;
            into.line = line;
            into.setCorner(0, fromX, y);
            into.setCorner(1, fromX + quarter, y + (lastY - y) / 4 + rise);
            into.setCorner(2, toX - quarter, lastY + (y - lastY) / 4 + rise);
            into.setCorner(3, toX, lastY);
            into.setFrame();
        }
    }

    /**
     * What lies within some corners on a LINE, with its edge. The corners are in no order, and one may
     * lie inside; they never lie all on one straight line.
     */
    private static final class Figure {
        int line;
        final int[] xs;
        final int[] ys;
        private int left;
        private int right;
        private int bottom;
        private int top;

        private Figure(int line, int corners) {
            this.line = line;
            this.xs = new int[corners];
            this.ys = new int[corners];
        }

        /** A figure of four corners that are still to be set. */
        static Figure hullOn(int line) {
            return new Figure(line, 4);
        }

        static Figure rectangle(int line, int x, int y, int w, int l) {
            Figure made = new Figure(line, 4);
            made.setCorner(0, x, y);
            made.setCorner(1, x + w, y);
            made.setCorner(2, x + w, y + l);
            made.setCorner(3, x, y + l);
            made.setFrame();
            return made;
        }

        static Figure triangle(int line, int tipX, int openX, int y, int o) {
            Figure made = new Figure(line, 3);
            made.setCorner(0, tipX, y);
            made.setCorner(1, openX, y - o);
            made.setCorner(2, openX, y + o);
            made.setFrame();
            return made;
        }

        void setCorner(int i, int x, int y) {
            if (i >= 0 && i < xs.length) {
                xs[i] = x;
                ys[i] = y;
            }
        }

        /** Once all corners are set: most figures lie so far apart that their frames tell it. */
        void setFrame() {
            left = xs[0];
            right = xs[0];
            bottom = ys[0];
            top = ys[0];
            for (int i = 1; i < xs.length; i++) {
                left = Math.min(left, xs[i]);
                right = Math.max(right, xs[i]);
                bottom = Math.min(bottom, ys[i]);
                top = Math.max(top, ys[i]);
            }
        }

        int[] row(int axis) {
            return axis == 0 ? xs : ys;
        }

        /** Convex figures without a common point always have an edge of one of them between them. */
        boolean meets(Figure other) {
            return line == other.line
                    && left <= other.right && other.left <= right
                    && bottom <= other.top && other.bottom <= top
                    && !hasEdgeBefore(other) && !other.hasEdgeBefore(this);
        }

        /** Whether one of the edges has the other figure wholly beyond it. */
        private boolean hasEdgeBefore(Figure other) {
            for (int i = 0; i < xs.length; i++) {
                for (int j = i + 1; j < xs.length; j++) {
                    if (separates(i, j, other)) {
                        return true;
                    }
                }
            }
            return false;
        }

        /** Whether the straight line through two corners has this figure on one side and the other one beyond it. */
        private boolean separates(int i, int j, Figure other) {
            int dx = xs[j] - xs[i];
            int dy = ys[j] - ys[i];
            int onLine = dx * ys[i] - dy * xs[i];
            boolean someLeft = false;
            boolean someRight = false;
            for (int k = 0; k < xs.length; k++) {
                int turn = dx * ys[k] - dy * xs[k] - onLine;
                someLeft = someLeft || turn > 0;
                someRight = someRight || turn < 0;
            }
            if (someLeft && someRight) {
                return false;
            }
            for (int k = 0; k < other.xs.length; k++) {
                int turn = dx * other.ys[k] - dy * other.xs[k] - onLine;
                // Lying on the straight line is touching it: only what is strictly beyond lies apart.
                if (someLeft ? turn >= 0 : turn <= 0) {
                    return false;
                }
            }
            return true;
        }
    }
}
