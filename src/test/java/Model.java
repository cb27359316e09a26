import java.util.ArrayList;
import java.util.List;

/**
 * The document once more, written without regard to speed: everything is worked
 * out anew at every question, and what MEETS what is tested by crossing segments and triangles.
 */
final class Model {
    static final int UNKNOWN = -9001, OUTSIDE = -9002, STATE = -9003, ROOM = -9004;

    private final List<Integer> widths = new ArrayList<>();
    /** line, x, y, 1 for a stem up */
    private final List<int[]> notes = new ArrayList<>();
    /** line, then x, y of each corner */
    private final List<int[]> marks = new ArrayList<>();
    private final List<int[]> wedges = new ArrayList<>();
    /** first note, second note, 1 for a tie, side */
    private final List<int[]> curves = new ArrayList<>();
    /** of each curve and part: the candidate, 1 if it collides */
    private final List<int[][]> chosen = new ArrayList<>();

    private static boolean out(int least, int n, int most) {
        return n < least || n > most;
    }

    int line(int width) {
        if (out(100, width, 1000)) return OUTSIDE;
        if (widths.size() == 4) return ROOM;
        widths.add(width);
        return widths.size() - 1;
    }

    int note(int line, int x, int y, boolean up) {
        if (out(0, line, widths.size() - 1)) return UNKNOWN;
        if (out(0, x, widths.get(line)) || out(-100, y, 100)) return OUTSIDE;
        if (notes.size() == 60) return ROOM;
        notes.add(new int[] {line, x, y, up ? 1 : 0});
        return notes.size() - 1;
    }

    int mark(int line, int x, int y, int w, int l) {
        if (out(0, line, widths.size() - 1)) return UNKNOWN;
        if (out(0, x, widths.get(line)) || out(-200, y, 200) || out(1, w, 200) || out(1, l, 200)) return OUTSIDE;
        if (marks.size() == 40) return ROOM;
        marks.add(new int[] {line, x, y, x, y + l, x + w, y, x + w, y + l});
        return marks.size();
    }

    int wedge(int line, int x1, int x2, int y, int o) {
        if (out(0, line, widths.size() - 1)) return UNKNOWN;
        int width = widths.get(line);
        if (out(0, x1, width) || out(0, x2, width) || x1 == x2 || out(-200, y, 200) || out(1, o, 40)) return OUTSIDE;
        if (wedges.size() == 12) return ROOM;
        wedges.add(new int[] {line, x1, y, x2, y + o, x2, y - o});
        return wedges.size();
    }

    private static boolean before(int[] a, int[] b) {
        return a[0] < b[0] || (a[0] == b[0] && a[1] < b[1]);
    }

    int tell(int a, int b, boolean tie) {
        if (out(0, a, notes.size() - 1) || out(0, b, notes.size() - 1)) return UNKNOWN;
        int[] one = notes.get(a);
        int[] two = notes.get(b);
        boolean sameLine = one[0] == two[0] && one[1] + 12 <= two[1];
        boolean nextLine = one[0] + 1 == two[0] && one[1] + 12 <= widths.get(one[0]) && two[1] >= 12;
        if (!sameLine && !nextLine) return STATE;
        if (tie && one[2] != two[2]) return STATE;
        if (curves.size() == 40) return ROOM;
        curves.add(new int[] {a, b, tie ? 1 : 0, tie ? tieSide(one) : slurSide(one, two)});
        int number = curves.size() - 1;
        chosen.add(new int[sameLine ? 1 : 2][2]);
        for (int p = 0; p < chosen.get(number).length; p++) choose(number, p);
        return number;
    }

    private int tieSide(int[] one) {
        int k = 0;
        int m = 0;
        for (int[] note : notes) {
            if (note[0] == one[0] && note[1] == one[1] && note[2] > one[2]) k++;
            if (note[0] == one[0] && note[1] == one[1] && note[2] < one[2]) m++;
        }
        if (k < m) return 1;
        if (k > m) return -1;
        return one[3] == 1 ? -1 : 1;
    }

    private int slurSide(int[] one, int[] two) {
        int side = -1;
        for (int[] note : notes) {
            boolean ofIt = note == one || note == two || (before(one, note) && before(note, two));
            if (ofIt && note[3] == 0) side = 1;
        }
        return side;
    }

    /** line, x, y, x', y' without what a candidate adds */
    private int[] span(int curve, int p) {
        int[] told = curves.get(curve);
        int side = told[3];
        int[] one = notes.get(told[0]);
        int[] two = notes.get(told[1]);
        int x = one[1];
        int y = one[2] + 4 * side;
        int xx = two[1];
        int yy = two[2] + 4 * side;
        if (told[2] == 1) {
            x += 3;
            xx -= 3;
            y -= 2 * side;
            yy -= 2 * side;
        } else {
            if ((one[3] == 1) == (side == 1)) y += 24 * side;
            if ((two[3] == 1) == (side == 1)) yy += 24 * side;
        }
        if (chosen.get(curve).length == 1) return new int[] {one[0], x, y, xx, yy};
        if (p == 0) return new int[] {one[0], x, y, widths.get(one[0]), y};
        return new int[] {two[0], 0, yy, xx, yy};
    }

    private int arch(int curve, int p) {
        int[] span = span(curve, p);
        int a = 4 + (span[3] - span[1]) / 8;
        return a > 20 ? 20 : a;
    }

    private int candidates(int curve) {
        return curves.get(curve)[2] == 1 ? 8 : 24;
    }

    private int[] pointsOf(int curve, int p, int candidate) {
        int[] span = span(curve, p);
        int side = curves.get(curve)[3];
        int e = candidate / 8;
        int h = arch(curve, p) + 4 * (candidate - 8 * e);
        int y = span[2] + 4 * e * side;
        int yy = span[4] + 4 * e * side;
        int d = span[3] - span[1];
        return new int[] {span[0],
            span[1], y,
            span[1] + d / 4, y + (yy - y) / 4 + h * side,
            span[3] - d / 4, yy + (y - yy) / 4 + h * side,
            span[3], yy};
    }

    private int badness(int curve, int p, int candidate) {
        int e = candidate / 8;
        int h = arch(curve, p) + 4 * (candidate % 8);
        return (h - arch(curve, p)) * (h - arch(curve, p)) + 48 * e * e;
    }

    private boolean lies(int curve, int p, int other, int q) {
        int[] in = span(curve, p);
        int[] around = span(other, q);
        return in[0] == around[0] && curve < other && curves.get(curve)[3] == curves.get(other)[3]
                && !(in[1] < around[1]) && !(in[3] > around[3]);
    }

    private int barsMet(int curve, int p, int k) {
        int[] hull = pointsOf(curve, p, k);
        int met = 0;
        for (int[] bar : marks) if (touch(hull, bar)) met++;
        for (int[] bar : wedges) if (touch(hull, bar)) met++;
        return met;
    }

    private int hullsMet(int curve, int p, int k) {
        int[] hull = pointsOf(curve, p, k);
        int met = 0;
        for (int c = 0; c < curve; c++) {
            for (int q = 0; q < chosen.get(c).length; q++) {
                if (lies(c, q, curve, p) && touch(hull, pointsOf(c, q, chosen.get(c)[q][0]))) met++;
            }
        }
        return met;
    }

    private void choose(int curve, int p) {
        int best = -1;
        for (int k = candidates(curve) - 1; k >= 0; k--) {
            if (barsMet(curve, p, k) + hullsMet(curve, p, k) == 0
                    && (best < 0 || badness(curve, p, k) <= badness(curve, p, best))) {
                best = k;
            }
        }
        chosen.get(curve)[p] = best < 0 ? new int[] {candidates(curve) - 1, 1} : new int[] {best, 0};
    }

    int again() {
        int changed = 0;
        for (int c = 0; c < curves.size(); c++) {
            for (int p = 0; p < chosen.get(c).length; p++) {
                int was = chosen.get(c)[p][0];
                choose(c, p);
                if (chosen.get(c)[p][0] != was) changed++;
            }
        }
        return changed;
    }

    private boolean noPart(int curve, int part) {
        return out(0, curve, curves.size() - 1) || out(0, part, chosen.get(curve).length - 1);
    }

    int curve(int curve, int what) {
        if (out(0, curve, curves.size() - 1)) return UNKNOWN;
        if (out(0, what, 4)) return OUTSIDE;
        int[] told = curves.get(curve);
        return new int[] {told[0], told[1], told[3], chosen.get(curve).length, told[2]}[what];
    }

    int part(int curve, int part, int what) {
        if (noPart(curve, part)) return UNKNOWN;
        if (out(0, what, 5)) return OUTSIDE;
        int[] now = chosen.get(curve)[part];
        return new int[] {span(curve, part)[0], now[0], badness(curve, part, now[0]), now[1],
            arch(curve, part), candidates(curve)}[what];
    }

    int point(int curve, int part, int i, int axis) {
        if (noPart(curve, part)) return UNKNOWN;
        if (out(0, i, 3) || out(0, axis, 1)) return OUTSIDE;
        return pointsOf(curve, part, chosen.get(curve)[part][0])[1 + 2 * i + axis];
    }

    int candidate(int curve, int part, int k, int what) {
        if (noPart(curve, part)) return UNKNOWN;
        if (out(0, k, candidates(curve) - 1) || out(0, what, 2)) return OUTSIDE;
        if (what == 0) return barsMet(curve, part, k);
        return what == 1 ? hullsMet(curve, part, k) : badness(curve, part, k);
    }

    /** By halving between points, de Casteljau's way, in 64ths. */
    long along(int curve, int part, int n, int axis) {
        if (noPart(curve, part)) return -9000000000001L;
        if (out(0, n, 64) || out(0, axis, 1)) return -9000000000002L;
        long[] at = new long[4];
        for (int i = 0; i < 4; i++) at[i] = point(curve, part, i, axis);
        for (int left = 3; left > 0; left--) {
            for (int i = 0; i < left; i++) at[i] = (64 - n) * at[i] + n * at[i + 1];
        }
        return at[0];
    }

    int within(int curve, int p, int other, int q) {
        if (noPart(curve, p) || noPart(other, q)) return UNKNOWN;
        return lies(curve, p, other, q) ? 1 : 0;
    }

    int count(int what) {
        if (out(0, what, 5)) return OUTSIDE;
        int colliding = 0;
        for (int[][] parts : chosen) for (int[] part : parts) colliding += part[1];
        return new int[] {widths.size(), notes.size(), marks.size(), wedges.size(), curves.size(), colliding}[what];
    }

    int clear() {
        int were = curves.size();
        widths.clear();
        notes.clear();
        marks.clear();
        wedges.clear();
        curves.clear();
        chosen.clear();
        return were;
    }

    // Two hulls have a point together, if a segment of one crosses one of the other, or a corner of
    // one lies in a triangle of the other: all segments and triangles of corners are taken.

    static boolean touch(int[] a, int[] b) {
        if (a[0] != b[0]) return false;
        return segmentsCross(a, b) || cornerInside(a, b) || cornerInside(b, a);
    }

    private static boolean segmentsCross(int[] a, int[] b) {
        for (int i = 1; i < a.length; i += 2) {
            for (int j = i + 2; j < a.length; j += 2) {
                for (int k = 1; k < b.length; k += 2) {
                    for (int l = k + 2; l < b.length; l += 2) {
                        if (cross(a, i, j, b, k, l)) return true;
                    }
                }
            }
        }
        return false;
    }

    private static int turn(int[] a, int i, int j, int[] b, int k) {
        long area = (long) (a[j] - a[i]) * (b[k + 1] - a[i + 1]) - (long) (a[j + 1] - a[i + 1]) * (b[k] - a[i]);
        return Long.signum(area);
    }

    private static boolean cross(int[] a, int i, int j, int[] b, int k, int l) {
        int t1 = turn(a, i, j, b, k);
        int t2 = turn(a, i, j, b, l);
        int t3 = turn(b, k, l, a, i);
        int t4 = turn(b, k, l, a, j);
        if (t1 * t2 < 0 && t3 * t4 < 0) return true;
        return t1 == 0 && onSegment(a, i, j, b, k) || t2 == 0 && onSegment(a, i, j, b, l)
                || t3 == 0 && onSegment(b, k, l, a, i) || t4 == 0 && onSegment(b, k, l, a, j);
    }

    private static boolean onSegment(int[] a, int i, int j, int[] b, int k) {
        return Math.min(a[i], a[j]) <= b[k] && b[k] <= Math.max(a[i], a[j])
                && Math.min(a[i + 1], a[j + 1]) <= b[k + 1] && b[k + 1] <= Math.max(a[i + 1], a[j + 1]);
    }

    private static boolean cornerInside(int[] a, int[] b) {
        for (int k = 1; k < b.length; k += 2) {
            for (int i = 1; i < a.length; i += 2) {
                for (int j = i + 2; j < a.length; j += 2) {
                    for (int l = j + 2; l < a.length; l += 2) {
                        int t1 = turn(a, i, j, b, k);
                        int t2 = turn(a, j, l, b, k);
                        int t3 = turn(a, l, i, b, k);
                        if (t1 > 0 && t2 > 0 && t3 > 0 || t1 < 0 && t2 < 0 && t3 < 0) return true;
                    }
                }
            }
        }
        return false;
    }
}
