/** Promise 8 and what is chosen: again. */
public final class AgainTest {
    private static final Due due = new Due();

    public static void main(String[] args) {
        leastBadness();
        firstOfLikeOnes();
        worseOnesLater();
        collidingAndBack();
        innerFirst();
        bothParts();
        hullsApart();
        due.end();
    }

    /** A SLUR above from (100, 4) to (180, 4) with the ARCH 14. */
    private static CurveTies slurAbove() {
        CurveTies ties = new CurveTies();
        ties.line(300);
        ties.note(0, 100, 0, false);
        ties.note(0, 180, 0, false);
        ties.slur(0, 1);
        return ties;
    }

    private static void chosen(String name, CurveTies ties, int candidate, int badness, int collides) {
        due.is(name + ": candidate", ties.part(0, 0, 1), candidate);
        due.is(name + ": badness", ties.part(0, 0, 2), badness);
        due.is(name + ": collides", ties.part(0, 0, 3), collides);
    }

    private static void leastBadness() {
        CurveTies ties = slurAbove();
        chosen("nothing in the way", ties, 0, 0, 0);
        // at the ENDS' height: only by going up 4 does the HULL leave it, and no more
        ties.mark(0, 130, 0, 10, 5);
        chosen("what is told later changes nothing", ties, 0, 0, 0);
        due.is("it would meet", ties.candidate(0, 0, 0, 0), 1);
        due.is("higher arches meet, too", ties.candidate(0, 0, 7, 0), 1);
        due.is("4 up it meets nothing", ties.candidate(0, 0, 8, 0), 0);
        due.is("again", ties.again(), 1);
        chosen("4 up", ties, 8, 48, 0);
        due.points("4 up", ties, 0, 0, 100, 8, 120, 22, 160, 22, 180, 8);
        due.is("again, with nothing new", ties.again(), 0);
        ties.mark(0, 130, 0, 10, 8);
        due.is("an edge on the HULL's", ties.candidate(0, 0, 8, 0), 1);
        due.is("again", ties.again(), 1);
        chosen("8 up", ties, 16, 192, 0);
    }

    /** A steep slur, whose POINT 1 lies under the line of the ENDS: there a higher arch leaves room. */
    private static void firstOfLikeOnes() {
        CurveTies ties = new CurveTies();
        ties.line(100);
        ties.note(0, 0, 100, false);
        ties.note(0, 15, -100, false);
        ties.slur(0, 1);
        ties.mark(0, 2, 62, 1, 1);
        for (int k : new int[] {0, 1, 8}) {
            due.is("meets by candidate " + k, ties.candidate(0, 0, k, 0), 1);
        }
        for (int k : new int[] {2, 9}) {
            due.is("meets by candidate " + k, ties.candidate(0, 0, k, 0), 0);
            due.is("badness of candidate " + k, ties.candidate(0, 0, k, 2), 64);
        }
        due.is("again", ties.again(), 1);
        chosen("the first of like ones", ties, 2, 64, 0);
    }

    private static void worseOnesLater() {
        CurveTies ties = slurAbove();
        ties.mark(0, 139, 1, 2, 7);
        // candidates 0 to 15 meet it, 16 is the first that does not
        due.is("again", ties.again(), 1);
        chosen("16 before worse ones", ties, 16, 192, 0);
    }

    private static void collidingAndBack() {
        CurveTies ties = slurAbove();
        ties.mark(0, 139, 1, 2, 11);
        due.is("candidate 16 has its edge on it", ties.candidate(0, 0, 16, 0), 1);
        due.is("again", ties.again(), 1);
        chosen("all meet it", ties, 23, 976, 1);
        due.is("count(5)", ties.count(5), 1);
        due.is("again, still", ties.again(), 0);
        due.is("a further slur", ties.slur(0, 1), 1);
        due.is("it collides, too", ties.part(1, 0, 3), 1);
        due.is("count(5)", ties.count(5), 2);
    }

    /** The outer one is chosen by where the inner one lies anew, not by where it was. */
    private static void innerFirst() {
        CurveTies ties = new CurveTies();
        ties.line(1000);
        ties.note(0, 120, 0, false);
        ties.note(0, 140, 0, false);
        due.is("inner", ties.slur(0, 1), 0);
        due.points("inner", ties, 0, 0, 120, 4, 125, 10, 135, 10, 140, 4);
        due.is("outer", ties.slur(0, 1), 1);
        due.is("outer chosen, 8 up", ties.part(1, 0, 1), 16);
        ties.mark(0, 125, 0, 5, 5);
        due.is("the outer one would stay", ties.candidate(1, 0, 16, 1), 0);
        due.is("again: the inner one goes up, and so the outer one", ties.again(), 2);
        due.is("inner chosen anew", ties.part(0, 0, 1), 8);
        due.is("the outer one can't stay", ties.candidate(1, 0, 16, 1), 1);
        due.is("outer chosen anew", ties.part(1, 0, 1), 23);
        due.is("it collides", ties.part(1, 0, 3), 1);
        due.is("the inner one does not", ties.part(0, 0, 3), 0);
    }

    private static void bothParts() {
        CurveTies ties = new CurveTies();
        ties.line(200);
        ties.line(200);
        ties.note(0, 100, 0, false);
        ties.note(1, 100, 0, false);
        ties.slur(0, 1);
        ties.mark(0, 150, 0, 5, 5);
        ties.mark(1, 50, 0, 5, 5);
        due.is("both parts anew", ties.again(), 2);
        due.is("part 0", ties.part(0, 0, 1), 8);
        due.is("part 1", ties.part(0, 1, 1), 8);
        ties.mark(1, 50, -200, 5, 200);
        due.is("nothing new there", ties.again(), 0);
        ties.mark(1, 50, 0, 5, 200);
        due.is("part 1 alone", ties.again(), 1);
        due.is("part 0 lies free", ties.part(0, 0, 3), 0);
        due.is("part 1 collides", ties.part(0, 1, 3), 1);
    }

    /** A tie with the side of a slur around it: the slur goes up until they lie apart. */
    private static void hullsApart() {
        CurveTies ties = new CurveTies();
        ties.line(400);
        ties.note(0, 100, 0, false);
        ties.note(0, 112, 0, false);
        due.is("tie", ties.tie(0, 1), 0);
        due.points("tie", ties, 0, 0, 103, 2, 104, 6, 108, 6, 109, 2);
        due.is("slur", ties.slur(0, 1), 1);
        due.is("candidate 0 meets the tie", ties.candidate(1, 0, 0, 1), 1);
        due.is("candidate 8 lies apart", ties.candidate(1, 0, 8, 1), 0);
        due.is("slur chosen", ties.part(1, 0, 1), 8);
        due.is("the tie is within", ties.within(0, 0, 1, 0), 1);
        due.is("not the other way", ties.candidate(0, 0, 0, 1), 0);
        due.is("no bars", ties.candidate(1, 0, 0, 0), 0);
    }
}
