/** What can be seen of an object without changing it, as texts that can be held against one another. */
final class Tell {
    private Tell() {
    }

    /** All that look() tells of a HALL. */
    static String look(ChaseHall x, int h) {
        StringBuilder all = new StringBuilder("look");
        for (int what = 0; what <= 7; what++) {
            all.append(' ').append(x.look(h, what));
        }
        return all.toString();
    }

    /** A HALL: its numbers, ROWS, STEPS, who made its ROWS, and what its RULES say. */
    static String hall(ChaseHall x, int h) {
        StringBuilder all = new StringBuilder(look(x, h));
        all.append("; rows ").append(Check.rows(x, h)).append("; steps");
        for (int i = 0; i < x.look(h, 6); i++) {
            all.append(" (").append(Check.step(x, h, i)).append(')');
        }
        all.append("; by");
        for (int number = 0; number < x.look(h, 3); number++) {
            all.append(' ').append(x.by(h, number));
        }
        all.append("; rules");
        for (int r = 0; r < x.look(h, 1); r++) {
            all.append(' ').append(x.hits(h, r)).append('/').append(x.holds(h, r));
        }
        return all.append("; ends ").append(x.ends(h)).toString();
    }

    /** What is kept beside the HALLS: the latest FAULT, the latest LEAD and the latest ANSWERS. */
    static String beside(ChaseHall x) {
        StringBuilder all = new StringBuilder("fault ");
        all.append(x.fault(0)).append(' ').append(x.fault(1)).append("; stands");
        for (int n = 0; n < 4; n++) {
            all.append(' ').append(x.stands(n));
        }
        all.append("; answers");
        for (int i = 0; i < 3; i++) {
            all.append(' ').append(x.answer(i, 0)).append(',').append(x.answer(i, 1));
        }
        return all.toString();
    }
}
