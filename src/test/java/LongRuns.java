/** Texts whose runs go just to a bound of the document. */
final class LongRuns {
    /** What all TERMS but the keys melt into, told as RULES; each HIT that makes ROWS needs a STEP for each NEW one. */
    static final String RULES = "table P 1;table T 3;table U 3;table V 3;"
            + "rule P(x),P(y)->T(x,y,a),U(b,c,d),U(e,f,g);rule T(x,y,z)->z=0;"
            + "rule U(x,y,z)->x=0;rule U(x,y,z)->y=0;rule U(x,y,z)->z=0;"
            + "rule P(x)->V(x,a,b),U(c,d,e),U(f,g,h);rule V(x,y,z)->y=0;rule V(x,y,z)->z=0;rule P(x)->V(9,0,0);";
    /** The ROWS with which the RULES need 9 * (1 + 7) + 3 * (1 + 8) + 1 STEPS. */
    static final String HUNDRED_STEPS = RULES + "row P(1);row P(2);row P(3);";
    static final String ONE_STEP_MORE = "rule P(x)->V(8,0,0);";

    private LongRuns() {
    }
}
