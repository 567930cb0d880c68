import java.util.NoSuchElementException;

/** What all calls have in common: halls that are none, refused calls, memory, and NONE. */
final class RefusedCalls extends Check {
    private static final int NONE = ChaseHall.NONE;
    private static final int[] NO_HALLS = {-1, 3, Integer.MIN_VALUE, Integer.MAX_VALUE};

    private RefusedCalls() {
    }

    static void all() {
        noSuchHall();
        refusedThrow();
        refusedAnswer();
        ownMemory();
        none();
    }

    private interface OfHall {
        void call(ChaseHall x, int h);
    }

    private static final String[] NAMES = {"4 load(h)", "6 copy(h, 0)", "6 copy(0, h)", "7 look(h, 0)", "8 row(h, 0, 0)",
        "9 put(h, 0, 7, 7, 7)", "10 strike(h, 0)", "11 run(h, 100)", "12 step(h, 0, 0)", "13 by(h, 0)", "14 holds(h, 0)",
        "15 hit(h, 0, 0)", "16 hits(h, 0)", "17 leads(h, 0)", "17 leads(0, h)", "19 core(h)", "20 ask(h)",
        "22 follows(h)", "23 ends(h)", "24 rank(h, 0, 0)", "25 columns(h, 0)"};
    private static final OfHall[] CALLS = {
        (x, h) -> x.load(h), (x, h) -> x.copy(h, 0), (x, h) -> x.copy(0, h), (x, h) -> x.look(h, 0),
        (x, h) -> x.row(h, 0, 0), (x, h) -> x.put(h, 0, 7, 7, 7), (x, h) -> x.strike(h, 0), (x, h) -> x.run(h, 100),
        (x, h) -> x.step(h, 0, 0), (x, h) -> x.by(h, 0), (x, h) -> x.holds(h, 0), (x, h) -> x.hit(h, 0, 0),
        (x, h) -> x.hits(h, 0), (x, h) -> x.leads(h, 0), (x, h) -> x.leads(0, h), (x, h) -> x.core(h),
        (x, h) -> x.ask(h), (x, h) -> x.follows(h), (x, h) -> x.ends(h), (x, h) -> x.rank(h, 0, 0),
        (x, h) -> x.columns(h, 0)};

    /** An object on whose state each call could leave a trace: a text of 10 bytes is on its tape. */
    private static ChaseHall busy() {
        ChaseHall x = loaded("table A 1;table B 2;row A(1);row A(?0);rule A(x)->B(x,y);rule A(x)->x=1;");
        x.run(0, 2);
        x.copy(0, 1);
        x.leads(0, 1);
        ask(x, 0, "A(x)->x;");
        load(x, 2, "table A 5;");
        write(x, "table Q 3;");
        return x;
    }

    private static String all(ChaseHall x) {
        return Tell.hall(x, 0) + " / " + Tell.hall(x, 1) + " / " + Tell.hall(x, 2) + " / " + Tell.beside(x);
    }

    private static void noSuchHall() {
        for (int n = 0; n < CALLS.length; n++) {
            String name = NAMES[n];
            OfHall call = CALLS[n];
            term(Integer.parseInt(name.substring(0, name.indexOf(' '))), "Terms IV",
                    "IndexOutOfBoundsException: no such HALL.");
            for (int h : NO_HALLS) {
                ChaseHall x = loaded("table A 1;row A(1);rule A(x)->A(x);");
                refusesHall(name + " of hall " + h, () -> call.call(x, h));
            }
            for (int h = 0; h <= 2; h++) {
                ChaseHall x = loaded("table A 1;row A(1);rule A(x)->A(x);");
                x.copy(0, 1);
                x.copy(0, 2);
                call.call(x, h);
            }
        }
    }

    private static void refusedThrow() {
        for (int n = 0; n < CALLS.length; n++) {
            String name = NAMES[n];
            OfHall call = CALLS[n];
            term(Integer.parseInt(name.substring(0, name.indexOf(' '))), "Terms IV", "a call that is refused changes nothing.");
            for (int h : NO_HALLS) {
                ChaseHall x = busy();
                refusesHall(name + " of hall " + h, () -> call.call(x, h));
                sameText(name + " changes nothing", all(busy()), all(x));
                no("the tape is no longer", x.end(11));
                yes("nor shorter", x.end(10));
                same("nor another one", 0, x.load(2));
                same("it is read now", 3, x.columns(2, 16));
            }
        }
    }

    private static void refusedAnswer() {
        term(9, "Terms IV", "a call that is refused changes nothing.");
        ChaseHall x = busy();
        String before = all(x);
        same("put", NONE, x.put(0, 2, 1, 1, 1));
        same("put of no term", NONE, x.put(0, 1, 1050, 100, 1));
        no("strike", x.strike(0, 39));
        same("run", NONE, x.run(0, 101));
        no("end", x.end(11));
        try {
            same("columns", NONE, x.columns(0, 2));
        } catch (NoSuchElementException e) {
            yes("it throws", true);
        }
        sameText("none of these changes anything", before, all(x));
        same("the tape stays", 0, x.load(2));
        same("it is read now", 3, x.columns(2, 16));
    }

    private static void ownMemory() {
        term(1, "Terms IV", "All memory is the class's own;");
        ChaseHall x = busy();
        ChaseHall y = new ChaseHall();
        for (int h = 0; h <= 2; h++) {
            for (int what = 0; what <= 7; what++) {
                same("another object is empty: look " + what, 0, y.look(h, what));
            }
        }
        same("it has no fault", 0, y.fault(0));
        same("nor a lead", NONE, y.stands(0));
        same("nor answers", NONE, y.answer(0, 0));
        same("nor a tape", 20, y.feed(0, 0, 0, 0, 0));
        String before = all(x);
        y.end(0);
        load(y, 0, "table A 1;row A(3);row A(4);rule A(x)->x=3;");
        y.run(0, 100);
        ask(y, 0, "A(x)->x;");
        y.leads(0, 0);
        load(y, 1, "?");
        sameText("the first one stays", before, all(x));
    }

    private static void none() {
        term(1, "Terms IV", "The constants: `NONE = -1`: There is none.");
        same("NONE", -1, ChaseHall.NONE);
        same("it is what calls answer", -1, new ChaseHall().row(0, 0, 0));
    }
}
