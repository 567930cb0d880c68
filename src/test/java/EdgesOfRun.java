/** The edges of HITS, STEPS and runs: promises 11 to 16, and Terms II by them. */
final class EdgesOfRun extends Check {
    private static final int NONE = ChaseHall.NONE;
    private static final int[] FAR = {Integer.MIN_VALUE, -1000, 1000, Integer.MAX_VALUE};

    private EdgesOfRun() {
    }

    static void all() {
        oneRowForAtoms();
        numbersStand();
        variablesStand();
        orderOfHits();
        fulfilledByRows();
        fulfilledByMelting();
        neverFulfilled();
        holdsIfAll();
        turns();
        firstOpenHit();
        forbids();
        meltsValues();
        meltsIntoValue();
        meltsNameless();
        alikeGo();
        namesNew();
        namesLeast();
        comesInOrder();
        ended();
        spentSteps();
        spentRows();
        spentNumbers();
        spentNameless();
        stateStays();
        stateGoes();
        runSteps();
        runOtherNumber();
        stepParts();
        stepMelted();
        stepFailed();
        stepNone();
        byStep();
        byNone();
        holdsRule();
        holdsNone();
        hitRows();
        hitNone();
        hitsCount();
        hitsNone();
    }

    /** The ROWS of the first HIT of a RULE that is not FULFILLED. */
    private static String open(ChaseHall x, int r) {
        return x.hit(0, r, 0) + " " + x.hit(0, r, 1) + " " + x.hit(0, r, 2);
    }

    /** The RULES of all STEPS of the latest run. */
    private static String turnsOf(ChaseHall x) {
        StringBuilder all = new StringBuilder();
        for (int i = 0; i < x.look(0, 6); i++) {
            all.append(i == 0 ? "" : " ").append(x.step(0, i, 0));
        }
        return all.toString();
    }

    private static void oneRowForAtoms() {
        term(16, "Terms II", "A HIT of a RULE: a ROW for each ATOM ahead of -> (several ATOMS may have one), of its TABLE,");
        ChaseHall x = loaded("table A 1;table B 1;row A(1);rule A(x)->false;rule A(x),A(y)->false;"
                + "rule A(x),A(y),A(z)->false;rule A(x),B(y)->false;rule B(x)->false;");
        int[] one = {1, 1, 1, 0, 0};
        for (int r = 0; r < 5; r++) {
            same("one row, rule " + r, one[r], x.hits(0, r));
        }
        sameText("it stands for all three", "0 0 0", open(x, 2));
        x.put(0, 1, 1, 0, 0);
        x.put(0, 0, 2, 0, 0);
        int[] three = {2, 4, 8, 2, 1};
        for (int r = 0; r < 5; r++) {
            same("two rows and one, rule " + r, three[r], x.hits(0, r));
        }
    }

    private static void numbersStand() {
        term(16, "Terms II", "so that a NUMBER stands where that VALUE does");
        ChaseHall x = loaded("table A 1;row A(0);row A(99);row A(?0);row A(?99);row A(3);rule A(0)->false;"
                + "rule A(99)->false;rule A(1)->false;rule A(03)->false;rule A(0),A(99)->false;");
        int[] want = {1, 1, 0, 1, 1};
        for (int r = 0; r < 5; r++) {
            same("rule " + r, want[r], x.hits(0, r));
        }
        same("the value, not the nameless one", 0, x.hit(0, 0, 0));
        same("99", 1, x.hit(0, 1, 0));
    }

    private static void variablesStand() {
        term(16, "Terms II", "and one VARIABLE where TERMS are alike.");
        ChaseHall x = loaded("table A 2;row A(3,3);row A(3,?3);row A(?3,?3);row A(?3,4);row A(4,?5);"
                + "rule A(x,x)->false;rule A(x,y),A(y,x)->false;rule A(x,y),A(y,z)->false;rule A(a,a),A(a,z)->false;");
        int[] want = {2, 2, 7, 4};
        for (int r = 0; r < 4; r++) {
            same("rule " + r, want[r], x.hits(0, r));
        }
    }

    private static void orderOfHits() {
        term(15, "Terms II", "HITS are ordered by the greatest number of their ROWS, then by the numbers ATOM by ATOM.");
        ChaseHall x = loaded("table A 1;table B 1;row A(1);row A(2);row A(3);row B(1);rule A(x),A(y)->x=y;"
                + "rule A(x),A(y),B(z)->x=y;rule B(z),A(x),A(y)->y=2;rule A(x),A(y),A(z)->B(z);");
        sameText("0 1 ahead of 1 0", "0 1 -1", open(x, 0));
        sameText("the greatest is 3 for all", "0 1 3", open(x, 1));
        sameText("atom by atom from the first", "3 0 0", open(x, 2));
        sameText("the greatest is 1 ahead of 2", "0 0 1", open(x, 3));
        x.strike(0, 0);
        sameText("without row 0", "1 2 -1", open(x, 0));
        x.put(0, 0, 1, 0, 0);
        sameText("a row that came late", "1 2 -1", open(x, 0));
        sameText("is behind in all orders", "3 1 2", open(x, 2));
        ChaseHall z = loaded("table A 2;row A(1,3);row A(2,2);row A(3,9);row A(9,1);rule A(x,y),A(y,z)->false;"
                + "rule A(1,x),A(y,x)->A(x,x);rule A(x,y),A(y,z),A(z,w)->false;");
        sameText("1 1 ahead of 0 2", "1 1 -1", open(z, 0));
        sameText("1 1 1 ahead of 0 2 3", "1 1 1", open(z, 2));
        z.strike(0, 1);
        sameText("0 2 then", "0 2 -1", open(z, 0));
        sameText("0 2 3 then", "0 2 3", open(z, 2));
        ChaseHall y = loaded("table A 1;row A(5);row A(6);row A(7);rule A(x),A(y),A(7)->x=y;rule A(7),A(x),A(y)->x=5;");
        sameText("first atom, then second", "0 1 2", open(y, 0));
        sameText("second atom, then third", "2 1 0", open(y, 1));
    }

    private static void fulfilledByRows() {
        term(14, "Terms II", "One is FULFILLED: of a RULE that makes ROWS: if some TERMS for the NEW VARIABLES "
                + "make its ATOMS ROWS that are there;");
        ChaseHall x = loaded("table A 1;table B 2;row A(1);row B(1,?0);row B(2,3);row B(1,5);row B(5,6);"
                + "rule A(x)->B(x,y);rule A(x)->B(y,x);rule A(x)->B(x,y),B(y,z);rule A(x)->B(x,y),B(y,x);"
                + "rule A(x)->A(x);rule A(x)->B(y,y);rule A(x)->B(2,y),B(5,z),A(1);rule A(x)->B(x,5),A(y);");
        int[] want = {1, 0, 1, 0, 1, 0, 1, 1};
        for (int r = 0; r < 8; r++) {
            same("rule " + r, want[r], x.holds(0, r));
        }
        x.put(0, 1, 1000, 1000, 0);
        same("a nameless one is a term, too", 1, x.holds(0, 5));
    }

    private static void fulfilledByMelting() {
        term(14, "Terms II", "that MELTS: if its two TERMS are alike;");
        ChaseHall x = loaded("table A 2;row A(3,3);row A(?3,?3);rule A(x,y)->x=y;rule A(x,3)->x=3;rule A(x,y)->x=3;"
                + "rule A(x,y)->4=4;rule A(x,y)->3=4;rule A(x,y)->x=x;");
        int[] want = {1, 1, 0, 1, 0, 1};
        for (int r = 0; r < 6; r++) {
            same("rule " + r, want[r], x.holds(0, r));
        }
        x.put(0, 0, 3, 1003, 0);
        same("a value and a nameless one are not", 0, x.holds(0, 0));
        same("its row", 2, x.hit(0, 0, 0));
    }

    private static void neverFulfilled() {
        term(14, "Terms II", "never if it FORBIDS.");
        ChaseHall x = loaded("table A 1;row A(1);rule A(x)->false;rule A(2)->false;");
        same("one hit is one too many", 0, x.holds(0, 0));
        same("its row", 0, x.hit(0, 0, 0));
        same("no hit", 1, x.holds(0, 1));
    }

    private static void holdsIfAll() {
        term(14, "Terms II", "A RULE HOLDS if all its HITS are FULFILLED.");
        ChaseHall x = loaded("table A 1;table B 1;rule A(x)->B(x);rule A(x)->x=0;rule A(x)->false;");
        for (int r = 0; r < 3; r++) {
            same("no rows, so no hits: rule " + r, 1, x.holds(0, r));
        }
        for (int n = 0; n < 20; n++) {
            x.put(0, 0, n, 0, 0);
            same("one is not", 0, x.holds(0, 0));
            x.put(0, 1, n, 0, 0);
            same("all are", 1, x.holds(0, 0));
        }
        same("the first is, the others are not", 0, x.holds(0, 1));
        same("the second of them", 2, x.hit(0, 1, 0));
    }

    private static void turns() {
        term(11, "Terms II", "A STEP: of the RULES from the one behind that of the STEP ahead on "
                + "(the first one behind the last one; from the first one at first),");
        ChaseHall x = loaded("table A 1;table B 1;table C 1;row A(1);row A(2);row A(3);rule A(x)->B(x);rule A(x)->C(x);");
        same("run", 1, x.run(0, 100));
        sameText("round and round", "0 1 0 1 0 1", turnsOf(x));
        x = loaded("table A 2;row A(1,2);rule A(9,9)->false;rule A(x,y)->A(y,z);rule A(9,9)->false;");
        x.run(0, 4);
        sameText("one rule after itself", "1 1 1 1", turnsOf(x));
        x.strike(0, 4);
        x.run(0, 1);
        sameText("again", "1", turnsOf(x));
        StringBuilder ten = new StringBuilder("table A 1;table B 2;row A(1);row A(2);");
        for (int r = 0; r < 10; r++) {
            ten.append("rule A(x)->B(x,").append(r).append(");");
        }
        x = loaded(ten.toString());
        x.run(0, 12);
        sameText("ten rules and on", "0 1 2 3 4 5 6 7 8 9 0 1", turnsOf(x));
        x.run(0, 3);
        sameText("a new run starts with the first that has one", "2 3 4", turnsOf(x));
        x.put(0, 0, 3, 0, 0);
        x.run(0, 2);
        sameText("from the first one at first", "0 1", turnsOf(x));
    }

    private static void firstOpenHit() {
        term(11, "Terms II", "the first that has a HIT that is not FULFILLED, with its first such HIT.");
        ChaseHall x = loaded("table A 1;table B 1;row A(1);row A(2);row B(1);row A(3);rule A(x)->A(x);rule A(x)->B(x);");
        x.run(0, 2);
        sameText("not the fulfilled rule, nor the fulfilled hit", "1 1 1 -1 -1 -1 -1", step(x, 0, 0));
        sameText("then the next hit", "1 1 3 -1 -1 -1 -1", step(x, 0, 1));
        x = loaded("table A 1;table B 2;row A(1);row A(2);rule A(x),A(y)->B(x,y);");
        x.run(0, 4);
        sameText("0 0", "0 1 0 0 -1 -1 -1", step(x, 0, 0));
        sameText("0 1", "0 1 0 1 -1 -1 -1", step(x, 0, 1));
        sameText("1 0", "0 1 1 0 -1 -1 -1", step(x, 0, 2));
        sameText("1 1", "0 1 1 1 -1 -1 -1", step(x, 0, 3));
    }

    private static void forbids() {
        term(11, "Terms II", "It FORBIDS: the run FAILED (that was a STEP).");
        ChaseHall x = loaded("table A 1;table B 1;row A(1);rule A(x)->B(x);rule B(x)->false;rule B(x)->B(7);");
        same("failed", 2, x.run(0, 100));
        same("two steps", 2, x.look(0, 6));
        sameText("the second", "1 0 1 -1 -1 -1 -1", step(x, 0, 1));
        sameText("what was made stays", "0A(1) 1B(1)", rows(x, 0));
        same("again", 2, x.run(0, 1));
        same("one step of one", 1, x.look(0, 6));
        same("none of none", 3, x.run(0, 0));
    }

    private static void meltsValues() {
        term(11, "Terms II", "It MELTS: two VALUES: the run FAILED;");
        ChaseHall x = loaded("table A 2;row A(0,99);row A(?1,99);rule A(x,y)->x=y;");
        same("failed", 2, x.run(0, 100));
        same("that was a step", 1, x.look(0, 6));
        sameText("nothing melted", "0A(0,99) 1A(1001,99)", rows(x, 0));
        x = loaded("table A 2;row A(5,5);rule A(x,y)->x=y;");
        same("alike ones do not", 1, x.run(0, 100));
        same("no step", 0, x.look(0, 6));
    }

    private static void meltsIntoValue() {
        term(11, "Terms II", "a NAMELESS one and a VALUE: that one becomes the VALUE in all ROWS;");
        ChaseHall x = loaded("table A 2;table B 3;row B(?0,?1,?0);row A(?0,99);row A(?1,0);rule A(x,y)->x=y;");
        same("run", 1, x.run(0, 2));
        sameText("left and in all tables", "0B(99,0,99) 1A(99,99) 2A(0,0)", rows(x, 0));
        x = loaded("table A 2;table B 3;row B(?0,?99,?0);row A(0,?99);rule A(x,y)->x=y;");
        same("run", 1, x.run(0, 1));
        sameText("right, and the greatest one", "0B(1000,0,1000) 1A(0,0)", rows(x, 0));
        x = loaded("table A 1;row A(?7);rule A(x)->7=x;");
        same("run", 1, x.run(0, 1));
        sameText("a number in the head", "0A(7)", rows(x, 0));
        same("it was there", 0, x.look(0, 7));
        same("it is there no more", 0, x.look(0, 4));
    }

    private static void meltsNameless() {
        term(11, "Terms II", "two NAMELESS ones: the greater becomes the lesser;");
        ChaseHall x = loaded("table A 2;table B 1;row A(?99,?0);row B(?99);rule A(x,y)->x=y;");
        same("run", 1, x.run(0, 1));
        sameText("99 becomes 0", "0A(1000,1000) 1B(1000)", rows(x, 0));
        x = loaded("table A 2;table B 1;row A(?1,?2);row B(?2);row B(?1);rule A(x,y)->x=y;");
        same("run", 1, x.run(0, 1));
        sameText("2 becomes 1", "0A(1001,1001) 1B(1001)", rows(x, 0));
    }

    private static void alikeGo() {
        term(11, "Terms II", "of ROWS that are alike then those with greater numbers go.");
        ChaseHall x = loaded("table A 2;row A(?5,1);row A(2,1);row A(?6,1);row A(2,?5);row A(2,2);"
                + "rule A(x,1)->x=2;");
        same("run", 1, x.run(0, 2));
        sameText("the least number stays", "0A(2,1) 3A(2,2)", rows(x, 0));
        same("numbers do not come again", 5, x.look(0, 3));
        x = loaded("table A 1;table B 1;row A(1);row B(?0);row A(?0);rule B(x)->x=1;");
        same("run", 1, x.run(0, 1));
        sameText("of one table alone", "0A(1) 1B(1)", rows(x, 0));
        x = loaded("table A 2;rule A(x,y),A(z,w)->x=z;");
        for (int n = 0; n < 40; n++) {
            x.put(0, 0, 1040 - n, 8, 0);
        }
        same("40 become one", 1, x.run(0, 39));
        sameText("the first of them, and the least term", "0A(1001,8)", rows(x, 0));
    }

    private static void namesNew() {
        term(11, "Terms II", "It makes ROWS: the NEW VARIABLES get NAMELESS ones, by letters as they stand first behind ->,");
        ChaseHall x = loaded("table A 1;table B 3;row A(5);rule A(x)->B(z,x,y),B(y,a,z),B(b,b,x);");
        same("run", 1, x.run(0, 1));
        sameText("z, y, a, b", "0A(5) 1B(1000,5,1001) 2B(1001,1002,1000) 3B(1003,1003,5)", rows(x, 0));
        x = loaded("table A 1;table B 3;row A(5);rule A(x)->B(i,h,g),B(f,e,d),B(c,b,a);");
        x.run(0, 1);
        sameText("nine of them", "0A(5) 1B(1000,1001,1002) 2B(1003,1004,1005) 3B(1006,1007,1008)", rows(x, 0));
    }

    private static void namesLeast() {
        term(11, "Terms II", "the least numbers that never were in the HALL;");
        ChaseHall x = loaded("table A 1;table B 3;row A(?1);row A(?4);row A(?0);rule A(7)->B(x,y,z);rule A(x)->x=9;");
        x.strike(0, 2);
        same("melt all", 1, x.run(0, 100));
        same("none is there", 0, x.look(0, 4));
        x.put(0, 0, 7, 0, 0);
        same("fails by 7 and 9", 2, x.run(0, 100));
        same("2, of 0, 1 and 4 that were", 1002, x.row(0, 2, 2));
        same("3", 1003, x.row(0, 2, 3));
        same("5", 1005, x.row(0, 2, 4));
        same("6 is next", 6, x.look(0, 7));
        x = loaded("table A 1;table B 1;row A(?0);row A(1);rule A(1)->B(x);");
        x.core(0);
        same("the core is one row", 1, x.look(0, 2));
        x.run(0, 100);
        same("one that went by core() was there", 1001, x.row(0, 1, 2));
    }

    private static void comesInOrder() {
        term(11, "Terms II", "its ATOMS come as ROWS in their order (those that are not there).");
        ChaseHall x = loaded("table A 1;table B 1;table C 1;row A(5);row B(6);rule A(x)->C(x),B(6),A(7);");
        same("run", 1, x.run(0, 2));
        sameText("two of three", "0A(5) 1B(6) 2C(5) 3A(7) 4C(7)", rows(x, 0));
        same("made", 2, x.step(0, 0, 1));
        x = loaded("table A 1;table B 1;row A(5);rule A(x)->B(x),B(5),B(y);");
        same("run", 1, x.run(0, 1));
        sameText("alike ones come once", "0A(5) 1B(5) 2B(1000)", rows(x, 0));
        same("made", 2, x.step(0, 0, 1));
        x = loaded("table A 1;table C 3;row A(5);rule A(x)->C(1,1,2),C(1,2,2),C(2,2,2);rule A(x)->C(7,7,8),C(7,7,7),C(7,8,8);"
                + "rule A(x)->C(1,2,3),C(3,2,1),C(1,2,3);");
        same("run", 1, x.run(0, 3));
        same("all that differ in one term", 9, x.look(0, 2));
        sameText("how many came", "3 3 2", x.step(0, 0, 1) + " " + x.step(0, 1, 1) + " " + x.step(0, 2, 1));
    }

    private static void ended() {
        term(11, "Terms II", "A run ends: ENDED, if all RULES HOLD;");
        ChaseHall x = new ChaseHall();
        same("an empty hall", 1, x.run(0, 0));
        same("with steps", 1, x.run(0, 100));
        load(x, 0, "table A 1;row A(1);");
        same("no rules", 1, x.run(0, 0));
        load(x, 0, "table A 1;rule A(x)->false;");
        same("no rows", 1, x.run(0, 0));
        load(x, 0, "table A 1;row A(1);rule A(x)->A(x);rule A(2)->false;");
        same("all hold, no step is needed", 1, x.run(0, 0));
        same("no step", 0, x.look(0, 6));
        load(x, 0, "table A 1;table B 1;row A(1);rule A(x)->B(x);");
        same("the last step was the last one that it may", 1, x.run(0, 1));
    }

    private static void spentSteps() {
        term(11, "Terms II", "FAILED; SPENT, if a STEP would be one more than it may,");
        ChaseHall x = loaded(LongRuns.HUNDRED_STEPS);
        same("99 of 100", 3, x.run(0, 99));
        same("99 steps", 99, x.look(0, 6));
        same("one more is needed", 1, x.run(0, 1));
        x = loaded(LongRuns.HUNDRED_STEPS);
        same("100 of 100", 1, x.run(0, 100));
        same("100 steps", 100, x.look(0, 6));
        x = loaded(LongRuns.HUNDRED_STEPS + LongRuns.ONE_STEP_MORE);
        same("100 of 101", 3, x.run(0, 100));
        same("100 steps, too", 100, x.look(0, 6));
        x = loaded("table A 1;row A(1);rule A(x)->false;");
        same("a step that fails is one more, too", 3, x.run(0, 0));
        same("no step", 0, x.look(0, 6));
        x = loaded("table A 1;row A(?1);rule A(x)->x=5;");
        same("one that melts, too", 3, x.run(0, 0));
        sameText("nothing melted", "0A(1001)", rows(x, 0));
    }

    private static void spentRows() {
        term(11, "Terms II", "or would need more ROWS than 40,");
        ChaseHall x = loaded("table A 1;table B 1;rule A(0)->B(50);rule A(0)->B(51),B(52),B(50);");
        for (int n = 0; n < 37; n++) {
            x.put(0, 0, n, 0, 0);
        }
        same("37 and 1 and 2", 1, x.run(0, 100));
        same("40 rows", 40, x.look(0, 2));
        same("two steps", 2, x.look(0, 6));
        load(x, 0, "table A 1;table B 1;rule A(0)->B(50);rule A(0)->B(51),B(y);");
        for (int n = 0; n < 38; n++) {
            x.put(0, 0, n, 0, 0);
        }
        same("38 and 1 and 2", 3, x.run(0, 100));
        same("the first step was made", 39, x.look(0, 2));
        same("and counts", 1, x.look(0, 6));
        same("nothing of the second", 39, x.look(0, 3));
        same("not even a nameless one", 0, x.look(0, 7));
        same("by none", NONE, x.by(0, 39));
        same("no second step", NONE, x.step(0, 1, 0));
    }

    private static void spentNumbers() {
        term(11, "Terms II", "one above 199,");
        ChaseHall x = loaded("table A 1;table B 1;rule A(1)->B(1);rule A(2)->B(2),B(y);");
        for (int n = 0; n < 198; n++) {
            x.put(0, 0, 9, 0, 0);
            x.strike(0, n);
        }
        x.put(0, 0, 1, 0, 0);
        same("number 199 may be", 1, x.run(0, 100));
        same("it came", 199, x.row(0, 1, 0));
        same("by step 0", 0, x.by(0, 199));
        x.strike(0, 199);
        same("number 200 may not", 3, x.run(0, 100));
        same("no step", 0, x.look(0, 6));
        same("one row", 1, x.look(0, 2));
        ChaseHall y = loaded("table A 1;table B 1;rule A(2)->B(2),B(y);");
        for (int n = 0; n < 198; n++) {
            y.put(0, 0, 9, 0, 0);
            y.strike(0, n);
        }
        y.put(0, 0, 2, 0, 0);
        same("199 and 200", 3, y.run(0, 100));
        same("neither came", 199, y.look(0, 3));
        same("nor a nameless one", 0, y.look(0, 7));
    }

    private static void spentNameless() {
        term(11, "Terms II", "or a NAMELESS one above 99 (it is not made).");
        String tables = "table A 3;table B 2;";
        ChaseHall x = loaded(tables + "rule A(0,0,0)->B(x,1);rule A(0,0,0)->B(y,2);rule A(0,0,0)->B(3,3);");
        useNameless(x, 33);
        x.put(0, 0, 0, 0, 0);
        same("99 may be, 100 may not", 3, x.run(0, 100));
        same("one step", 1, x.look(0, 6));
        same("its term", 1099, x.row(0, 1, 2));
        same("two rows", 2, x.look(0, 2));
        x = loaded(tables + "rule A(0,0,0)->B(x,1),B(y,2);");
        useNameless(x, 33);
        x.put(0, 0, 0, 0, 0);
        same("99 and 100", 3, x.run(0, 100));
        same("neither is made", 99, x.look(0, 7));
        same("no row", 1, x.look(0, 2));
        x = loaded(tables + "rule A(0,0,0)->B(0,1);");
        useNameless(x, 33);
        x.put(0, 0, 0, 0, 1099);
        x.put(0, 0, 0, 0, 0);
        same("all were there, and none is needed", 1, x.run(0, 100));
    }

    /** NAMELESS ones 0 to 3 * rows - 1 have been there. */
    private static void useNameless(ChaseHall x, int rows) {
        for (int n = 0; n < rows; n++) {
            x.put(0, 0, 1000 + 3 * n, 1001 + 3 * n, 1002 + 3 * n);
            x.strike(0, n);
        }
    }

    private static void stateStays() {
        term(11, "Terms II", "What a HALL's run came to stays its STATE,");
        ChaseHall x = loaded("table A 1;row A(1);row A(?2);rule A(x)->false;");
        x.run(0, 100);
        x.core(0);
        x.copy(0, 1);
        x.leads(0, 0);
        ask(x, 0, "A(x)->x;");
        follows(x, 0, "rule A(x)->A(x);");
        load(x, 0, "table B 1;row");
        x.put(0, 0, 1, 0, 0);
        x.put(0, 0, 100, 0, 0);
        x.strike(0, 7);
        x.run(0, 101);
        x.run(2, 100);
        same("it stays by all of these", 2, x.look(0, 5));
        same("it comes with a copy", 2, x.look(1, 5));
    }

    private static void stateGoes() {
        term(11, "Terms II", "till it is loaded anew, run again, or a ROW is put in or struck (0 then: not run).");
        ChaseHall x = loaded("table A 1;row A(1);");
        x.run(0, 0);
        load(x, 0, "table A 1;row A(1);");
        same("loaded anew", 0, x.look(0, 5));
        x.run(0, 0);
        x.put(0, 0, 2, 0, 0);
        same("a row is put in", 0, x.look(0, 5));
        x.run(0, 0);
        x.strike(0, 0);
        same("a row is struck", 0, x.look(0, 5));
        load(x, 0, "table A 1;row A(1);rule A(x)->false;");
        x.run(0, 0);
        same("spent", 3, x.look(0, 5));
        x.run(0, 1);
        same("run again", 2, x.look(0, 5));
    }

    private static void runSteps() {
        promise(11, "A run of at most so many STEPS (0 .. 100): its STATE.");
        ChaseHall x = loaded("table A 1;table B 1;row A(1);row A(2);rule A(x)->B(x);");
        same("0", 3, x.run(0, 0));
        same("1", 3, x.run(0, 1));
        same("one row came", 3, x.look(0, 2));
        same("100", 1, x.run(0, 100));
        same("one step was needed", 1, x.look(0, 6));
        x.put(0, 0, 3, 0, 0);
        same("99", 1, x.run(0, 99));
    }

    private static void runOtherNumber() {
        promise(11, "NONE for another number.");
        ChaseHall x = loaded("table A 1;table B 1;row A(1);row A(2);rule A(x)->B(x);");
        x.run(0, 1);
        String before = Tell.hall(x, 0);
        for (int steps : new int[] {-1, 101, Integer.MIN_VALUE, Integer.MAX_VALUE}) {
            same("run(0, " + steps + ")", NONE, x.run(0, steps));
        }
        sameText("nothing changed", before, Tell.hall(x, 0));
    }

    private static void stepParts() {
        promise(12, "STEP i of the latest run: what 0 its RULE, 1 how many ROWS it made, 2 .. 4 the ROWS of its HIT (numbers),");
        ChaseHall x = loaded("table A 1;table B 1;row A(9);row A(1);row A(2);rule B(x)->B(x);"
                + "rule A(x),A(2),A(1)->B(x),B(y),B(7);rule A(1),A(2)->B(8);rule A(2)->B(6);");
        x.strike(0, 0);
        same("run", 1, x.run(0, 100));
        sameText("three atoms, three rows made", "1 3 1 2 1 -1 -1", step(x, 0, 0));
        sameText("two atoms", "2 1 1 2 -1 -1 -1", step(x, 0, 1));
        sameText("one atom", "3 1 2 -1 -1 -1 -1", step(x, 0, 2));
        sameText("two of three rows made", "1 2 2 2 1 -1 -1", step(x, 0, 3));
        x.strike(0, 2);
        sameText("it stays when its row is struck", "3 1 2 -1 -1 -1 -1", step(x, 0, 2));
        x.run(0, 100);
        same("of the latest run alone", NONE, x.step(0, 0, 0));
        ChaseHall y = loaded(LongRuns.HUNDRED_STEPS + LongRuns.ONE_STEP_MORE);
        y.run(0, 100);
        yes("the last of 100", y.step(0, 99, 0) != NONE);
        same("none behind it", NONE, y.step(0, 100, 0));
    }

    private static void stepMelted() {
        promise(12, "5, 6 the TERMS it melted, the one that went first (as in row(); of two VALUES by which it FAILED these, "
                + "as in its HEAD; NONE of others).");
        ChaseHall x = loaded("table A 2;row A(?9,?3);row A(0,?3);row A(99,0);rule A(x,y)->x=y;");
        same("run", 2, x.run(0, 100));
        sameText("9 went", "0 0 0 -1 -1 1009 1003", step(x, 0, 0));
        sameText("3 went", "0 0 1 -1 -1 1003 0", step(x, 0, 1));
        sameText("two values as in the head", "0 0 2 -1 -1 99 0", step(x, 0, 2));
        x = loaded("table A 2;row A(99,0);rule A(x,y)->y=x;");
        x.run(0, 100);
        sameText("the other way", "0 0 0 -1 -1 0 99", step(x, 0, 0));
        x = loaded("table A 2;row A(1,?0);rule A(x,y)->A(y,x);rule A(x,y)->false;");
        x.run(0, 100);
        sameText("none of one that makes rows", "0 1 0 -1 -1 -1 -1", step(x, 0, 0));
        sameText("none of one that forbids", "1 0 0 -1 -1 -1 -1", step(x, 0, 1));
    }

    private static void stepFailed() {
        promise(12, "A STEP by which it FAILED is one, too (1: 0).");
        ChaseHall x = loaded("table A 1;row A(1);rule A(x)->false;");
        x.run(0, 1);
        same("forbidden: its rule", 0, x.step(0, 0, 0));
        same("forbidden: rows made", 0, x.step(0, 0, 1));
        same("forbidden: its row", 0, x.step(0, 0, 2));
        x = loaded("table A 1;row A(1);rule A(2)->false;rule A(x)->x=2;");
        x.run(0, 1);
        same("two values: its rule", 1, x.step(0, 0, 0));
        same("two values: rows made", 0, x.step(0, 0, 1));
        same("two values: one step", 1, x.look(0, 6));
    }

    private static void stepNone() {
        promise(12, "NONE if there is none such.");
        ChaseHall x = loaded("table A 1;table B 1;row A(1);rule A(x)->B(x);");
        same("not run", NONE, x.step(0, 0, 0));
        x.run(0, 100);
        for (int i : new int[] {-1, 1, 99, 100, Integer.MIN_VALUE, Integer.MAX_VALUE}) {
            same("step " + i, NONE, x.step(0, i, 0));
        }
        for (int what : new int[] {-1, 7, 8, Integer.MIN_VALUE, Integer.MAX_VALUE}) {
            same("what " + what, NONE, x.step(0, 0, what));
        }
        x.run(0, 0);
        for (int what = 0; what <= 6; what++) {
            same("a run without steps", NONE, x.step(0, 0, what));
        }
    }

    private static void byStep() {
        promise(13, "By which STEP of the latest run a ROW came (of its number, also of one that went);");
        ChaseHall x = loaded("table A 1;table B 2;row A(1);row A(2);rule A(x)->B(x,y),B(y,x);rule B(x,x)->x=7;"
                + "rule B(1,y)->y=1;");
        x.run(0, 2);
        same("two of step 0", 0, x.by(0, 2));
        same("both", 0, x.by(0, 3));
        same("row 3 is alike row 2 then", 3, x.look(0, 2));
        x.strike(0, 2);
        same("one that was struck", 0, x.by(0, 2));
        ChaseHall y = loaded(LongRuns.HUNDRED_STEPS + LongRuns.ONE_STEP_MORE);
        y.run(0, 100);
        for (int number = 3; number < y.look(0, 3); number++) {
            int by = y.by(0, number);
            yes("a row is by a step that made some", y.step(0, by, 1) > 0);
            yes("rows come step by step", by >= y.by(0, number - 1));
        }
    }

    private static void byNone() {
        promise(13, "NONE: by none.");
        ChaseHall x = loaded("table A 1;table B 1;row A(1);rule A(x)->B(x);");
        same("not run", NONE, x.by(0, 0));
        x.run(0, 100);
        same("by step 0", 0, x.by(0, 1));
        same("by the text", NONE, x.by(0, 0));
        same("put", 2, x.put(0, 0, 1002, 0, 0));
        same("by put()", NONE, x.by(0, 2));
        for (int number : new int[] {3, 199, 200, -1, Integer.MIN_VALUE, Integer.MAX_VALUE}) {
            same("there never was " + number, NONE, x.by(0, number));
        }
        x.run(0, 0);
        same("the latest run made none", NONE, x.by(0, 1));
        same("in an empty hall", NONE, x.by(1, 0));
    }

    private static void holdsRule() {
        promise(14, "Whether RULE r HOLDS: 1, 0;");
        ChaseHall x = loaded(tenRules());
        for (int r = 0; r < 10; r++) {
            same("rule " + r, r % 2, x.holds(0, r));
        }
    }

    /** Ten RULES of which those with odd numbers HOLD. */
    private static String tenRules() {
        StringBuilder text = new StringBuilder("table A 2;");
        for (int r = 0; r < 10; r++) {
            text.append("rule A(").append(r).append(",x)->").append(r % 2 == 0 ? "A(x,x)" : "A(x,y)").append(';');
        }
        return text.append("row A(0,1);row A(1,2);row A(2,3);row A(3,4);row A(4,5);row A(5,6);row A(6,7);")
                .append("row A(7,8);row A(8,9);row A(9,0);").toString();
    }

    private static void holdsNone() {
        promise(14, "NONE if there is none such.");
        noSuchRule((x, r) -> x.holds(0, r));
    }

    private interface OfRule {
        int answer(ChaseHall x, int r);
    }

    private static void noSuchRule(OfRule call) {
        ChaseHall none = loaded("table A 1;row A(1);");
        same("no rules", NONE, call.answer(none, 0));
        ChaseHall two = loaded("table A 1;row A(1);rule A(x)->false;rule A(x)->x=2;");
        yes("rule 1", call.answer(two, 1) != NONE);
        same("rule 2 of two", NONE, call.answer(two, 2));
        ChaseHall ten = loaded(tenRules());
        yes("rule 8", call.answer(ten, 8) != NONE);
        same("rule 10 of ten", NONE, call.answer(ten, 10));
        for (int r : FAR) {
            same("rule " + r, NONE, call.answer(ten, r));
        }
        same("rule -1", NONE, call.answer(ten, -1));
        load(two, 0, "table A 1;row A(1);rule A(x)->false;");
        same("a rule that the hall had", NONE, call.answer(two, 1));
    }

    private static void hitRows() {
        promise(15, "The ROW (number) for ATOM i of the first HIT of RULE r that is not FULFILLED;");
        ChaseHall x = loaded("table A 1;table B 1;row A(0);row A(1);row A(2);row B(1);"
                + "rule A(x)->B(x);rule A(x),B(y),A(z)->x=y;");
        x.strike(0, 0);
        same("a number, not a place", 2, x.hit(0, 0, 0));
        sameText("each atom", "2 3 1", open(x, 1));
        x.run(0, 1);
        same("fulfilled by a step", NONE, x.hit(0, 0, 0));
    }

    private static void hitNone() {
        promise(15, "NONE if there is none such.");
        noSuchRule((x, r) -> x.hit(0, r, 0));
        ChaseHall x = loaded("table A 1;row A(1);rule A(x)->false;rule A(x),A(y)->false;rule A(x)->A(x);"
                + "rule A(2)->false;rule A(x),A(y),A(z)->false;");
        same("atom 1 of one", NONE, x.hit(0, 0, 1));
        same("atom 1 of two", 0, x.hit(0, 1, 1));
        same("atom 2 of two", NONE, x.hit(0, 1, 2));
        same("atom 2 of three", 0, x.hit(0, 4, 2));
        same("atom 3 of three", NONE, x.hit(0, 4, 3));
        same("atom -1", NONE, x.hit(0, 0, -1));
        for (int i : FAR) {
            same("atom " + i, NONE, x.hit(0, 4, i));
        }
        same("all are fulfilled", NONE, x.hit(0, 2, 0));
        same("there are none", NONE, x.hit(0, 3, 0));
    }

    private static void hitsCount() {
        promise(16, "How many HITS RULE r has;");
        ChaseHall x = loaded("table A 1;rule A(x)->A(x);rule A(x),A(y)->x=y;rule A(x),A(y),A(z)->false;rule A(5),A(x)->A(x);");
        for (int r = 0; r < 4; r++) {
            same("none without rows", 0, x.hits(0, r));
        }
        for (int n = 0; n < 40; n++) {
            x.put(0, 0, n, 0, 0);
        }
        int[] want = {40, 1600, 64000, 40};
        for (int r = 0; r < 4; r++) {
            same("fulfilled or not, with 40 rows", want[r], x.hits(0, r));
        }
    }

    private static void hitsNone() {
        promise(16, "NONE if there is none such.");
        noSuchRule((x, r) -> x.hits(0, r));
    }
}
