/** Promises 11 to 16: run, step, by, holds, hit, hits. */
final class RunTest {
    private static final int NONE = ChaseHall.NONE;

    public static void main(String[] args) {
        promise11Turns();
        promise11Melts();
        promise11MeltsAll();
        promise11Fails();
        promise11SpentSteps();
        promise11SpentRoom();
        promise11SpentNumbers();
        promise11SpentNameless();
        promise11Makes();
        promise12Step();
        promise13By();
        promise14Holds();
        promise14SecondChoice();
        promise15Hit();
        promise15GreatestFirst();
        promise16Hits();
        Check.finish("RunTest");
    }

    private static void promise11Turns() {
        ChaseHall x = Check.loaded("table A 1;table B 1;table C 1;row A(1);row A(2);"
                + "rule A(x)->B(x);rule C(x)->false;rule A(x)->C(x);");
        Check.same("from the rule behind, round and round", 2, x.run(0, 100));
        Check.sameText("step 0", "0 1 0 -1 -1 -1 -1", Check.step(x, 0, 0));
        Check.sameText("step 1", "2 1 0 -1 -1 -1 -1", Check.step(x, 0, 1));
        Check.sameText("step 2", "0 1 1 -1 -1 -1 -1", Check.step(x, 0, 2));
        Check.sameText("step 3 fails", "1 0 3 -1 -1 -1 -1", Check.step(x, 0, 3));
        Check.same("steps", 4, x.look(0, 6));
        Check.same("a run again starts with the first rule", 2, x.run(0, 100));
        Check.same("and fails at once", 1, x.look(0, 6));
        Check.same("101 steps", NONE, x.run(0, 101));
        Check.same("-1 steps", NONE, x.run(0, -1));
        Check.same("the state stays", 2, x.look(0, 5));
        Check.same("the steps stay", 1, x.look(0, 6));
        Check.refusesHall("run(3, 1)", () -> x.run(3, 1));
        Check.same("a hall without rules", 1, x.run(1, 0));
    }

    private static void promise11Melts() {
        ChaseHall x = Check.loaded("table A 2;row A(?3,?1);row A(?1,?3);row A(?1,?1);rule A(x,y)->x=y;");
        Check.same("two nameless ones", 1, x.run(0, 1));
        Check.sameText("the greater becomes the lesser", "0A(1001,1001)", Check.rows(x, 0));
        Check.sameText("step", "0 0 0 -1 -1 1003 1001", Check.step(x, 0, 0));
        x = Check.loaded("table A 2;row A(7,?1);row A(?2,?1);row A(7,?2);rule A(7,y)->y=4;");
        Check.same("a nameless one and a value", 1, x.run(0, 2));
        Check.sameText("rows", "0A(7,4) 1A(4,4)", Check.rows(x, 0));
        Check.sameText("step 0", "0 0 0 -1 -1 1001 4", Check.step(x, 0, 0));
        Check.sameText("step 1", "0 0 2 -1 -1 1002 4", Check.step(x, 0, 1));
        x = Check.loaded("table A 1;row A(?0);rule A(x)->4=x;");
        Check.same("value on the left", 1, x.run(0, 1));
        Check.sameText("the nameless one goes", "0 0 0 -1 -1 1000 4", Check.step(x, 0, 0));
    }

    private static void promise11MeltsAll() {
        ChaseHall x = Check.loaded("table A 3;rule A(x,y,z),A(u,v,w)->x=u;");
        for (int n = 0; n < 40; n++) {
            x.put(0, 0, 1000 + n, 7, 1099);
        }
        Check.same("40 rows become one", 1, x.run(0, 39));
        Check.sameText("the first", "0A(1000,7,1099)", Check.rows(x, 0));
        Check.same("in 39 steps", 39, x.look(0, 6));
        Check.sameText("the last of them", "0 0 0 39 -1 1039 1000", Check.step(x, 0, 38));
        Check.same("numbers go on", 40, x.put(0, 0, 1, 1, 1));
    }

    private static void promise11Fails() {
        ChaseHall x = Check.loaded("table A 1;row A(5);rule A(x)->4=x;");
        Check.same("two values", 2, x.run(0, 100));
        Check.sameText("as in its head", "0 0 0 -1 -1 4 5", Check.step(x, 0, 0));
        Check.sameText("rows stay", "0A(5)", Check.rows(x, 0));
        Check.same("no step left", 3, x.run(0, 0));
        Check.same("not even one", 0, x.look(0, 6));
        x = Check.loaded("table A 1;row A(5);rule A(x)->3=4;");
        Check.same("two numbers", 2, x.run(0, 1));
        x = Check.loaded("table A 1;row A(5);rule A(x)->04=4;");
        Check.same("one number", 1, x.run(0, 1));
    }

    private static void promise11SpentSteps() {
        ChaseHall x = Check.loaded("table A 2;row A(1,2);rule A(x,y)->A(y,z);");
        Check.same("one step too few", 3, x.run(0, 3));
        Check.same("steps", 3, x.look(0, 6));
        Check.sameText("rows", "0A(1,2) 1A(2,1000) 2A(1000,1001) 3A(1001,1002)", Check.rows(x, 0));
        Check.same("goes on from there", 3, x.run(0, 1));
        Check.same("the latest run", 1, x.look(0, 6));
        Check.same("five rows", 5, x.look(0, 2));
        x = Check.loaded("table A 1;table B 1;row A(1);row A(2);rule A(x)->B(x);");
        Check.same("just enough", 1, x.run(0, 2));
        Check.same("nothing to do with 0", 1, x.run(0, 0));
    }

    private static void promise11SpentRoom() {
        ChaseHall x = Check.loaded("table A 1;table B 1;rule A(x)->B(x),B(y);");
        for (int n = 0; n < 38; n++) {
            x.put(0, 0, 5, 0, 0);
            x.put(0, 1, 60 + n, 0, 0);
        }
        Check.same("39 rows", 39, x.look(0, 2));
        Check.same("two more do not fit", 3, x.run(0, 100));
        Check.same("none is made", 39, x.look(0, 2));
        Check.same("no step", 0, x.look(0, 6));
        Check.same("no nameless one", 0, x.look(0, 7));
        x.strike(0, 1);
        Check.same("now they fit", 1, x.run(0, 100));
        Check.same("40 rows", 40, x.look(0, 2));
    }

    private static void promise11SpentNumbers() {
        ChaseHall x = Check.loaded("table A 1;table B 1;rule A(x)->B(x),B(7);");
        for (int n = 0; n < 197; n++) {
            x.put(0, 0, n % 100, 0, 0);
            x.strike(0, n);
        }
        x.put(0, 0, 1, 0, 0);
        x.put(0, 0, 2, 0, 0);
        Check.same("number 200 would be needed", 3, x.run(0, 100));
        Check.same("two rows stay", 2, x.look(0, 2));
        Check.same("next", 199, x.look(0, 3));
        x = Check.loaded("table A 1;table B 1;rule A(x)->B(x);");
        for (int n = 0; n < 199; n++) {
            x.put(0, 0, n % 100, 0, 0);
            x.strike(0, n - 1);
        }
        Check.same("number 199 is the last one", 1, x.run(0, 100));
        Check.same("by", 0, x.by(0, 199));
        Check.same("no number is left", NONE, x.put(0, 0, 1000, 0, 0));
    }

    private static void promise11SpentNameless() {
        ChaseHall x = Check.loaded("table A 3;table B 3;rule A(x,y,z)->B(u,v,w);");
        for (int n = 0; n < 33; n++) {
            x.put(0, 0, 1000 + 3 * n, 1001 + 3 * n, 1002 + 3 * n);
        }
        Check.same("99 is left", 99, x.look(0, 7));
        Check.same("three are needed", 3, x.run(0, 100));
        Check.same("none is made", 33, x.look(0, 2));
        Check.same("99 is left still", 99, x.look(0, 7));
        x = Check.loaded("table A 3;table B 1;rule A(x,y,z)->B(u);");
        for (int n = 0; n < 33; n++) {
            x.put(0, 0, 1000 + 3 * n, 1001 + 3 * n, 1002 + 3 * n);
        }
        Check.same("99 is given", 1, x.run(0, 100));
        Check.same("as the term", 1099, x.row(0, 33, 2));
    }

    private static void promise11Makes() {
        ChaseHall x = Check.loaded("table A 2;table B 3;row A(?1,4);row B(4,4,4);"
                + "rule A(x,y)->B(y,z,a),B(y,y,y),B(a,b,z);");
        Check.same("makes", 1, x.run(0, 100));
        Check.same("fulfilled by one row for all", 0, x.look(0, 6));
        x = Check.loaded("table A 2;table B 3;row A(?1,4);row B(4,4,4);"
                + "rule A(x,y)->B(x,z,a),B(y,y,y),B(a,b,z);");
        x.run(0, 100);
        Check.sameText("new ones as they stand first, the least that never were",
                "0A(1001,4) 1B(4,4,4) 2B(1001,1000,1002) 3B(1002,1003,1000)", Check.rows(x, 0));
        Check.sameText("two rows made", "0 2 0 -1 -1 -1 -1", Check.step(x, 0, 0));
        x = Check.loaded("table A 1;table B 1;row A(3);rule A(x)->B(x),B(3),B(y);");
        x.run(0, 100);
        Check.sameText("alike ones come once", "0A(3) 1B(3) 2B(1000)", Check.rows(x, 0));
    }

    private static void promise12Step() {
        ChaseHall x = Check.loaded("table A 1;table B 1;row A(1);row A(2);row A(3);"
                + "rule A(2),A(x),A(3)->B(x);");
        Check.same("run", 1, x.run(0, 100));
        Check.sameText("ordered by the greatest, then atom by atom", "0 1 1 0 2 -1 -1", Check.step(x, 0, 0));
        Check.sameText("step 1", "0 1 1 1 2 -1 -1", Check.step(x, 0, 1));
        Check.sameText("step 2", "0 1 1 2 2 -1 -1", Check.step(x, 0, 2));
        Check.same("step 3", NONE, x.step(0, 3, 0));
        Check.same("step -1", NONE, x.step(0, -1, 0));
        Check.same("what 7", NONE, x.step(0, 0, 7));
        Check.same("what -1", NONE, x.step(0, 0, -1));
        x.strike(0, 0);
        Check.same("stays when a row is struck", 0, x.step(0, 0, 3));
        Check.refusesHall("step(3, 0, 0)", () -> x.step(3, 0, 0));
        x.run(0, 0);
        Check.same("the latest run has none", NONE, x.step(0, 0, 0));
    }

    private static void promise13By() {
        ChaseHall x = Check.loaded("table A 1;table B 2;row A(1);rule A(x)->B(x,y),B(y,x);"
                + "rule B(x,y)->x=1;");
        Check.same("run", 1, x.run(0, 100));
        Check.sameText("what is left", "0A(1) 1B(1,1)", Check.rows(x, 0));
        Check.same("made", 0, x.by(0, 1));
        Check.same("made, and went", 0, x.by(0, 2));
        Check.same("was there", NONE, x.by(0, 0));
        Check.same("never was", NONE, x.by(0, 3));
        Check.same("-1", NONE, x.by(0, -1));
        Check.same("200", NONE, x.by(0, 200));
        x.put(0, 0, 2, 0, 0);
        Check.same("put", NONE, x.by(0, 3));
        Check.same("it stays", 0, x.by(0, 1));
        x.run(0, 1);
        Check.same("the latest run alone", NONE, x.by(0, 1));
        Check.same("its row", 0, x.by(0, 4));
        Check.refusesHall("by(3, 0)", () -> x.by(3, 0));
    }

    private static void promise14Holds() {
        ChaseHall x = Check.loaded("table A 2;row A(1,2);row A(2,1);rule A(x,y)->A(y,x);rule A(x,y)->A(x,x);"
                + "rule A(x,x)->false;rule A(x,y)->A(y,z),A(z,y);rule A(x,y),A(y,x)->x=y;rule A(3,x)->false;");
        int[] want = {1, 0, 1, 1, 0, 1};
        for (int r = 0; r < 6; r++) {
            Check.same("holds " + r, want[r], x.holds(0, r));
        }
        Check.same("holds 6", NONE, x.holds(0, 6));
        Check.same("holds -1", NONE, x.holds(0, -1));
        x.put(0, 0, 3, 1000, 0);
        Check.same("holds no more", 0, x.holds(0, 0));
        Check.same("a nameless one is a term", 0, x.holds(0, 5));
        Check.refusesHall("holds(3, 0)", () -> x.holds(3, 0));
        ChaseHall y = Check.loaded("table A 1;row A(?3);rule A(3)->false;rule A(x)->x=3;");
        Check.same("a nameless one is no number", 1, y.holds(0, 0));
        Check.same("nor alike one", 0, y.holds(0, 1));
    }

    /** A choice of ROWS that does not do leaves nothing behind that spoils the next one. */
    private static void promise14SecondChoice() {
        ChaseHall x = Check.loaded("table A 1;table B 2;table C 1;row A(1);row B(5,9);row B(6,1);row B(1,5);"
                + "row B(1,6);row C(6);rule A(x)->B(a,x);rule A(x)->B(x,a),C(a);rule A(x)->B(x,a),B(a,x),C(a);"
                + "rule A(x)->B(x,a),B(a,b),B(b,c);");
        int[] want = {1, 1, 1, 1};
        for (int r = 0; r < 4; r++) {
            Check.same("holds by a later choice " + r, want[r], x.holds(0, r));
        }
        x.strike(0, 5);
        Check.same("C(6) went", 0, x.holds(0, 1));
        Check.same("the others do not need it", 1, x.holds(0, 3));
    }

    private static void promise15GreatestFirst() {
        ChaseHall x = Check.loaded("table A 1;table B 1;row A(1);row A(2);row B(5);row A(3);"
                + "rule B(y),A(x)->false;rule A(x),B(y),A(z)->false;rule A(a),A(b)->a=b;");
        Check.sameText("the first of those with one greatest row", "2 0", x.hit(0, 0, 0) + " " + x.hit(0, 0, 1));
        Check.sameText("three atoms", "0 2 0",
                x.hit(0, 1, 0) + " " + x.hit(0, 1, 1) + " " + x.hit(0, 1, 2));
        Check.sameText("0, 1 ahead of 1, 0", "0 1", x.hit(0, 2, 0) + " " + x.hit(0, 2, 1));
    }

    private static void promise15Hit() {
        ChaseHall x = Check.loaded("table A 1;table B 1;row A(1);row B(5);row A(2);row B(6);"
                + "rule A(x),B(y)->false;rule B(y),A(x),A(z)->x=z;rule A(x)->A(x);");
        Check.same("atom 0", 0, x.hit(0, 0, 0));
        Check.same("atom 1", 1, x.hit(0, 0, 1));
        Check.same("atom 2", NONE, x.hit(0, 0, 2));
        Check.same("atom -1", NONE, x.hit(0, 0, -1));
        Check.same("1, 0, 2 has the least greatest", 1, x.hit(0, 1, 0));
        Check.same("then atom by atom", 0, x.hit(0, 1, 1));
        Check.same("last atom", 2, x.hit(0, 1, 2));
        Check.same("one that holds", NONE, x.hit(0, 2, 0));
        Check.same("rule 3", NONE, x.hit(0, 3, 0));
        Check.same("rule -1", NONE, x.hit(0, -1, 0));
        x.strike(0, 0);
        Check.same("numbers, not places", 2, x.hit(0, 0, 0));
        Check.refusesHall("hit(3, 0, 0)", () -> x.hit(3, 0, 0));
    }

    private static void promise16Hits() {
        ChaseHall x = Check.loaded("table A 2;row A(1,2);row A(2,2);row A(2,?0);row A(?0,1);"
                + "rule A(x,y),A(z,w)->false;rule A(x,y),A(y,z)->false;rule A(x,x)->false;"
                + "rule A(2,x)->false;rule A(x,y),A(y,z),A(z,x)->false;rule A(9,x)->false;");
        int[] want = {16, 6, 1, 2, 4, 0};
        for (int r = 0; r < 6; r++) {
            Check.same("hits " + r, want[r], x.hits(0, r));
        }
        Check.same("hits 6", NONE, x.hits(0, 6));
        Check.same("hits -1", NONE, x.hits(0, -1));
        Check.refusesHall("hits(3, 0)", () -> x.hits(3, 0));
        ChaseHall y = Check.loaded("table A 1;rule A(x),A(y),A(z)->false;");
        for (int n = 0; n < 40; n++) {
            y.put(0, 0, n, 0, 0);
        }
        Check.same("all that can be", 64000, y.hits(0, 0));
    }
}
