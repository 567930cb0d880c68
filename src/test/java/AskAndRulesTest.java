/** Promises 20 to 24: ask, answer, follows, ends, rank. */
final class AskAndRulesTest {
    private static final int NONE = ChaseHall.NONE;

    public static void main(String[] args) {
        promise20Ask();
        promise20Faults();
        promise20Most();
        promise21Answer();
        promise22Follows();
        promise22Melts();
        promise22Spent();
        promise22Faults();
        promise23Ends();
        promise24Rank();
        Check.finish("AskAndRulesTest");
    }

    private static String answers(ChaseHall x) {
        StringBuilder all = new StringBuilder();
        for (int i = 0; x.answer(i, 0) != NONE; i++) {
            all.append(i == 0 ? "" : " ").append(x.answer(i, 0));
            for (int k = 1; k < 3 && x.answer(i, k) != NONE; k++) {
                all.append(',').append(x.answer(i, k));
            }
        }
        return all.toString();
    }

    private static void asks(ChaseHall x, String question, String want) {
        int count = want.isEmpty() ? 0 : want.split(" ").length;
        Check.same(question, count, Check.ask(x, 0, question));
        Check.sameText(question, want, answers(x));
    }

    private static void promise20Ask() {
        ChaseHall x = Check.loaded("table A 2;table B 1;row A(3,1);row A(1,20);row A(1,3);row A(?0,7);"
                + "row A(1,?0);row B(20);row B(?0);");
        asks(x, "A(x,y)->x,y;", "1,3 1,20 3,1");
        asks(x, "A(x,y)->y,x;", "1,3 3,1 20,1");
        asks(x, "A(x,y)->x;", "1 3");
        asks(x, "A(x,y)->y;", "1 3 7 20");
        asks(x, "A(x,y)->x,x,x;", "1,1,1 3,3,3");
        asks(x, "A(x,y),B(y)->x;", "1");
        asks(x, "A(x,y),A(y,z)->x,z;", "1,1 1,7 3,3 3,20");
        asks(x, "A(x,y),A(z,w)->w,x,z;",
                "1,1,3 1,3,3 3,1,1 3,3,1 20,1,1 20,3,1");
        asks(x, "A(1,y)->y;", "3 20");
        asks(x, "A(x,x)->x;", "");
        asks(x, " A ( x , 1 )\n->\nx ; ", "3");
        Check.same("the tape is empty then", 20, x.feed(0, 0, 0, 0, 0));
        x.end(0);
        Check.refusesHall("ask(3)", () -> x.ask(3));
        Check.refusesHall("ask(-1)", () -> x.ask(-1));
    }

    private static void promise20Faults() {
        asksWrong("", 1, 0);
        asksWrong("A(x,y)", 1, 6);
        asksWrong("A(x,y)->", 1, 8);
        asksWrong("A(x,y)->x", 1, 9);
        asksWrong("A(x,y)->3;", 1, 8);
        asksWrong("A(x,y)->x;A", 1, 10);
        asksWrong("A(x,y)->x;;", 1, 10);
        asksWrong("A(x,y)->false;", 1, 8);
        asksWrong("rule A(x,y)->x;", 1, 0);
        asksWrong("A(x,y)->x,;", 1, 10);
        asksWrong("A(x,?1)->x;", 1, 4);
        asksWrong("C(x)->x;", 2, 0);
        asksWrong("A(x)->x;", 3, 3);
        asksWrong("A(x,y,z)->x;", 3, 6);
        asksWrong("A(x,y),B(x),B(y)->x;", 4, 12);
        asksWrong("A(x,y),B(x),C(y)->x;", 2, 12);
        asksWrong("A(x,y),B(x),x->x;", 1, 12);
        asksWrong("A(x,y)->x,y,x,y;", 4, 14);
        asksWrong("A(x,y)->x,y,x,z;", 4, 14);
        asksWrong("A(x,y)->x,y,x,3;", 1, 14);
        asksWrong("A(x,y)->x,z;", 5, 10);
        asksWrong("A(1,2)->x;", 5, 8);
    }

    private static void asksWrong(String question, int fault, int place) {
        ChaseHall x = Check.loaded("table A 2;table B 1;row A(3,1);row A(1,20);");
        Check.ask(x, 0, "A(x,y)->x,y;");
        Check.same(question, NONE, Check.ask(x, 0, question));
        Check.same("fault of " + question, fault, x.fault(0));
        Check.same("place of " + question, place, x.fault(1));
        Check.sameText("those of before stay", "1,20 3,1", answers(x));
        Check.same("the tape is empty then", 20, x.feed(0, 0, 0, 0, 0));
    }

    private static void promise20Most() {
        ChaseHall x = Check.loaded("table A 1;");
        for (int n = 0; n < 40; n++) {
            x.put(0, 0, 99 - n, 0, 0);
        }
        Check.same("all pairs", 1600, Check.ask(x, 0, "A(x),A(y)->y,x;"));
        Check.same("the first", 60, x.answer(0, 1));
        Check.same("the second", 61, x.answer(1, 1));
        Check.same("the last", 99, x.answer(1599, 0));
        Check.same("none behind it", NONE, x.answer(1600, 0));
    }

    private static void promise21Answer() {
        ChaseHall x = Check.loaded("table A 3;row A(99,0,5);row A(99,0,?1);");
        Check.same("ask", 1, Check.ask(x, 0, "A(x,y,z)->x,y,z;"));
        int[] want = {99, 0, 5, NONE};
        for (int k = 0; k < 4; k++) {
            Check.same("answer " + k, want[k], x.answer(0, k));
        }
        Check.same("k -1", NONE, x.answer(0, -1));
        Check.same("i -1", NONE, x.answer(-1, 0));
        Check.same("i 1", NONE, x.answer(1, 0));
        x.strike(0, 0);
        Check.load(x, 0, "table B 1;");
        Check.same("stays whatever the hall becomes", 99, x.answer(0, 0));
        Check.load(x, 1, "table A 3;row A(1,2,3);");
        Check.write(x, "A(x,y,z)->z,x;");
        x.ask(1);
        Check.same("of the latest", 3, x.answer(0, 0));
        Check.same("two alone", NONE, x.answer(0, 2));
        Check.same("none", 0, Check.ask(x, 0, "B(x)->x;"));
        Check.same("no answer then", NONE, x.answer(0, 0));
    }

    private static void follow(ChaseHall x, String rule, int want) {
        Check.same(rule, want, Check.follows(x, 0, rule));
        Check.same("fault of " + rule, 0, x.fault(0));
    }

    private static void promise22Follows() {
        ChaseHall x = Check.loaded("table A 2;table B 1;row A(8,9);rule A(x,y),A(y,z)->A(x,z);"
                + "rule B(x)->A(x,y),A(y,4);rule A(x,x)->false;");
        x.run(0, 50);
        x.put(0, 1, 7, 0, 0);
        String before = Check.rows(x, 0);
        follow(x, "rule A(x,y),A(y,z),A(z,w)->A(x,w);", 1);
        follow(x, "rule A(x,y)->A(y,x);", 0);
        follow(x, "rule A(x,y)->A(x,z);", 1);
        follow(x, "rule A(x,y)->A(z,w),A(w,v);", 0);
        follow(x, "rule B(x)->A(x,4);", 1);
        follow(x, "rule B(x)->A(x,z),A(z,4);", 1);
        follow(x, "rule B(x)->A(x,5);", 0);
        follow(x, "rule B(4)->B(5);", 1);
        follow(x, "rule A(x,y),A(y,x)->false;", 1);
        follow(x, "rule A(x,y),A(z,x)->false;", 0);
        follow(x, "rule A(8,9)->A(8,9);", 1);
        follow(x, "rule B(x)->A(8,9);", 0);
        follow(x, "rule A(x,y)->x=x;", 1);
        follow(x, "rule A(x,y)->x=y;", 0);
        follow(x, "rule A(x,y)->4=5;", 0);
        Check.sameText("the hall stays", before, Check.rows(x, 0));
        Check.same("its state stays", 0, x.look(0, 5));
        Check.same("its steps stay", 0, x.look(0, 6));
        Check.refusesHall("follows(3)", () -> x.follows(3));
    }

    private static void promise22Melts() {
        ChaseHall x = Check.loaded("table A 2;table B 1;rule A(x,y),A(x,z)->y=z;rule A(x,y),B(x)->x=y;");
        follow(x, "rule A(x,y),A(x,z)->z=y;", 1);
        follow(x, "rule A(x,y),A(x,z),B(z)->B(y);", 1);
        follow(x, "rule A(x,y),A(z,y)->x=z;", 0);
        follow(x, "rule A(x,y),A(x,3)->y=3;", 1);
        follow(x, "rule A(x,y),A(x,3)->y=4;", 0);
        follow(x, "rule A(x,4),A(x,3)->B(x);", 1);
        follow(x, "rule A(x,y),A(x,z),B(x)->A(z,z),A(y,x);", 1);
        follow(x, "rule A(x,y),A(x,z)->false;", 0);
        follow(x, "rule A(x,y),A(z,w),B(z)->A(w,z);", 1);
        follow(x, "rule A(x,y),A(z,w),B(z)->A(w,x);", 0);
        follow(x, "rule A(y,x),B(y)->A(x,y),B(x);", 1);
        follow(x, "rule A(a,b),A(a,c)->b=c;", 1);
        follow(x, "rule A(b,a),A(b,c)->c=a;", 1);
        follow(x, "rule A(z,a),A(z,3),B(a)->B(3);", 1);
        follow(x, "rule A(a,z),B(a)->A(z,z);", 1);
    }

    private static void promise22Spent() {
        ChaseHall x = Check.loaded("table A 2;rule A(x,y)->A(y,z);");
        follow(x, "rule A(x,y)->A(x,y);", 2);
        follow(x, "rule A(x,x)->A(x,x);", 1);
        x = Check.loaded("table A 1;table B 1;rule A(x)->B(1);rule A(x)->B(2);rule A(x)->B(3);rule A(x)->B(4);"
                + "rule A(x)->B(5);rule A(x)->B(6);rule A(x)->B(7);rule A(x)->B(8);rule A(x)->B(9);rule A(x)->B(10);");
        follow(x, "rule A(x)->B(10),B(y),B(3);", 1);
        follow(x, "rule B(10)->A(x);", 0);
    }

    private static void promise22Faults() {
        followWrong("", 1, 0);
        followWrong("A(x,y)->false;", 1, 0);
        followWrong("row A(1,2);", 1, 0);
        followWrong("rule A(x,y)->false", 1, 18);
        followWrong("rule A(x,y)->false;rule A(x,y)->false;", 1, 19);
        followWrong("rule A(x,y)->false; ;", 1, 20);
        followWrong("rule D(x)->false;", 2, 5);
        followWrong("rule A(x)->false;", 3, 8);
        followWrong("rule A(1,1),A(1,1),A(1,1),A(1,1)->false;", 4, 26);
        followWrong("rule A(x,y)->x=z;", 5, 15);
        followWrong("table B 1;", 1, 0);
    }

    private static void followWrong(String rule, int fault, int place) {
        ChaseHall x = Check.loaded("table A 2;row A(1,2);");
        Check.same(rule, NONE, Check.follows(x, 0, rule));
        Check.same("fault of " + rule, fault, x.fault(0));
        Check.same("place of " + rule, place, x.fault(1));
        Check.same("the tape is empty then", 20, x.feed(0, 0, 0, 0, 0));
    }

    private static void ends(String rules, int want) {
        ChaseHall x = Check.loaded("table A 1;table B 2;table C 3;" + rules);
        Check.same("ends with " + rules, want, x.ends(0));
        Check.same("rank with " + rules, want, x.rank(0, 0, 0) != NONE ? 1 : 0);
    }

    private static void promise23Ends() {
        ends("", 1);
        ends("rule A(x)->A(y);", 1);
        ends("rule A(x)->B(x,y);", 1);
        ends("rule A(x)->B(x,y);rule B(x,y)->A(y);", 0);
        ends("rule A(x)->B(x,y);rule B(x,y)->A(x);", 1);
        ends("rule B(x,y)->B(y,z);", 0);
        ends("rule B(x,y)->B(x,z);", 1);
        ends("rule B(x,a)->B(a,z);", 0);
        ends("rule B(x,z)->B(z,a);", 0);
        ends("rule B(x,y)->B(y,x);", 1);
        ends("rule B(x,y),A(y)->C(y,x,z);rule C(x,y,z)->B(z,x);", 0);
        ends("rule B(x,y)->C(x,3,z);rule C(x,3,z)->B(x,z);", 1);
        ends("rule A(x)->B(x,y);rule B(x,y)->x=y;rule B(x,y)->false;", 1);
        ChaseHall x = Check.loaded("table A 1;");
        Check.same("an empty hall", 1, x.ends(2));
        Check.refusesHall("ends(3)", () -> x.ends(3));
        Check.refusesHall("ends(-1)", () -> x.ends(-1));
    }

    private static void promise24Rank() {
        ChaseHall x = Check.loaded("table A 1;table B 2;table C 3;rule A(x)->B(x,y);rule B(x,y)->C(y,z,x);"
                + "rule A(x)->C(7,x,y);");
        int[][] want = {{0}, {0, 1}, {1, 2, 1}};
        for (int t = 0; t < 3; t++) {
            for (int c = 0; c <= t; c++) {
                Check.same("rank of " + t + " " + c, want[t][c], x.rank(0, t, c));
            }
            Check.same("column beyond", NONE, x.rank(0, t, t + 1));
            Check.same("column -1", NONE, x.rank(0, t, -1));
        }
        Check.same("table 3", NONE, x.rank(0, 3, 0));
        Check.same("table -1", NONE, x.rank(0, -1, 0));
        Check.same("table 26", NONE, x.rank(0, 26, 0));
        Check.refusesHall("rank(3, 0, 0)", () -> x.rank(3, 0, 0));
        ChaseHall y = Check.loaded("table A 2;table B 2;table C 2;table D 2;table E 2;table F 2;"
                + "rule A(x,y)->B(y,z);rule B(x,y)->C(y,z);rule C(x,y)->D(y,z);rule D(x,y)->E(y,z);"
                + "rule E(x,y)->F(y,z);rule F(x,y)->F(y,y);rule F(x,y)->F(x,x);");
        Check.same("a long row of ways", 5, y.rank(0, 5, 1));
        Check.same("round plain rings", 5, y.rank(0, 5, 0));
        Check.same("on the way", 3, y.rank(0, 3, 1));
        Check.same("one less", 2, y.rank(0, 3, 0));
        Check.same("at the start", 0, y.rank(0, 0, 1));
        Check.load(y, 1, "table A 2;table F 2;rule A(x,y)->F(x,y);");
        Check.same("each hall by its own rules", 0, y.rank(1, 5, 1));
        Check.load(y, 2, "table A 2;rule A(x,y)->A(y,z);");
        Check.same("a ring here", NONE, y.rank(2, 0, 1));
        Check.same("none there", 0, y.rank(1, 5, 0));
        Check.same("and the first stays", 5, y.rank(0, 5, 1));
    }
}
