/** The edges of questions, of what follows, and of ways: promises 20 to 24, and Terms III and IV by them. */
final class EdgesOfAsk extends Check {
    private static final int NONE = ChaseHall.NONE;
    private static final int[] FAR = {Integer.MIN_VALUE, -1000, 1000, Integer.MAX_VALUE};

    private EdgesOfAsk() {
    }

    static void all() {
        questions();
        thirdAtom();
        fourthVariable();
        unknownAsked();
        namedAnswers();
        orderOfAnswers();
        askCounts();
        askFault();
        answerParts();
        answerNone();
        toldByTables();
        emptyPlace();
        ownNameless();
        hundredSteps();
        failedFollows();
        endedFollows();
        becomeTerms();
        followsAnswers();
        followsFault();
        places();
        plainWays();
        newWays();
        rings();
        greatestRank();
        endsAnswers();
        rankOfColumn();
        rankNone();
    }

    private static final String ASKED = "table A 2;table B 1;row A(1,2);row A(2,?0);row A(?0,3);row B(2);row B(?0);";

    private static String answers(ChaseHall x) {
        StringBuilder all = new StringBuilder();
        for (int i = 0; x.answer(i, 0) != NONE; i++) {
            all.append(i == 0 ? "" : " ").append(x.answer(i, 0));
            for (int k = 1; k < 3 && x.answer(i, k) != NONE; k++) {
                all.append(',').append(x.answer(i, k));
            }
        }
        return all.toString();
    }

    private static void asks(String hall, String question, String want) {
        ChaseHall x = loaded(hall);
        same(question, want.isEmpty() ? 0 : want.split(" ").length, ask(x, 0, question));
        sameText("answers of " + question, want, answers(x));
        same("fault of " + question, 0, x.fault(0));
    }

    private static void asksWrong(String question, int fault, int place) {
        ChaseHall x = loaded(ASKED);
        same(question, NONE, ask(x, 0, question));
        same("fault of " + question, fault, x.fault(0));
        same("place of " + question, place, x.fault(1));
    }

    private static void questions() {
        term(20, "Terms III", "ask: question = ATOM {, ATOM} -> VARIABLE {, VARIABLE} ; FAULTS likewise:");
        asks(ASKED, "A(x,y)->x;", "1 2");
        asks(ASKED, " A ( x , y )\n, B ( y ) -> x , y ; ", "1,2");
        asks(ASKED, "A(1,y)->y;", "2");
        asksWrong("", 1, 0);
        asksWrong("  ", 1, 2);
        asksWrong("->x;", 1, 0);
        asksWrong("A(x,y)", 1, 6);
        asksWrong("A(x,y);", 1, 6);
        asksWrong("A(x,y)->;", 1, 8);
        asksWrong("A(x,y)->x", 1, 9);
        asksWrong("A(x,y)->x,;", 1, 10);
        asksWrong("A(x,y)->x y;", 1, 10);
        asksWrong("A(x,y)->2;", 1, 8);
        asksWrong("A(x,y)->?1;", 1, 8);
        asksWrong("A(x,y)->A(x,y);", 1, 8);
        asksWrong("A(x,y)->false;", 1, 8);
        asksWrong("A(x,y)->x=y;", 1, 9);
        asksWrong("A(x,y)->x;;", 1, 10);
        asksWrong("A(x,y)->x;A(x,y)->x;", 1, 10);
        asksWrong("rule A(x,y)->x;", 1, 0);
        asksWrong("A(x,?0)->x;", 1, 4);
        asksWrong("C(x)->x;", 2, 0);
        asksWrong("A(x)->x;", 3, 3);
        asksWrong("A(x,y),B(x,y)->x;", 3, 11);
        asksWrong("B(100)->x;", 1, 2);
    }

    private static void thirdAtom() {
        term(20, "Terms III", "4 the 3rd ATOM (at the TABLE),");
        asks(ASKED, "A(x,y),B(y)->x;", "1 2");
        asksWrong("A(x,y),B(x),B(y)->x;", 4, 12);
        asksWrong("A(x,y),B(x), A", 4, 13);
        asksWrong("A(x,y),B(x),C(y)->x;", 2, 12);
        asksWrong("A(x,y),B(x),->x;", 1, 12);
    }

    private static void fourthVariable() {
        term(20, "Terms III", "the 4th VARIABLE behind -> (at it);");
        asks(ASKED, "A(x,y)->x,y,x;", "1,2,1");
        asksWrong("A(x,y)->x,y,x,y;", 4, 14);
        asksWrong("A(x,y)->x,x,x, x;", 4, 15);
        asksWrong("A(x,y)->x,y,x,z;", 4, 14);
        asksWrong("A(x,y)->x,y,x,7;", 1, 14);
    }

    private static void unknownAsked() {
        term(20, "Terms III", "5 one that is not in the ATOMS.");
        asksWrong("A(x,y)->z;", 5, 8);
        asksWrong("A(x,y)->x,z;", 5, 10);
        asksWrong("A(x,y)->x,y,z;", 5, 12);
        asksWrong("A(1,2)->x;", 5, 8);
        asks(ASKED, "A(x,1),B(y)->y;", "");
    }

    private static void namedAnswers() {
        term(20, "Terms III", "ANSWERS: of all HITS what stands for the VARIABLES, where none is NAMELESS, each once,");
        asks(ASKED, "A(x,y)->x,y;", "1,2");
        asks(ASKED, "A(x,y)->y;", "2 3");
        asks(ASKED, "A(x,y),A(y,z)->x;", "1 2");
        asks(ASKED, "A(x,y),A(y,z)->x,z;", "2,3");
        asks(ASKED, "A(x,y),B(z)->x;", "1 2");
        asks(ASKED, "B(x)->x;", "2");
        asks("table A 1;row A(?0);row A(?99);", "A(x)->x;", "");
        asks("table A 1;", "A(x)->x;", "");
        asks("table A 2;row A(0,99);row A(99,0);", "A(x,y),A(y,z)->x,y,z;", "0,99,0 99,0,99");
    }

    private static void orderOfAnswers() {
        term(20, "Terms III", "by the first VARIABLE, then the second, then the third.");
        String rows = "table A 3;row A(10,2,3);row A(9,99,0);row A(9,2,4);row A(9,2,10);row A(10,0,99);row A(0,99,99);";
        asks(rows, "A(x,y,z)->x,y,z;", "0,99,99 9,2,4 9,2,10 9,99,0 10,0,99 10,2,3");
        asks(rows, "A(x,y,z)->z,x,y;", "0,9,99 3,10,2 4,9,2 10,9,2 99,0,99 99,10,0");
        asks(rows, "A(x,y,z)->y;", "0 2 99");
    }

    private static void askCounts() {
        promise(20, "The TAPE, empty then, as a question to a HALL: how many ANSWERS.");
        ChaseHall x = loaded(ASKED);
        String before = Tell.hall(x, 0);
        same("two", 2, ask(x, 0, "A(x,y)->x;"));
        no("the tape is empty", x.end(1));
        sameText("the hall stays", before, Tell.hall(x, 0));
        same("the same question", 2, ask(x, 0, "A(x,y)->x;"));
        sameText("the same answers", "1 2", answers(x));
        same("none", 0, ask(x, 0, "A(x,x)->x;"));
        load(x, 1, "table A 1;");
        for (int n = 0; n < 40; n++) {
            x.put(1, 0, 2 * n, 0, 0);
        }
        same("the most there can be", 1600, ask(x, 1, "A(x),A(y)->x,y;"));
        same("another hall", 1, ask(x, 0, "A(x,2)->x;"));
    }

    private static void askFault() {
        promise(20, "NONE: a FAULT (those of before stay).");
        ChaseHall x = loaded(ASKED);
        same("no answers yet", NONE, ask(x, 0, "A(x)->x;"));
        same("none of before", NONE, x.answer(0, 0));
        ask(x, 0, "A(x,y)->y,y;");
        for (String wrong : new String[] {"A(x,y)->x,z;", "A(x,y)->x", "A(x,y)->x,y,x,y;", "", "B(x),A(x)->x;"}) {
            same(wrong, NONE, ask(x, 0, wrong));
            sameText("those of before stay after " + wrong, "2,2 3,3", answers(x));
            no("the tape is empty after " + wrong, x.end(1));
        }
        same("of an empty hall", NONE, ask(x, 2, "A(x,y)->x;"));
        same("it has no table", 2, x.fault(0));
        sameText("those of before stay", "2,2 3,3", answers(x));
    }

    private static void answerParts() {
        promise(21, "VARIABLE k of ANSWER i of the latest ask() (as in row());");
        ChaseHall x = loaded("table A 3;row A(0,99,5);row A(99,0,7);");
        ask(x, 0, "A(x,y,z)->x,y,z;");
        int[][] want = {{0, 99, 5}, {99, 0, 7}};
        for (int i = 0; i < 2; i++) {
            for (int k = 0; k < 3; k++) {
                same("answer(" + i + ", " + k + ")", want[i][k], x.answer(i, k));
            }
        }
        x.strike(0, 0);
        load(x, 0, "");
        same("they stay whatever becomes of the hall", 99, x.answer(0, 1));
        refusesHall("ask(3)", () -> x.ask(3));
        same("they stay when ask() is refused", 99, x.answer(0, 1));
        load(x, 0, "table A 1;row A(8);");
        ask(x, 0, "A(x)->x;");
        same("of the latest", 8, x.answer(0, 0));
        same("alone", NONE, x.answer(1, 0));
        same("with its variables alone", NONE, x.answer(0, 1));
        x.put(0, 0, 9, 0, 0);
        same("not of what came behind it", NONE, x.answer(1, 0));
    }

    private static void answerNone() {
        promise(21, "NONE if there is none such.");
        ChaseHall x = loaded("table A 2;row A(1,2);row A(3,4);");
        same("no ask() yet", NONE, x.answer(0, 0));
        ask(x, 0, "A(x,y)->x,y;");
        same("the last answer", 3, x.answer(1, 0));
        same("answer 2 of two", NONE, x.answer(2, 0));
        same("answer -1", NONE, x.answer(-1, 0));
        same("variable 2 of two", NONE, x.answer(0, 2));
        same("variable 3", NONE, x.answer(0, 3));
        same("variable -1", NONE, x.answer(0, -1));
        for (int far : FAR) {
            same("answer " + far, NONE, x.answer(far, 0));
            same("variable " + far, NONE, x.answer(0, far));
        }
        same("answer 1600", NONE, x.answer(1600, 0));
        ask(x, 0, "A(x,x)->x;");
        same("none at all", NONE, x.answer(0, 0));
        load(x, 1, "table A 1;");
        for (int n = 0; n < 40; n++) {
            x.put(1, 0, n, 0, 0);
        }
        ask(x, 1, "A(x),A(y)->x,y;");
        same("the last of 1600", 39, x.answer(1599, 1));
        same("none behind it", NONE, x.answer(1600, 1));
    }

    private static int followsIn(String hall, String rule) {
        ChaseHall x = loaded(hall);
        int answer = follows(x, 0, rule);
        same("fault of " + rule, 0, x.fault(0));
        return answer;
    }

    private static void toldByTables() {
        term(22, "Terms IV", "follows: one RULE is told as a text (by the TABLES of the HALL).");
        String hall = "table A 2;table B 1;rule A(x,y)->B(x);";
        same("a rule", 1, followsIn(hall, "rule A(x,y)->B(x);"));
        same("blanks around it", 1, followsIn(hall, " \nrule A(x,y)->B(x); \n"));
        followsWrong("", 1, 0);
        followsWrong("rule A(x,y)->B(x);rule A(x,y)->B(x);", 1, 18);
        followsWrong("rule A(x,y)->B(x);;", 1, 18);
        followsWrong("rule A(x,y)->B(x)", 1, 17);
        followsWrong("table C 1;", 1, 0);
        followsWrong("row A(1,2);", 1, 0);
        followsWrong("A(x,y)->B(x);", 1, 0);
        followsWrong("rule C(x)->B(x);", 2, 5);
        followsWrong("rule A(x,y)->C(x);", 2, 13);
        followsWrong("rule A(x)->B(x);", 3, 8);
        followsWrong("rule A(x,y)->B(x,y);", 3, 17);
        followsWrong("rule B(1),B(2),B(3),B(4)->false;", 4, 20);
        followsWrong("rule B(1)->B(1),B(2),B(3),B(4);", 4, 26);
        followsWrong("rule B(x)->x=y;", 5, 13);
        StringBuilder ten = new StringBuilder("table A 1;");
        for (int r = 0; r < 10; r++) {
            ten.append("rule A(x)->A(").append(r).append(");");
        }
        same("it is no 11th rule", 1, followsIn(ten.toString(), "rule A(x)->A(9),A(0),A(5);"));
    }

    private static void followsWrong(String rule, int fault, int place) {
        ChaseHall x = loaded("table A 2;table B 1;rule A(x,y)->B(x);");
        same(rule, NONE, follows(x, 0, rule));
        same("fault of " + rule, fault, x.fault(0));
        same("place of " + rule, place, x.fault(1));
    }

    private static void emptyPlace() {
        term(22, "Terms IV", "Its ATOMS ahead are put into an empty place with the HALL's TABLES and RULES,");
        same("the hall's rows are not there", 0, followsIn("table A 1;table B 1;row B(1);row A(5);",
                "rule A(x)->B(1);"));
        same("nor do they fail", 0, followsIn("table A 1;table B 1;row B(1);rule B(x)->false;", "rule A(x)->B(x);"));
        ChaseHall two = loaded("table A 1;table B 1;row A(1);rule A(x)->B(x);");
        load(two, 1, "table A 1;table B 1;rule B(x)->A(x);");
        same("its own rules", 1, follows(two, 0, "rule A(x)->B(x);"));
        same("its own rules again", 1, follows(two, 0, "rule A(x),B(y)->B(x),A(x);"));
        same("not those of another hall", 0, follows(two, 0, "rule B(x)->A(x);"));
        same("the other one by its own", 1, follows(two, 1, "rule B(x)->A(x);"));
        same("alike atoms are one row", 1, followsIn("table A 1;table B 1;rule A(x),A(y)->B(x);",
                "rule A(x),A(x),A(x)->B(x);"));
        ChaseHall x = loaded("table A 3;table B 3;rule A(x,y,z)->B(u,v,w);");
        for (int n = 0; n < 160; n++) {
            x.put(0, 0, 1000 + 3 * n % 100, 1000 + (3 * n + 1) % 100, 1000 + (3 * n + 2) % 100);
            x.strike(0, n);
        }
        for (int n = 0; n < 40; n++) {
            x.put(0, 0, n, n, n);
        }
        String before = Tell.look(x, 0);
        same("a full hall does not count", 1, follows(x, 0, "rule A(x,y,z)->B(a,b,c);"));
        sameText("and stays", before, Tell.look(x, 0));
        same("an empty one follows from nothing", 1, followsIn("table A 1;", "rule A(x)->A(y);"));
    }

    private static void ownNameless() {
        term(22, "Terms IV", "each VARIABLE as a NAMELESS one of its own (0, 1, .., by letters as they stand first),");
        String hall = "table A 3;table B 1;rule A(x,x,y)->B(x);rule A(0,y,z)->false;";
        same("two variables are two", 0, followsIn(hall, "rule A(x,y,z)->B(x);"));
        same("one is one", 1, followsIn(hall, "rule A(y,y,x)->B(y);"));
        same("the first of them is no value 0", 0, followsIn(hall, "rule A(x,y,z)->false;"));
        same("a number is that value", 1, followsIn(hall, "rule A(0,y,z)->false;"));
        same("nor are they alike", 0, followsIn("table A 2;", "rule A(x,y)->x=y;"));
        same("nine of them", 1, followsIn("table A 3;", "rule A(i,h,g),A(f,e,d),A(c,b,a)->A(f,e,d);"));
        same("nine are nine", 0, followsIn("table A 3;", "rule A(i,h,g),A(f,e,d),A(c,b,a)->A(i,e,d);"));
        same("a and z", 0, followsIn("table A 2;", "rule A(a,z)->a=z;"));
        same("z and a", 0, followsIn("table A 2;table B 1;rule A(x,x)->B(x);", "rule A(z,a)->B(a);"));
        same("new ones are others", 0, followsIn("table A 1;table B 2;rule A(x)->B(x,y);", "rule A(x)->B(x,x);"));
    }

    private static void hundredSteps() {
        term(22, "Terms IV", "and run with 100 STEPS: SPENT: 2.");
        String told = "rule P(1),P(2),P(3)->";
        same("100 are needed, fulfilled", 1, followsIn(LongRuns.RULES, told + "V(9,0,0),T(3,3,0),U(0,0,0);"));
        same("100 are needed, not fulfilled", 0, followsIn(LongRuns.RULES, told + "V(8,0,0);"));
        String more = LongRuns.RULES + LongRuns.ONE_STEP_MORE;
        same("101 are needed", 2, followsIn(more, told + "V(9,0,0);"));
        same("fulfilled or not", 2, followsIn(more, told + "P(1);"));
        String endless = "table A 2;table B 1;rule A(x,y)->A(y,z);";
        same("too many rows", 2, followsIn(endless, "rule A(x,y)->A(x,y);"));
        same("it does not start", 1, followsIn(endless, "rule B(x)->B(y);"));
    }

    private static void failedFollows() {
        term(22, "Terms IV", "FAILED: 1.");
        String hall = "table A 1;table B 1;rule A(x)->B(1);rule B(x)->x=2;";
        same("two values", 1, followsIn(hall, "rule A(x)->B(77);"));
        same("for false, too", 1, followsIn(hall, "rule A(x)->false;"));
        same("and for two terms", 1, followsIn(hall, "rule A(x)->3=4;"));
        same("forbidden", 1, followsIn("table A 1;rule A(7)->false;", "rule A(7)->A(8);"));
        same("not forbidden", 0, followsIn("table A 1;rule A(7)->false;", "rule A(6)->A(8);"));
    }

    private static void endedFollows() {
        term(22, "Terms IV", "ENDED: 1, if the HIT of those ROWS is FULFILLED then");
        String hall = "table A 1;table B 2;rule A(x)->B(x,y);rule B(x,y)->B(y,y);";
        same("rows are there", 1, followsIn(hall, "rule A(x)->B(x,y),B(y,y);"));
        same("rows are not there", 0, followsIn(hall, "rule A(x)->B(x,x);"));
        same("of its own hit, not of another one", 0, followsIn(hall, "rule B(x,y),A(z)->B(y,x);"));
        same("terms are alike", 1, followsIn(hall, "rule A(x)->x=x;"));
        same("values are alike", 1, followsIn(hall, "rule A(x)->5=5;"));
        same("terms are not alike", 0, followsIn(hall, "rule B(x,y)->x=y;"));
        same("without rules", 1, followsIn("table A 1;", "rule A(x),A(1)->A(1),A(y),A(x);"));
    }

    private static void becomeTerms() {
        term(22, "Terms IV", "(of the ROWS that were put in, with what their TERMS have become; for false: 0), else 0.");
        String hall = "table A 2;table B 1;table C 1;rule A(x,y),A(x,z)->y=z;rule B(x)->x=5;rule C(x)->B(x);";
        same("two nameless ones became one", 1, followsIn(hall, "rule A(x,y),A(x,z)->y=z;"));
        same("in the rows, too", 1, followsIn(hall, "rule A(x,y),A(x,z),C(y)->C(z);"));
        same("one became a value", 1, followsIn(hall, "rule B(x)->x=5;"));
        same("by the first letter", 1, followsIn(hall, "rule B(a)->a=5;"));
        same("by the last letter", 1, followsIn(hall, "rule B(z)->5=z;"));
        same("the first letter is no value", 0, followsIn(hall, "rule B(a)->a=4;"));
        ChaseHall x = loaded(hall);
        same("once", 1, follows(x, 0, "rule B(x)->x=5;"));
        same("what became of it then is forgotten", 0, follows(x, 0, "rule A(x,y)->x=5;"));
        same("and again", 1, follows(x, 0, "rule B(y)->y=5;"));
        same("not another one", 0, followsIn(hall, "rule B(x)->x=4;"));
        same("over two steps", 1, followsIn(hall, "rule C(x),A(x,y)->A(5,y),B(5);"));
        same("step by step", 1, followsIn(hall, "rule A(x,y),A(x,z),B(z)->y=5;"));
        same("others did not", 0, followsIn(hall, "rule A(x,y),A(w,z),B(z)->y=5;"));
        same("false, though it ended", 0, followsIn(hall, "rule A(x,y)->false;"));
        same("false, after steps", 0, followsIn(hall, "rule C(x)->false;"));
    }

    private static void followsAnswers() {
        promise(22, "The TAPE, empty then, as a RULE: whether it follows from a HALL's: 1, 0, 2 SPENT.");
        ChaseHall x = loaded("table A 2;row A(1,?3);rule A(x,y)->A(y,x);");
        x.run(0, 1);
        String before = Tell.hall(x, 0);
        same("it does", 1, follows(x, 0, "rule A(x,y)->A(y,x);"));
        no("the tape is empty", x.end(1));
        same("it does not", 0, follows(x, 0, "rule A(x,y)->A(x,x);"));
        sameText("the hall stays", before, Tell.hall(x, 0));
        ChaseHall y = loaded("table A 2;row A(1,2);rule A(x,y)->A(y,z);");
        same("spent", 2, follows(y, 0, "rule A(x,y)->A(y,z);"));
        no("the tape is empty then, too", y.end(1));
        same("the hall stays not run", 0, y.look(0, 5));
        same("with its row", 1, y.look(0, 2));
    }

    private static void followsFault() {
        promise(22, "NONE: a FAULT.");
        ChaseHall x = loaded("table A 1;row A(1);rule A(x)->false;");
        x.run(0, 100);
        String before = Tell.hall(x, 0);
        same("no rule", NONE, follows(x, 0, ""));
        same("no such table", NONE, follows(x, 0, "rule B(x)->false;"));
        same("its fault", 2, x.fault(0));
        no("the tape is empty", x.end(1));
        sameText("the hall stays", before, Tell.hall(x, 0));
        same("of an empty hall", NONE, follows(x, 1, "rule A(x)->false;"));
    }

    /** Whether the RANKS of A, of B and of C (with one, two and three COLUMNS) are these; NONE for all where ends() is 0. */
    private static void ranks(String rules, String want) {
        ChaseHall x = loaded("table A 1;table B 2;table C 3;" + rules);
        StringBuilder got = new StringBuilder();
        for (int t = 0; t < 3; t++) {
            for (int c = 0; c <= t; c++) {
                got.append(got.length() == 0 ? "" : " ").append(x.rank(0, t, c));
            }
        }
        sameText("ranks with " + rules, want, got.toString());
        same("ends with " + rules, want.startsWith("-1") ? 0 : 1, x.ends(0));
    }

    private static final String ENDLESS = "-1 -1 -1 -1 -1 -1";

    private static void places() {
        term(24, "Terms IV", "ENDS: PLACES are the COLUMNS of TABLES.");
        ranks("", "0 0 0 0 0 0");
        ranks("rule A(x)->B(x,y);", "0 0 1 0 0 0");
        ranks("rule A(x)->B(y,x);", "0 1 0 0 0 0");
        ranks("rule A(x)->C(x,7,y);", "0 0 0 0 0 1");
    }

    private static void plainWays() {
        term(24, "Terms IV", "For each RULE that makes ROWS, each VARIABLE that stands on both sides, and each PLACE of it ahead: "
                + "a plain way from there to each PLACE of it behind,");
        ranks("rule A(x)->B(x,y);rule B(x,y)->C(y,x,y);", "0 0 1 1 0 1");
        ranks("rule A(a)->B(a,z);rule B(z,a)->C(a,z,a);", "0 0 1 1 0 1");
        ranks("rule A(x)->B(x,y);rule B(x,y)->A(x);", "0 0 1 0 0 0");
        ranks("rule A(x)->B(x,y);rule B(x,y)->C(x,x,x);", "0 0 1 0 0 0");
        ranks("rule A(x)->B(x,y);rule A(x),B(y,x)->C(x,0,0);", "0 0 1 1 0 0");
        ranks("rule A(x)->B(x,y);rule B(y,x),A(x)->C(x,0,0);", "0 0 1 1 0 0");
        ranks("rule A(x)->B(x,y);rule B(x,y)->x=y;rule B(x,y)->false;", "0 0 1 0 0 0");
        ranks("rule B(x,y)->B(y,x);rule A(x)->B(x,y);", "0 1 1 0 0 0");
    }

    private static void newWays() {
        term(24, "Terms IV", "and a NEW way to each PLACE of a NEW VARIABLE.");
        ranks("rule A(x)->B(x,y),C(y,z,0);", "0 0 1 1 1 0");
        ranks("rule A(x)->B(y,z),C(y,7,y);", "0 0 0 0 0 0");
        ranks("rule A(z)->B(z,a);", "0 0 1 0 0 0");
        ranks("rule A(x),B(y,z)->C(z,w,0);rule A(x)->B(x,y);", "0 0 1 1 2 0");
        ranks("rule B(x,y)->C(x,z,0);rule A(x)->B(x,y);", "0 0 1 0 1 0");
        ranks("rule A(x)->B(7,y);", "0 0 0 0 0 0");
    }

    private static void rings() {
        term(23, "Terms IV", "ends() is 1 if no ring of ways has a NEW one in it.");
        ranks("rule B(x,y)->B(x,z);", "0 0 1 0 0 0");
        ranks("rule B(x,y)->B(y,z);", ENDLESS);
        ranks("rule B(x,y)->B(z,y),B(x,w);", ENDLESS);
        ranks("rule A(x)->A(x),A(y);", ENDLESS);
        ranks("rule A(x)->A(y);", "0 0 0 0 0 0");
        ranks("rule A(x)->B(x,y);rule B(x,y)->A(y);", ENDLESS);
        ranks("rule A(x)->B(x,y);rule B(x,y)->C(y,y,y);rule C(x,y,z)->A(z);", ENDLESS);
        ranks("rule A(x)->B(x,y);rule B(x,y)->C(y,y,y);rule C(x,y,z)->B(x,z);", "0 1 1 1 1 1");
        ranks("rule C(x,y,z)->C(y,z,x);", "0 0 0 0 0 0");
        ranks("rule C(x,y,z)->C(y,z,x);rule A(x)->C(x,y,x);", "0 0 0 1 1 1");
        ranks("rule C(x,y,z)->C(y,z,x);rule C(x,1,2)->C(x,y,x);", ENDLESS);
    }

    /** Ten RULES that each lead by a NEW way to a PLACE behind: more NEW ways are on no row of ways of ten RULES. */
    private static final String LADDER = "table A 3;table B 3;table C 3;table D 3;"
            + "rule A(x,y,z)->A(x,n,0);rule A(x,y,z)->A(0,y,n);rule A(x,y,z)->A(0,0,z),B(n,0,0);"
            + "rule B(x,y,z)->B(x,n,0);rule B(x,y,z)->B(0,y,n);rule B(x,y,z)->B(0,0,z),C(n,0,0);"
            + "rule C(x,y,z)->C(x,n,0);rule C(x,y,z)->C(0,y,n);rule C(x,y,z)->C(0,0,z),D(n,0,0);";

    private static void greatestRank() {
        term(24, "Terms IV", "The RANK of a PLACE is the greatest number of NEW ways on a row of ways that leads to it "
                + "(if ends() is 1).");
        ChaseHall x = loaded(LADDER + "rule D(x,y,z)->D(x,n,0);");
        same("ends", 1, x.ends(0));
        for (int place = 0; place <= 10; place++) {
            same("place " + place, place, x.rank(0, place / 3, place % 3));
        }
        same("no way leads there", 0, x.rank(0, 3, 2));
        load(x, 1, "table A 3;table D 3;rule A(x,y,z)->D(x,y,n);");
        same("by the rules of its own hall", 0, x.rank(1, 3, 1));
        same("and by these", 1, x.rank(1, 3, 2));
        x = loaded(LADDER + "rule D(x,y,z)->A(x,0,0);");
        same("a ring of all of them", 0, x.ends(0));
        same("no rank", NONE, x.rank(0, 0, 0));
        ranks("rule A(x)->C(x,y,0);rule A(x)->B(x,y);rule B(x,y)->C(0,y,z);rule C(x,y,z)->C(0,0,y);", "0 0 1 0 1 2");
    }

    private static void endsAnswers() {
        promise(23, "1 if every run must end, by the ways of PLACES; else 0.");
        ChaseHall x = new ChaseHall();
        same("an empty hall", 1, x.ends(0));
        load(x, 0, "table A 1;row A(1);");
        same("no rules", 1, x.ends(0));
        load(x, 0, "table A 2;rule A(x,y)->A(y,z);");
        same("rows do not count", 0, x.ends(0));
        load(x, 0, "table A 2;rule A(x,y)->A(y,z);rule A(x,y)->false;");
        same("by the ways alone", 0, x.ends(0));
        load(x, 0, "table A 2;rule A(x,y)->x=y;rule A(x,y)->false;");
        same("no rule makes rows", 1, x.ends(0));
        load(x, 0, "table A 2;rule A(x,y)->x=y;rule A(x,y)->A(y,z);");
        same("the second rule does", 0, x.ends(0));
        load(x, 0, "table A 2;rule A(x,y)->x=y;");
        same("there is no second rule", 1, x.ends(0));
        load(x, 1, "table A 2;rule A(x,y)->A(y,z);");
        same("each hall by itself", 1, x.ends(0));
        same("the other one", 0, x.ends(1));
    }

    private static void rankOfColumn() {
        promise(24, "The RANK of a COLUMN (0 ..) of a TABLE;");
        ChaseHall x = loaded("table A 1;table Z 3;rule A(x)->Z(x,y,x);rule Z(x,y,z)->Z(x,0,y);");
        same("A", 0, x.rank(0, 0, 0));
        same("the first column of Z", 0, x.rank(0, 25, 0));
        same("the second", 1, x.rank(0, 25, 1));
        same("the last", 1, x.rank(0, 25, 2));
    }

    private static void rankNone() {
        promise(24, "NONE if there is none such, or ends() is 0.");
        ChaseHall x = loaded("table A 1;table C 3;");
        same("column 0 of one", 0, x.rank(0, 0, 0));
        same("column 1 of one", NONE, x.rank(0, 0, 1));
        same("column 2 of three", 0, x.rank(0, 2, 2));
        same("column 3 of three", NONE, x.rank(0, 2, 3));
        same("column -1", NONE, x.rank(0, 2, -1));
        for (int table : new int[] {-1, 1, 25, 26, Integer.MIN_VALUE, Integer.MAX_VALUE}) {
            same("table " + table, NONE, x.rank(0, table, 0));
        }
        for (int column : FAR) {
            same("column " + column, NONE, x.rank(0, 0, column));
        }
        same("in an empty hall", NONE, x.rank(1, 0, 0));
        load(x, 0, "table A 2;table B 1;rule A(x,y)->A(y,z);");
        same("a place in the ring", NONE, x.rank(0, 0, 1));
        same("a place beside it", NONE, x.rank(0, 1, 0));
    }
}
