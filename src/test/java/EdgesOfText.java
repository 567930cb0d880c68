/** The edges of the tape, of texts and of their FAULTS: promises 1 to 5, and Terms I by them. */
final class EdgesOfText extends Check {
    private static final int NONE = ChaseHall.NONE;
    private static final String SIX = "table A 1;table B 1;table C 1;table D 1;table E 1;table F 1;";

    private EdgesOfText() {
    }

    static void all() {
        lastCall();
        newObject();
        feedOrder();
        feedFull();
        endShortens();
        endCutsTokens();
        endRefuses();
        loadInPlace();
        loadAnew();
        loadFault();
        faultOfLatest();
        faultOtherWhat();
        halls();
        tables();
        rules();
        terms();
        rowsOfTables();
        alikeRows();
        numbersOfRows();
        mostRows();
        words();
        greatLetters();
        smallLetters();
        numbers();
        signs();
        blanks();
        texts();
        ruleTexts();
        heads();
        atoms();
        rowTerms();
        firstFault();
        leastFault();
        misplaced();
        wrongTables();
        wrongColumns();
        wrongWidth();
        seventhTable();
        fourthAtom();
        row41();
        rule11();
        unknownVariable();
        kindsOfRules();
    }

    private static void loads(String text, int rows) {
        ChaseHall x = new ChaseHall();
        same("load of " + text, rows, load(x, 0, text));
        same("fault of " + text, 0, x.fault(0));
        same("place of " + text, NONE, x.fault(1));
    }

    private static void faults(String text, int fault, int place) {
        ChaseHall x = new ChaseHall();
        same("load of " + text, NONE, load(x, 0, text));
        same("fault of " + text, fault, x.fault(0));
        same("place of " + text, place, x.fault(1));
    }

    private static String times(int n, String text) {
        return text.repeat(n);
    }

    /** A TABLE A and so many ROWS that differ. */
    private static String rowsOf(int n) {
        StringBuilder text = new StringBuilder("table A 1;");
        for (int i = 0; i < n; i++) {
            text.append("row A(").append(i).append(");");
        }
        return text.toString();
    }

    private static int feedBlanks(ChaseHall x) {
        return x.feed(0x20202020, 0x20202020, 0x20202020, 0x20202020, 0x20202020);
    }

    private static void hasBytes(ChaseHall x, int length) {
        no("the tape has not " + (length + 1) + " bytes", x.end(length + 1));
        yes("the tape has " + length + " bytes", x.end(length));
    }

    private static void lastCall() {
        term(1, "What it is", "An object is used for at most 512 calls after it has been made");
        ChaseHall x = new ChaseHall();
        write(x, "table A 1;");
        x.load(0);
        same("call 4", 0, x.put(0, 0, 5, 0, 0));
        for (int call = 5; call <= 509; call++) {
            same("call " + call, 0, call % 2 == 0 ? x.put(0, 0, 5, 0, 0) : x.look(0, 5));
        }
        same("call 510", 1, x.put(0, 0, 6, 0, 0));
        same("call 511", 1, x.run(0, 100));
        same("call 512", 6, x.row(0, 1, 2));
    }

    private static void newObject() {
        promise(1, "Empty HALLS, an empty tape.");
        ChaseHall x = new ChaseHall();
        for (int h = 0; h <= 2; h++) {
            for (int what = 0; what <= 7; what++) {
                same("look(" + h + ", " + what + ")", 0, x.look(h, what));
            }
            same("row", NONE, x.row(h, 0, 0));
            same("put", NONE, x.put(h, 0, 0, 0, 0));
            no("strike", x.strike(h, 0));
            same("step", NONE, x.step(h, 0, 0));
            same("by", NONE, x.by(h, 0));
            same("holds", NONE, x.holds(h, 0));
            same("hits", NONE, x.hits(h, 0));
            same("rank", NONE, x.rank(h, 0, 0));
            same("core", 0, x.core(h));
        }
        same("stands", NONE, x.stands(0));
        same("answer", NONE, x.answer(0, 0));
        same("fault", 0, x.fault(0));
        same("its place", NONE, x.fault(1));
        hasBytes(x, 0);
        same("load of the empty tape", 0, x.load(0));
        same("no fault", 0, x.fault(0));
        same("feed", 20, feedBlanks(x));
    }

    private static void feedOrder() {
        promise(2, "Twenty bytes come behind the TAPE, of each number the highest first: how many it has.");
        ChaseHall x = new ChaseHall();
        // "table A 1;table B 2;" and "row B(7,?9);" with eight blanks
        same("feed", 20, x.feed(0x7461626c, 0x65204120, 0x313b7461, 0x626c6520, 0x4220323b));
        same("feed behind it", 40, x.feed(0x726f7720, 0x4228372c, 0x3f39293b, 0x20202020, 0x20202020));
        same("load", 1, x.load(0));
        sameText("the row", "0B(7,1009)", rows(x, 0));
        same("the table", 1, x.columns(0, 0));
        x = new ChaseHall();
        // the highest bit of a byte does not spoil those beside it
        x.feed(0x20202080, 0x20202020, 0x20202020, 0x20202020, 0x20202020);
        same("byte 128", NONE, x.load(0));
        same("its place", 3, x.fault(1));
        x.feed(0xff202020, 0x20202020, 0x20202020, 0x20202020, 0x20202020);
        same("byte 255", NONE, x.load(0));
        same("its place", 0, x.fault(1));
        x.feed(0x20202020, 0x20202020, 0x20202020, 0x20202020, 0x202020ff);
        same("the last byte", NONE, x.load(0));
        same("its place", 19, x.fault(1));
    }

    private static void feedFull() {
        promise(2, "NONE, and nothing comes, if there would be more than 1000.");
        ChaseHall x = new ChaseHall();
        for (int n = 1; n <= 50; n++) {
            same("feed " + n, 20 * n, feedBlanks(x));
        }
        same("1000 and 20", NONE, x.feed(-1, -1, -1, -1, -1));
        hasBytes(x, 1000);
        yes("one less", x.end(999));
        same("999 and 20", NONE, x.feed(-1, -1, -1, -1, -1));
        hasBytes(x, 999);
        yes("19 less", x.end(981));
        same("981 and 20", NONE, x.feed(-1, -1, -1, -1, -1));
        hasBytes(x, 981);
        yes("20 less", x.end(980));
        same("980 and 20", 1000, feedBlanks(x));
        same("all are blanks", 0, x.load(0));
        same("room again", 20, feedBlanks(x));
    }

    private static void endShortens() {
        promise(3, "The TAPE has its first n bytes alone: true;");
        ChaseHall x = new ChaseHall();
        write(x, "table A 1;table B 2;");
        yes("all of them", x.end(20));
        yes("ten", x.end(10));
        no("those behind are gone", x.end(11));
        same("load", 0, x.load(0));
        same("one table", 1, x.look(0, 0));
        write(x, "table A 1;table B 2;");
        yes("none", x.end(0));
        same("feed starts anew", 20, feedBlanks(x));
        same("nothing is left of it", 0, x.load(0));
        same("no table", 0, x.look(0, 0));
    }

    private static void endCutsTokens() {
        promise(3, "The TAPE has its first n bytes alone: true;");
        cuts("table A 1;rule A(x)->false;", 20, 1, 19);
        cuts("table A 1;rule A(x)->false;", 21, 1, 21);
        cuts("table A 12;", 9, 1, 9);
        cuts("table A 1x;", 9, 1, 9);
        cuts("table AB 1;", 7, 1, 7);
        cuts("table A 1;tables", 15, 1, 15);
        cuts("table A 1;table B", 14, 1, 10);
        cuts("table A 1;row A(?12);", 18, 1, 18);
        cuts("table A 1;rule A(xy)->false;", 18, 1, 18);
    }

    private static void cuts(String text, int n, int fault, int place) {
        ChaseHall x = new ChaseHall();
        write(x, text);
        yes("end(" + n + ") of " + text, x.end(n));
        same("load of what is left of " + text, NONE, x.load(0));
        isFault(x, fault, place);
    }

    private static void endRefuses() {
        promise(3, "false, changing nothing, if it has not so many, or n is below 0.");
        ChaseHall x = new ChaseHall();
        no("1 of none", x.end(1));
        feedBlanks(x);
        for (int n : new int[] {21, 40, 1000, 1001, Integer.MAX_VALUE, -1, -20, Integer.MIN_VALUE}) {
            no("end(" + n + ")", x.end(n));
        }
        same("nothing changed", 40, feedBlanks(x));
        hasBytes(x, 40);
    }

    private static void loadInPlace() {
        promise(4, "The TAPE, empty then, is read into a HALL, in place of what it had: how many ROWS.");
        ChaseHall x = loaded("table A 2;table B 1;row A(1,?0);row B(3);rule A(x,y)->B(x);");
        x.run(0, 100);
        same("feed", 20, feedBlanks(x));
        write(x, "table A 1;row A(7);row A(7);row A(?7);", 20);
        same("how many rows", 2, x.load(0));
        hasBytes(x, 0);
        int[] want = {1, 0, 2, 2, 1, 0, 0, 0};
        for (int what = 0; what <= 7; what++) {
            same("look " + what, want[what], x.look(0, what));
        }
        same("no step", NONE, x.step(0, 0, 0));
        same("by none", NONE, x.by(0, 2));
        same("columns", 1, x.columns(0, 0));
        same("no other table", NONE, x.put(0, 1, 1, 1, 1));
        same("the empty tape empties it", 0, x.load(0));
        for (int what = 0; what <= 7; what++) {
            same("empty look " + what, 0, x.look(0, what));
        }
    }

    /** Nothing of a RULE, of a run or of a text with a FAULT that were there is in what is loaded then. */
    private static void loadAnew() {
        promise(4, "The TAPE, empty then, is read into a HALL, in place of what it had: how many ROWS.");
        ChaseHall x = loaded("table A 2;row A(1,2);row A(?5,1);rule A(x,y),A(y,z),A(z,w)->A(x,w),A(w,x),A(u,v);"
                + "rule A(x,y)->A(y,z);");
        x.run(0, 5);
        x.core(0);
        follows(x, 0, "rule A(x,y),A(y,z)->A(x,z),A(z,x);");
        same("a fault behind a rule", NONE, load(x, 1, "table A 1;row A(?0);rule A(1),A(2),A(3)->A(4),A(5);#"));
        same("load", 2, load(x, 1, "table A 1;table B 1;row A(3);row B(?1);rule A(x)->B(x);"));
        int[] want = {2, 1, 2, 2, 1, 0, 0, 0};
        for (int what = 0; what <= 7; what++) {
            same("look " + what, want[what], x.look(1, what));
        }
        same("one atom ahead", 1, x.hits(1, 0));
        same("no second atom", NONE, x.hit(1, 0, 1));
        same("no second rule", 1, x.ends(1));
        same("run", 1, x.run(1, 1));
        sameText("one atom behind", "0A(3) 1B(1001) 2B(3)", rows(x, 1));
        same("load of another kind", 1, load(x, 1, "table A 1;row A(3);rule A(x)->x=3;"));
        same("it melts", 1, x.run(1, 0));
        same("load of a third kind", 1, load(x, 1, "table A 1;row A(3);rule A(x)->false;"));
        same("it forbids", 2, x.run(1, 1));
    }

    private static void loadFault() {
        promise(4, "NONE: a FAULT (the HALL stays).");
        ChaseHall x = loaded("table A 1;table B 2;row A(1);rule A(x)->B(x,y);");
        x.run(0, 100);
        String before = Tell.hall(x, 0);
        same("the last sign is missing", NONE, load(x, 0, "table C 3;row C(1,2,3);row C(1,2,4)"));
        sameText("the hall", before, Tell.hall(x, 0));
        hasBytes(x, 0);
        same("an empty hall stays, too", NONE, load(x, 1, "table C 3;row C(1,2,3);rule C(x,y,z)->;"));
        same("no table", 0, x.look(1, 0));
        same("no row", 0, x.look(1, 2));
    }

    private static void faultOfLatest() {
        promise(5, "Of the latest load(), ask() or follows(): what 0 the FAULT (0 without one), 1 its place (NONE).");
        ChaseHall x = new ChaseHall();
        isFault(x, 0, NONE);
        load(x, 0, ";");
        isFault(x, 1, 0);
        load(x, 0, "table A 1;row A(2);");
        isFault(x, 0, NONE);
        ask(x, 0, "A(x)->y;");
        isFault(x, 5, 6);
        ask(x, 0, "A(x)->x;");
        isFault(x, 0, NONE);
        follows(x, 0, "rule A(x,y)->false;");
        isFault(x, 3, 9);
        follows(x, 0, "rule A(x)->false;");
        isFault(x, 0, NONE);
        load(x, 1, "table B 9;");
        isFault(x, 3, 8);
        refusesHall("load(3)", () -> x.load(3));
        refusesHall("ask(-1)", () -> x.ask(-1));
        refusesHall("follows(3)", () -> x.follows(3));
        isFault(x, 3, 8);
        x.run(0, 100);
        x.put(0, 5, 1, 1, 1);
        isFault(x, 3, 8);
    }

    private static void isFault(ChaseHall x, int fault, int place) {
        same("fault(0)", fault, x.fault(0));
        same("fault(1)", place, x.fault(1));
    }

    private static void faultOtherWhat() {
        promise(5, "NONE for another what.");
        ChaseHall x = new ChaseHall();
        load(x, 0, "table A 9;");
        for (int what : new int[] {-1, 2, 3, Integer.MIN_VALUE, Integer.MAX_VALUE}) {
            same("fault(" + what + ")", NONE, x.fault(what));
        }
    }

    private static void halls() {
        term(4, "Terms I", "HALLS 0 .. 2, each with TABLES");
        ChaseHall x = new ChaseHall();
        for (int h = 0; h <= 2; h++) {
            same("load(" + h + ")", 1, load(x, h, "table A " + (h + 1) + ";row A(5" + times(h, ",5") + ");"));
        }
        for (int h = 0; h <= 2; h++) {
            same("each its own", h + 1, x.columns(h, 0));
        }
        write(x, "table B 1;");
        refusesHall("load(-1)", () -> x.load(-1));
        refusesHall("load(3)", () -> x.load(3));
    }

    private static void tables() {
        term(4, "Terms I", "TABLES (six at most, of 1 to 3 COLUMNS)");
        loads(SIX, 0);
        faults(SIX + "table G 1;", 4, 66);
        loads("table A 1;table B 2;table C 3;row A(1);row B(1,2);row C(1,2,3);", 3);
        faults("table A 0;", 3, 8);
        faults("table A 00;", 3, 8);
        faults("table A 4;", 3, 8);
        faults("table A 99;", 3, 8);
    }

    private static void rules() {
        term(4, "Terms I", "RULES (ten) and ROWS; at first none.");
        String ten = "table A 1;" + times(10, "rule A(x)->false;");
        loads(ten, 0);
        same("ten rules", 10, loaded(ten).look(0, 1));
        faults(ten + "rule A(x)->false;", 4, ten.length());
        ChaseHall x = loaded("");
        same("no table", 0, x.look(0, 0));
        same("no rule", 0, x.look(0, 1));
        same("no row", 0, x.look(0, 2));
    }

    private static void terms() {
        term(8, "Terms I", "TERMS in ROWS: VALUES 0 .. 99, NAMELESS ones 0 .. 99.");
        ChaseHall x = loaded("table A 1;row A(0);row A(99);row A(?0);row A(?99);");
        sameText("rows", "0A(0) 1A(99) 2A(1000) 3A(1099)", rows(x, 0));
        faults("table A 1;row A(100);", 1, 16);
        faults("table A 1;row A(?100);", 1, 17);
        faults("table A 1;row A(-1);", 1, 16);
    }

    private static void rowsOfTables() {
        term(4, "Terms I", "A ROW is of a TABLE, with a TERM in each COLUMN;");
        ChaseHall x = loaded("table Z 1;table B 2;table C 3;row Z(7);row B(7,7);row C(7,7,7);");
        sameText("rows", "0Z(7) 1B(7,7) 2C(7,7,7)", rows(x, 0));
        faults("table A 3;row A(1,2);", 3, 19);
        faults("table A 3;row A(1,2,3,4);", 3, 22);
        faults("row (1);", 1, 4);
    }

    private static void alikeRows() {
        term(4, "Terms I", "two ROWS that are alike are one.");
        ChaseHall x = loaded("table A 2;table B 2;row A(1,?7);row A(01,? 07);row A(1,7);row B(1,?7);row A(1,?7);");
        same("rows", 3, x.look(0, 2));
        sameText("the first of them", "0A(1,1007) 1A(1,7) 2B(1,1007)", rows(x, 0));
        same("put", 0, x.put(0, 0, 1, 1007, 0));
        same("no more rows", 3, x.look(0, 2));
    }

    private static void numbersOfRows() {
        term(8, "Terms I", "ROWS have numbers 0, 1, .. as they come, which stay;");
        ChaseHall x = loaded("table A 1;row A(5);row A(4);row A(5);row A(3);");
        sameText("as they come", "0A(5) 1A(4) 2A(3)", rows(x, 0));
        yes("strike", x.strike(0, 1));
        sameText("they stay", "0A(5) 2A(3)", rows(x, 0));
        yes("strike the last", x.strike(0, 2));
        same("a number never comes again", 3, x.put(0, 0, 3, 0, 0));
    }

    private static void mostRows() {
        term(9, "Terms I", "at most 40 are there at once, numbers go to 199.");
        ChaseHall x = loaded(rowsOf(40));
        same("40", 40, x.look(0, 2));
        same("no 41st", NONE, x.put(0, 0, 77, 0, 0));
        for (int n = 0; n < 40; n++) {
            yes("strike", x.strike(0, n));
        }
        for (int n = 40; n < 199; n++) {
            same("put", n, x.put(0, 0, 1, 0, 0));
            yes("strike", x.strike(0, n));
        }
        same("number 199", 199, x.put(0, 0, 1, 0, 0));
        same("no number 200", NONE, x.put(0, 0, 2, 0, 0));
        same("one row", 1, x.look(0, 2));
    }

    private static void words() {
        term(4, "Terms I", "TOKENS of texts: letters (as many as stand together are one): WORDS table, row, rule, false;");
        loads("table A 1;row A(1);rule A(x)->false;", 1);
        faults("tableA 1;", 1, 0);
        faults("table A 1;rowA(1);", 1, 10);
        faults("table A 1;ruleA(x)->false;", 1, 10);
        faults("table A 1;rule A(x)->falsex;", 1, 21);
        faults("tabl A 1;", 1, 0);
        faults("tables A 1;", 1, 0);
        faults("Table A 1;", 1, 0);
        faults("TABLE A 1;", 1, 0);
        faults("table A 1;Row A(1);", 1, 10);
        faults("table A 1;rows A(1);", 1, 10);
        faults("table A 1;rul A(x)->false;", 1, 10);
        faults("table A 1;rule A(x)->False;", 1, 21);
        faults("table A 1;false A(x)->false;", 1, 10);
        faults("table row 1;", 1, 6);
        faults("table A 1;rule A(row)->false;", 1, 17);
    }

    private static void greatLetters() {
        term(4, "Terms I", "TABLES: one great letter;");
        loads("table A 1;table Z 1;row A(1);row Z(1);", 2);
        faults("table @ 1;", 1, 6);
        faults("table [ 1;", 1, 6);
        faults("table a 1;", 1, 6);
        faults("table AB 1;", 1, 6);
        faults("table Ab 1;", 1, 6);
        faults("table \u00c4 1;", 1, 6);
        faults("table A 1;row a(1);", 1, 14);
        faults("table A 1;row AA(1);", 1, 14);
        faults("table A 1;rule AA(x)->false;", 1, 15);
    }

    private static void smallLetters() {
        term(4, "Terms I", "VARIABLES: one small letter (others are none);");
        loads("table A 2;rule A(a,z)->A(z,a);", 0);
        faults("table A 1;rule A(`)->false;", 1, 17);
        faults("table A 1;rule A({)->false;", 1, 17);
        faults("table A 1;rule A(X)->false;", 1, 17);
        faults("table A 1;rule A(xy)->false;", 1, 17);
        faults("table A 1;rule A(xx)->false;", 1, 17);
        faults("table A 1;rule A(xY)->false;", 1, 17);
        faults("table A 1;rule A(\u00e4)->false;", 1, 17);
        faults("table A 1;rule A(x1)->false;", 1, 18);
    }

    private static void numbers() {
        term(4, "Terms I", "NUMBERS: one or two digits (no letter or digit behind; others are none);");
        loads("table A 1;row A(0);row A(9);row A(10);row A(99);", 4);
        loads("table A 01;row A(00);row A(0);row A(07);row A(7);", 2);
        loads("table A1;row A(1);", 1);
        faults("table A 1;row A(100);", 1, 16);
        faults("table A 1;row A(007);", 1, 16);
        faults("table A 1;row A(1234567890123);", 1, 16);
        faults("table A 1;row A(1a);", 1, 16);
        faults("table A 1;row A(12Z);", 1, 16);
        faults("table A 1;rule A(1x)->false;", 1, 17);
        faults("table A 001;", 1, 8);
        faults("table A 1x;", 1, 8);
        faults("table A 1;row A(/);", 1, 16);
        faults("table A 1;row A(:);", 1, 16);
        faults("table A 1;row A(?1x);", 1, 17);
    }

    private static void signs() {
        term(4, "Terms I", "SIGNS ( ) , ; ? = -> .");
        loads("table A 2;row A(1,?2);rule A(x,y)->x=y;", 1);
        faults("table A 1;row A[1);", 1, 15);
        faults("table A 1;row A(1];", 1, 17);
        faults("table A 2;row A(1.2);", 1, 17);
        faults("table A 1:", 1, 9);
        faults("table A 1;rule A(x)=>false;", 1, 19);
        faults("table A 1;rule A(x)-", 1, 19);
        faults("table A 1;rule A(x)- >false;", 1, 19);
        faults("table A 1;rule A(x)>false;", 1, 19);
        faults("table A 1;rule A(x)-->false;", 1, 19);
        faults("table A 1;rule A(x)->x==x;", 1, 23);
        faults("table A 1;rule A(x)->x->x;", 1, 22);
        swapSigns("table A 2;row A(1,?2);rule A(x,y)->x=y;");
    }

    /** No sign can stand for another one. */
    private static void swapSigns(String text) {
        String[] signs = {"(", ")", ",", ";", "?", "=", "->"};
        for (int at = 0; at < text.length(); at++) {
            for (String sign : signs) {
                for (String other : signs) {
                    if (text.startsWith(sign, at) && !sign.equals(other)) {
                        ChaseHall x = new ChaseHall();
                        String swapped = text.substring(0, at) + other + text.substring(at + sign.length());
                        same("load of " + swapped, NONE, load(x, 0, swapped));
                        yes("a fault at it or behind it: " + swapped, x.fault(0) > 0 && x.fault(1) >= at);
                    }
                }
            }
        }
    }

    private static void blanks() {
        term(4, "Terms I", "Blanks (32, 10) between.");
        loads(" table\nA\n \n1 ;\nrow A ( ? 1 ) ; rule\nA ( x ) -> x = 1 ; ", 1);
        loads("table A1;row A(1);rule A(x)->x=1;", 1);
        for (char c : new char[] {0, 9, 11, 12, 13, 31, 33, 127, 160, 255}) {
            faults("table A" + c + " 1;", 1, 7);
        }
        faults("ta ble A 1;", 1, 0);
        faults("table A 1;row A(1 2);", 1, 18);
        faults("table A 1;rule A(x) - > false;", 1, 20);
        loads(times(1000, " "), 0);
        loads(times(1000, "\n"), 0);
    }

    private static void texts() {
        term(4, "Terms I", "text = {table TABLE NUMBER ; | row TABLE ( TERM {, TERM} ) ; | RULE}.");
        loads("", 0);
        loads("table A 1;", 0);
        loads("table A 1;rule A(x)->false;row A(1);table B 1;row B(2);rule B(x)->A(x);", 2);
        faults(";", 1, 0);
        faults("table A 1;;", 1, 10);
        faults("A(1);", 1, 0);
        faults("table 1;", 1, 6);
        faults("table A;", 1, 7);
        faults("table A 1", 1, 9);
        faults("table A 1 row A(1);", 1, 10);
        faults("table A B;", 1, 8);
        faults("table A ?1;", 1, 8);
        faults("table A 1;row A 1);", 1, 16);
        faults("table A 1;row A(1;", 1, 17);
        faults("table A 1;row A(1)", 1, 18);
        faults("table A 1;row A(1),A(2);", 1, 18);
        faults("table A 2;row A(1,);", 1, 18);
        faults("table A 2;row A(,1);", 1, 16);
        faults("table A 2;row A(1,,2);", 1, 18);
    }

    private static void ruleTexts() {
        term(4, "Terms I", "RULE = rule ATOM {, ATOM} -> HEAD ;");
        loads("table A 1;rule A(x)->A(x);", 0);
        loads("table A 1;rule A(x),A(y),A(z)->A(x);", 0);
        faults("table A 1;rule ->A(x);", 1, 15);
        faults("table A 1;rule ;", 1, 15);
        faults("table A 1;rule A(x),->A(x);", 1, 20);
        faults("table A 1;rule ,A(x)->A(x);", 1, 15);
        faults("table A 1;rule A(x) A(y)->A(x);", 1, 20);
        faults("table A 1;rule A(x);", 1, 19);
        faults("table A 1;rule A(x)->A(x)", 1, 25);
        faults("table A 1;rule A(x)->A(x)->A(x);", 1, 25);
        faults("table A 1;rule x=1->A(x);", 1, 15);
        faults("table A 1;rule false->A(1);", 1, 15);
    }

    private static void heads() {
        term(4, "Terms I", "HEAD = ATOM {, ATOM} | PLACE = PLACE | false.");
        loads("table A 1;rule A(x)->A(y),A(z),A(1);rule A(x)->x=x;rule A(x)->1=2;rule A(x)->x=2;"
                + "rule A(x)->1=x;rule A(x)->false;", 0);
        faults("table A 1;rule A(x)->;", 1, 21);
        faults("table A 1;rule A(x)->A(x),;", 1, 26);
        faults("table A 1;rule A(x)->x;", 1, 22);
        faults("table A 1;rule A(x)->x=;", 1, 23);
        faults("table A 1;rule A(x)->=x;", 1, 21);
        faults("table A 1;rule A(x)->x=x=x;", 1, 24);
        faults("table A 1;rule A(x)->x=x,x=x;", 1, 24);
        faults("table A 1;rule A(x)->x=?1;", 1, 23);
        faults("table A 1;rule A(x)->?1=x;", 1, 21);
        faults("table A 1;rule A(x)->x=A(x);", 1, 23);
        faults("table A 1;rule A(x)->A(x),false;", 1, 26);
        faults("table A 1;rule A(x)->A(x),x=x;", 1, 26);
        faults("table A 1;rule A(x)->false,A(x);", 1, 26);
        faults("table A 1;rule A(x)->true;", 1, 21);
        faults("table A 1;rule A(x)->100=x;", 1, 21);
    }

    private static void atoms() {
        term(4, "Terms I", "ATOM = TABLE ( PLACE {, PLACE} ).");
        loads("table A 1;table C 3;rule A(x),C(x,1,y)->C(x,x,2);", 0);
        faults("table A 1;rule A()->false;", 1, 17);
        faults("table A 1;rule A->false;", 1, 16);
        faults("table A 1;rule (x)->false;", 1, 15);
        faults("table A 2;rule A(x,)->false;", 1, 19);
        faults("table A 2;rule A(x y)->false;", 1, 19);
        faults("table A 1;rule A(x->false;", 1, 18);
        faults("table A 1;rule A x)->false;", 1, 17);
        faults("table A 1;rule A((x))->false;", 1, 17);
    }

    private static void rowTerms() {
        term(4, "Terms I", "TERM = NUMBER | ? NUMBER. PLACE = NUMBER | VARIABLE.");
        loads("table A 2;row A(1,?1);rule A(1,x)->A(x,2);", 1);
        faults("table A 1;row A(x);", 1, 16);
        faults("table A 1;row A(?);", 1, 17);
        faults("table A 1;row A(?x);", 1, 17);
        faults("table A 1;row A(??1);", 1, 17);
        faults("table A 1;row A(1?);", 1, 17);
        faults("table A 1;row A(?;", 1, 17);
        faults("table A 2;row A(1,?);", 1, 19);
        faults("table A 1;rule A(?1)->false;", 1, 17);
        faults("table A 1;rule A(x)->A(?1);", 1, 23);
    }

    private static void firstFault() {
        term(5, "Terms I", "FAULTS, the first one by its place");
        faults("table A 1;rule A(x)->y=100;", 5, 21);
        faults("table A 1;table B 4;table A 1;", 3, 18);
        faults("table A 1;row B(100);", 2, 14);
        faults("table A 1;row A(1,2) row;", 3, 18);
        faults("table A 1;rule A(x),A(x),A(x),A(?1)->false;", 4, 30);
        faults("table A 9;#", 3, 8);
        faults("#table A 9;", 1, 0);
        faults("table A 1;row A(1,?1,?);", 3, 18);
        faults(SIX + "table G 0;", 4, 66);
    }

    private static void leastFault() {
        term(5, "Terms I", "at one place the least:");
        faults(SIX + "table A 1;", 2, 66);
        faults("table A 1;rule A(x),A(x),A(x),B(x)->false;", 2, 30);
        faults("table A 1;rule A(x),A(x),A(x),x->false;", 1, 30);
        faults("table A 1;row A(1,x);", 1, 18);
        faults("table A 1;rule A(x,?)->false;", 1, 19);
        faults("table A 2;row A();", 1, 16);
        faults("table A 2;row A(1,);", 1, 18);
        faults("table A 100;", 1, 8);
        faults(SIX + "table 7;", 1, 66);
    }

    private static void misplaced() {
        term(5, "Terms I", "1 what can't stand there (the end: its place is the text's length).");
        String whole = "table A 1;rule A(x)->x=1;";
        int[] ends = {5, 7, 9, 14, 16, 17, 18, 19, 21, 22, 23, 24};
        for (int n : ends) {
            faults(whole.substring(0, n), 1, n);
            faults(whole.substring(0, n) + "  \n", 1, n + 3);
        }
        faults("table A 1;row", 1, 13);
        faults("table A 1;row A(?", 1, 17);
        faults("table A 1;row A(1", 1, 17);
        faults("table A 1;" + times(990, " ").substring(3) + "row", 1, 1000);
        for (String last : new String[] {"#", "-", "7", "x", "(", "?", ";", "A"}) {
            faults("table A 1;" + times(989, " ") + last, 1, 999);
        }
        faults("table A 1;" + times(988, " ") + "->", 1, 998);
        loads("table A 1" + times(990, " ") + ";", 0);
    }

    private static void wrongTables() {
        term(5, "Terms I", "2 (at a TABLE) it is there already; it is none, where it is used.");
        faults("table A 1;table A 1;", 2, 16);
        faults("table A 1;table B 1;table A 2;", 2, 26);
        faults("row A(1);", 2, 4);
        faults("row A(1);table A 1;", 2, 4);
        faults("rule A(x)->false;", 2, 5);
        faults("table A 1;rule A(x),B(x)->false;", 2, 20);
        faults("table A 1;rule A(x)->B(x);table B 1;", 2, 21);
        faults("table A 1;rule A(x)->A(x),B(x);", 2, 26);
        ChaseHall x = loaded("table B 1;");
        same("what the hall had does not count", NONE, load(x, 0, "row B(1);"));
        same("its fault", 2, x.fault(0));
        same("nor is it there already", 0, load(x, 0, "table B 1;"));
    }

    private static void wrongColumns() {
        term(5, "Terms I", "3 (at the NUMBER) COLUMNS not 1 .. 3;");
        loads("table A 1;table B 2;table C 3;", 0);
        for (String columns : new String[] {"0", "00", "4", "04", "10", "99"}) {
            faults("table A " + columns + ";", 3, 8);
            faults("table A   " + columns, 3, 10);
        }
    }

    private static void wrongWidth() {
        term(5, "Terms I", "(at the TERM or PLACE) more than the COLUMNS; (at the ) ) fewer.");
        faults("table A 1;row A(1,2);", 3, 18);
        faults("table A 1;row A(1, ?2);", 3, 19);
        faults("table A 2;row A(1,2,3);", 3, 20);
        faults("table A 3;row A(1,2,3,4);", 3, 22);
        faults("table A 2;row A(1);", 3, 17);
        faults("table A 3;row A(1 );", 3, 18);
        faults("table A 3;row A(1,?2);", 3, 20);
        faults("table A 1;rule A(x,y)->false;", 3, 19);
        faults("table A 3;rule A(x,y,z,1)->false;", 3, 23);
        faults("table A 3;rule A(x,y)->false;", 3, 20);
        faults("table A 2;rule A(x,y)->A(x);", 3, 26);
        faults("table A 2;rule A(x,y)->A(x,y,y);", 3, 29);
    }

    private static void seventhTable() {
        term(5, "Terms I", "4 too much (at the TABLE): the 7th TABLE,");
        loads(SIX, 0);
        faults(SIX + "table G 1;", 4, 66);
        faults(SIX + "table  G", 4, 67);
        faults(SIX + "table Z 9;", 4, 66);
    }

    private static void fourthAtom() {
        term(5, "Terms I", "4th ATOM of a side,");
        loads("table A 1;rule A(x),A(y),A(z)->A(x),A(y),A(z);", 0);
        faults("table A 1;rule A(x),A(y),A(z),A(w)->A(x);", 4, 30);
        faults("table A 1;rule A(x),A(x),A(x),A(x)->A(x);", 4, 30);
        faults("table A 1;rule A(x)->A(x),A(y),A(z),A(w);", 4, 36);
        faults("table A 1;rule A(x),A(y),A(z)->A(x),A(y),A(z), A", 4, 47);
    }

    private static void row41() {
        term(5, "Terms I", "41st ROW (that is not alike another one);");
        String forty = rowsOf(40);
        loads(rowsOf(39) + "row A(77);", 40);
        loads(forty, 40);
        loads(forty + "row A(39);row A(0);row A(07);", 40);
        faults(forty + "row A(40);", 4, forty.length() + 4);
        faults(forty + "row A(?39);", 4, forty.length() + 4);
        faults(forty + "row A(3);row  A(40);", 4, forty.length() + 14);
        ChaseHall x = loaded("table A 1;row A(1);");
        same("refused", NONE, load(x, 0, forty + "row A(40);"));
        sameText("the hall stays", "0A(1)", rows(x, 0));
    }

    private static void rule11() {
        term(5, "Terms I", "the 11th RULE (at rule).");
        String ten = "table A 1;" + times(10, "rule A(x)->x=1;");
        loads(ten, 0);
        faults(ten + "rule A(x)->x=1;", 4, ten.length());
        faults(ten + "  rule", 4, ten.length() + 2);
        faults(ten + "row A(1);rule B(x)->false;", 4, ten.length() + 9);
    }

    private static void unknownVariable() {
        term(5, "Terms I", "5 (at it) a VARIABLE of PLACE = PLACE that is not in the ATOMS ahead.");
        loads("table A 2;rule A(x,1),A(2,y)->y=x;", 0);
        faults("table A 1;rule A(x)->y=x;", 5, 21);
        faults("table A 1;rule A(x)->x= y;", 5, 24);
        faults("table A 1;rule A(x)->1=y;", 5, 23);
        faults("table A 1;rule A(x)->y=1;", 5, 21);
        faults("table A 1;rule A(1)->x=x;", 5, 21);
        faults("table A 1;rule A(a)->a=b;", 5, 23);
        faults("table A 1;rule A(x)->a=x;", 5, 21);
        faults("table A 1;rule A(x)->x=z;", 5, 23);
        faults("table A 1;rule A(y)->x=y;", 5, 21);
        faults("table A 1;rule A(x)->false;rule A(y)->x=1;", 5, 38);
    }

    private static void kindsOfRules() {
        term(11, "Terms I", "RULES make ROWS (those with ATOMS behind ->; VARIABLES that are behind it alone are NEW), "
                + "MELT, or FORBID (false).");
        ChaseHall x = loaded("table A 1;table B 2;row A(5);rule A(x)->B(x,y);");
        same("one that makes rows", 1, x.run(0, 100));
        sameText("y is new, x is not", "0A(5) 1B(5,1000)", rows(x, 0));
        x = loaded("table A 1;table B 2;row A(5);rule A(x)->B(1,2);");
        same("one without variables behind", 1, x.run(0, 100));
        sameText("nothing is new", "0A(5) 1B(1,2)", rows(x, 0));
        x = loaded("table A 1;row A(?5);rule A(x)->x=2;");
        same("one that melts", 1, x.run(0, 100));
        sameText("no row is made", "0A(2)", rows(x, 0));
        x = loaded("table A 1;row A(5);rule A(x)->false;");
        same("one that forbids", 2, x.run(0, 100));
    }
}
