import java.util.NoSuchElementException;

/** The edges of copying, looking, putting and striking: promises 6 to 10, and 25. */
final class EdgesOfHall extends Check {
    private static final int NONE = ChaseHall.NONE;
    private static final int[] FAR = {Integer.MIN_VALUE, -1000, 1000, Integer.MAX_VALUE};

    private EdgesOfHall() {
    }

    static void all() {
        copyAll();
        copyInPlace();
        lookCounts();
        lookNextNumber();
        lookNameless();
        lookState();
        lookSteps();
        lookLeast();
        lookOtherWhat();
        rowParts();
        rowNone();
        putNumber();
        putBeyondColumns();
        putNoTable();
        putNoTerm();
        putForty();
        putNumber200();
        putAlike();
        strikeGoes();
        strikeNone();
        columnsOfTables();
        columnsNone();
    }

    private static void copyAll() {
        promise(6, "A HALL as it is (its latest run, too) comes to another one");
        ChaseHall x = loaded("table A 1;table B 2;row A(1);row A(2);row A(?3);rule A(x)->B(x,y);rule A(x)->x=1;");
        x.strike(0, 0);
        same("a run that failed", 2, x.run(0, 100));
        same("copy", x.look(0, 2), x.copy(0, 1));
        sameText("all of it", Tell.hall(x, 0), Tell.hall(x, 1));
        same("rows get the same numbers then", x.put(0, 1, 7, 7, 0), x.put(1, 1, 7, 7, 0));
        same("the same table", x.columns(0, 1), x.columns(1, 1));
        String before = Tell.hall(x, 0);
        x.put(1, 0, 50, 0, 0);
        x.run(1, 100);
        x.strike(1, 1);
        sameText("they are two then", before, Tell.hall(x, 0));
        x.run(0, 100);
        before = Tell.hall(x, 0);
        same("onto itself", x.look(0, 2), x.copy(0, 0));
        sameText("nothing changes by that", before, Tell.hall(x, 0));
    }

    private static void copyInPlace() {
        promise(6, "in place of what that had: how many ROWS.");
        ChaseHall x = loaded("table A 1;row A(1);row A(?7);rule A(x)->x=1;");
        x.run(0, 100);
        load(x, 1, "table B 2;row B(1,2);row B(3,4);row B(5,6);");
        same("rows", 3, x.copy(1, 0));
        sameText("all of it", Tell.hall(x, 1), Tell.hall(x, 0));
        same("no table A", NONE, x.put(0, 0, 1, 1, 1));
        same("an empty one", 0, x.copy(2, 0));
        for (int what = 0; what <= 7; what++) {
            same("nothing is left: look " + what, 0, x.look(0, what));
        }
        same("no step", NONE, x.step(0, 0, 0));
        same("no row", NONE, x.row(0, 0, 0));
    }

    private static void lookCounts() {
        promise(7, "What 0 TABLES, 1 RULES, 2 ROWS that are there,");
        ChaseHall x = new ChaseHall();
        StringBuilder most = new StringBuilder("table A 1;table B 1;table C 1;table D 1;table E 1;table F 1;");
        for (int r = 0; r < 10; r++) {
            most.append("rule A(x)->B(1);");
        }
        load(x, 0, most.toString());
        for (int n = 0; n < 39; n++) {
            x.put(0, 0, n, 0, 0);
        }
        same("six tables", 6, x.look(0, 0));
        same("ten rules", 10, x.look(0, 1));
        same("39 rows", 39, x.look(0, 2));
        x.run(0, 100);
        same("40 rows", 40, x.look(0, 2));
        x.strike(0, 3);
        same("one less", 39, x.look(0, 2));
        for (int what = 0; what <= 2; what++) {
            same("none in an empty hall: " + what, 0, x.look(1, what));
        }
    }

    private static void lookNextNumber() {
        promise(7, "3 the number the next ROW gets,");
        ChaseHall x = loaded("table A 1;table B 1;row A(1);row A(1);row A(2);rule A(x)->B(3);");
        same("alike ones count once", 2, x.look(0, 3));
        same("put", 2, x.put(0, 0, 5, 0, 0));
        same("next", 3, x.look(0, 3));
        x.put(0, 0, 5, 0, 0);
        x.put(0, 0, 500, 0, 0);
        same("alike or refused", 3, x.look(0, 3));
        x.run(0, 100);
        same("after a run", 4, x.look(0, 3));
        x.strike(0, 3);
        same("struck ones keep theirs", 4, x.look(0, 3));
        same("in an empty hall", 0, x.look(2, 3));
        for (int n = 4; n < 199; n++) {
            x.put(0, 1, 7, 0, 0);
            x.strike(0, n);
        }
        same("the last number", 199, x.look(0, 3));
    }

    private static void lookNameless() {
        promise(7, "4 NAMELESS ones in ROWS,");
        ChaseHall x = loaded("table A 3;row A(?0,?0,?99);row A(?99,0,99);row A(1,2,3);");
        same("each once", 2, x.look(0, 4));
        x.strike(0, 0);
        same("one is left", 1, x.look(0, 4));
        x.strike(0, 1);
        same("none is left", 0, x.look(0, 4));
        for (int n = 0; n < 34; n++) {
            x.put(0, 0, 1000 + 3 * n, 1000 + Math.min(99, 3 * n + 1), 1000 + Math.min(99, 3 * n + 2));
        }
        same("all hundred", 100, x.look(0, 4));
    }

    private static void lookState() {
        promise(7, "5 the STATE (0 not run, 1 ENDED, 2 FAILED, 3 SPENT),");
        ChaseHall x = loaded("table A 1;row A(1);rule A(x)->false;");
        same("not run", 0, x.look(0, 5));
        x.run(0, 0);
        same("spent", 3, x.look(0, 5));
        x.run(0, 1);
        same("failed", 2, x.look(0, 5));
        x.strike(0, 0);
        same("not run since", 0, x.look(0, 5));
        x.run(0, 0);
        same("ended", 1, x.look(0, 5));
    }

    private static void lookSteps() {
        promise(7, "6 STEPS of the latest run,");
        ChaseHall x = loaded("table A 2;row A(1,2);rule A(x,y)->A(y,z);");
        same("no run", 0, x.look(0, 6));
        x.run(0, 3);
        same("three", 3, x.look(0, 6));
        x.put(0, 0, 7, 7, 0);
        same("they stay when a row comes", 3, x.look(0, 6));
        x.strike(0, 0);
        same("or goes", 3, x.look(0, 6));
        x.run(0, 101);
        same("or a run is refused", 3, x.look(0, 6));
        x.run(0, 1);
        same("of the latest alone", 1, x.look(0, 6));
        x.run(0, 0);
        same("none", 0, x.look(0, 6));
    }

    private static void lookLeast() {
        promise(7, "7 the least number of a NAMELESS one that never was there.");
        ChaseHall x = loaded("table A 1;row A(?1);row A(?0);row A(?3);rule A(x)->x=7;");
        same("a gap", 2, x.look(0, 7));
        x.strike(0, 1);
        same("one that was struck was there", 2, x.look(0, 7));
        x.put(0, 0, 1002, 0, 0);
        same("behind them all", 4, x.look(0, 7));
        x.run(0, 100);
        same("those that melted were there", 4, x.look(0, 7));
        same("none is left", 0, x.look(0, 4));
        x.put(0, 0, 1100, 0, 0);
        same("refused ones were not", 4, x.look(0, 7));
        same("in an empty hall", 0, x.look(1, 7));
        for (int n = 0; n < 99; n++) {
            x.put(0, 0, 1000 + n, 0, 0);
            x.strike(0, x.look(0, 3) - 1);
        }
        same("99 is the last one", 99, x.look(0, 7));
    }

    private static void lookOtherWhat() {
        promise(7, "NONE for another what.");
        ChaseHall x = loaded("table A 1;row A(1);");
        same("look(0, -1)", NONE, x.look(0, -1));
        same("look(0, 8)", NONE, x.look(0, 8));
        for (int what : FAR) {
            same("look(0, " + what + ")", NONE, x.look(0, what));
        }
    }

    private static void rowParts() {
        promise(8, "The i-th ROW that is there, by numbers: what 0 its number, 1 its TABLE (0 A .. 25 Z), "
                + "2 .. 4 its TERMS: a VALUE, or 1000 and the number of a NAMELESS one.");
        ChaseHall x = loaded("table Z 3;table A 3;row Z(0,99,?0);row A(7,7,7);row A(?99,1,0);");
        x.strike(0, 1);
        int[][] want = {{0, 25, 0, 99, 1000}, {2, 0, 1099, 1, 0}};
        for (int i = 0; i < 2; i++) {
            for (int what = 0; what <= 4; what++) {
                same("row(0, " + i + ", " + what + ")", want[i][what], x.row(0, i, what));
            }
        }
        for (int n = 0; n < 38; n++) {
            x.put(0, 0, n, n, n);
        }
        same("the last of 40", 40, x.row(0, 39, 0));
        same("its term", 37, x.row(0, 39, 4));
    }

    private static void rowNone() {
        promise(8, "NONE if there is none such, or another what.");
        ChaseHall x = loaded("table A 1;table B 2;row A(1);row B(2,3);");
        same("a second term of one", NONE, x.row(0, 0, 3));
        same("a third term of one", NONE, x.row(0, 0, 4));
        same("the second term of two", 3, x.row(0, 1, 3));
        same("a third term of two", NONE, x.row(0, 1, 4));
        for (int what = 0; what <= 4; what++) {
            same("row -1", NONE, x.row(0, -1, what));
            same("row 2", NONE, x.row(0, 2, what));
            same("row 40", NONE, x.row(0, 40, what));
            same("no rows at all", NONE, x.row(1, 0, what));
        }
        same("what -1", NONE, x.row(0, 0, -1));
        same("what 5", NONE, x.row(0, 0, 5));
        for (int far : FAR) {
            same("row " + far, NONE, x.row(0, far, 0));
            same("what " + far, NONE, x.row(0, 0, far));
        }
    }

    private static void putNumber() {
        promise(9, "A ROW is put in: TABLE, TERMS (as in row();");
        ChaseHall x = loaded("table A 3;table Z 1;");
        same("first", 0, x.put(0, 0, 0, 99, 1000));
        same("last", 1, x.put(0, 25, 1099, 0, 0));
        sameText("as in row()", "0A(0,99,1000) 1Z(1099)", rows(x, 0));
        same("its nameless ones are there", 2, x.look(0, 4));
        same("and were there", 1, x.look(0, 7));
    }

    private static void putBeyondColumns() {
        promise(9, "those beyond its COLUMNS do not count): its number, or that of the one it is alike.");
        ChaseHall x = loaded("table A 1;table B 2;table C 3;");
        same("one column", 0, x.put(0, 0, 5, -1, 5000));
        same("two columns", 1, x.put(0, 1, 5, 6, Integer.MIN_VALUE));
        same("alike whatever is beyond", 0, x.put(0, 0, 5, 7, 7));
        same("alike whatever is beyond two", 1, x.put(0, 1, 5, 6, 1001));
        same("nameless ones beyond were never there", 0, x.look(0, 7));
        same("the second counts", 2, x.put(0, 1, 5, 7, 0));
        same("the third counts", 3, x.put(0, 2, 5, 5, 5));
        same("the third counts indeed", 4, x.put(0, 2, 5, 5, 6));
        sameText("rows", "0A(5) 1B(5,6) 2B(5,7) 3C(5,5,5) 4C(5,5,6)", rows(x, 0));
    }

    private static void putNoTable() {
        promise(9, "NONE: no such TABLE,");
        ChaseHall x = loaded("table B 1;table Y 1;");
        for (int table : new int[] {-1, 0, 2, 23, 25, 26, Integer.MIN_VALUE, Integer.MAX_VALUE}) {
            same("table " + table, NONE, x.put(0, table, 1, 1, 1));
        }
        same("of another hall", NONE, x.put(1, 1, 1, 1, 1));
        same("no row", 0, x.look(0, 2));
        same("no number", 0, x.look(0, 3));
    }

    private static void putNoTerm() {
        promise(9, "a TERM that can't be,");
        ChaseHall x = loaded("table A 1;table C 3;row A(1);");
        x.run(0, 0);
        String before = Tell.hall(x, 0);
        for (int t : new int[] {-1, 100, 999, 1100, 2000, 2025, Integer.MIN_VALUE, Integer.MAX_VALUE}) {
            same("first " + t, NONE, x.put(0, 0, t, 1, 1));
            same("first of three " + t, NONE, x.put(0, 2, t, 1000, 1));
            same("second " + t, NONE, x.put(0, 2, 1000, t, 1));
            same("third " + t, NONE, x.put(0, 2, 1000, 1, t));
        }
        sameText("nothing changed", before, Tell.hall(x, 0));
    }

    private static void putForty() {
        promise(9, "40 are there,");
        ChaseHall x = loaded("table A 1;table B 1;");
        for (int n = 0; n < 40; n++) {
            same("put " + n, n, x.put(0, n % 2, n, 0, 0));
        }
        x.run(0, 0);
        same("the 41st", NONE, x.put(0, 0, 1050, 0, 0));
        same("of the other table", NONE, x.put(0, 1, 50, 0, 0));
        same("nothing changed", 40, x.look(0, 3));
        same("not even the state", 1, x.look(0, 5));
        same("nor a nameless one", 0, x.look(0, 7));
        x.strike(0, 20);
        same("room again", 40, x.put(0, 0, 1050, 0, 0));
        same("no more room", NONE, x.put(0, 0, 51, 0, 0));
    }

    private static void putNumber200() {
        promise(9, "or number 200.");
        ChaseHall x = loaded("table A 1;");
        for (int n = 0; n < 199; n++) {
            x.put(0, 0, n % 100, 0, 0);
            x.strike(0, n);
        }
        same("number 199", 199, x.put(0, 0, 5, 0, 0));
        x.run(0, 0);
        same("number 200", NONE, x.put(0, 0, 1006, 0, 0));
        same("one row", 1, x.look(0, 2));
        same("the state stays", 1, x.look(0, 5));
        same("no nameless one", 0, x.look(0, 7));
        x.strike(0, 199);
        same("an empty hall has none, too", NONE, x.put(0, 0, 5, 0, 0));
        load(x, 0, "table A 1;");
        same("numbers start anew with a text", 0, x.put(0, 0, 5, 0, 0));
    }

    private static void putAlike() {
        promise(9, "(One that is alike changes nothing.)");
        ChaseHall x = loaded("table A 2;row A(1,?1);row A(2,2);rule A(x,x)->A(x,1);");
        x.strike(0, 1);
        x.put(0, 0, 2, 2, 0);
        x.run(0, 100);
        String before = Tell.hall(x, 0);
        same("alike", 0, x.put(0, 0, 1, 1001, 0));
        same("alike one that was put", 2, x.put(0, 0, 2, 2, 0));
        same("alike one that was made", 3, x.put(0, 0, 2, 1, 0));
        sameText("nothing changed", before, Tell.hall(x, 0));
        x.strike(0, 0);
        same("one that went is none", 4, x.put(0, 0, 1, 1001, 0));
    }

    private static void strikeGoes() {
        promise(10, "The ROW of a number goes: true;");
        ChaseHall x = loaded("table A 1;row A(1);row A(2);row A(3);");
        x.run(0, 0);
        yes("the one between", x.strike(0, 1));
        sameText("the others stay", "0A(1) 2A(3)", rows(x, 0));
        same("not run", 0, x.look(0, 5));
        yes("the last", x.strike(0, 2));
        yes("the first", x.strike(0, 0));
        same("none is left", 0, x.look(0, 2));
        for (int n = 3; n < 43; n++) {
            x.put(0, 0, n, 0, 0);
        }
        yes("the last of 40", x.strike(0, 42));
        same("39 are left", 39, x.look(0, 2));
        same("the last one then", 41, x.row(0, 38, 0));
        same("none behind it", NONE, x.row(0, 39, 0));
    }

    private static void strikeNone() {
        promise(10, "false if it is not there.");
        ChaseHall x = loaded("table A 1;row A(1);row A(?2);rule A(x)->x=1;");
        x.run(0, 100);
        String before = Tell.hall(x, 0);
        for (int number : new int[] {1, 2, 40, 199, 200, -1, Integer.MIN_VALUE, Integer.MAX_VALUE}) {
            no("strike " + number, x.strike(0, number));
        }
        sameText("nothing changed", before, Tell.hall(x, 0));
        yes("the one that is there", x.strike(0, 0));
        no("twice", x.strike(0, 0));
        no("in an empty hall", x.strike(1, 0));
    }

    private static void columnsOfTables() {
        promise(25, "The COLUMNS of a TABLE (0 A .. 25 Z).");
        ChaseHall x = loaded("table A 1;table M 2;table Z 3;");
        same("A", 1, x.columns(0, 0));
        same("M", 2, x.columns(0, 12));
        same("Z", 3, x.columns(0, 25));
    }

    private static void columnsNone() {
        promise(25, "NoSuchElementException: there is none such in the HALL.");
        ChaseHall x = loaded("table B 1;table Y 3;");
        load(x, 1, "table A 2;");
        for (int table : new int[] {0, 2, 23, 25, -1, 26, Integer.MIN_VALUE, Integer.MAX_VALUE}) {
            hasNot(x, 0, table);
        }
        hasNot(x, 1, 1);
        hasNot(x, 2, 0);
        load(x, 1, "table B 2;");
        hasNot(x, 1, 0);
        refusesHall("columns(3, 0): no such hall comes first", () -> x.columns(3, 0));
        refusesHall("columns(-1, -1): no such hall comes first", () -> x.columns(-1, -1));
    }

    private static void hasNot(ChaseHall x, int h, int table) {
        boolean thrown = false;
        try {
            x.columns(h, table);
        } catch (NoSuchElementException e) {
            thrown = true;
        }
        yes("columns(" + h + ", " + table + ") throws", thrown);
    }
}
