/** Promises 17 to 19: leads, stands, core. */
final class LeadTest {
    private static final int NONE = ChaseHall.NONE;

    public static void main(String[] args) {
        promise17Leads();
        promise17Tables();
        promise17Spent();
        promise17LastTry();
        promise18Stands();
        promise19Core();
        promise19CoreOrder();
        promise19CoreSpent();
        Check.finish("LeadTest");
    }

    private static void promise17Leads() {
        ChaseHall x = Check.loaded("table A 2;row A(?0,?1);row A(?1,3);");
        Check.load(x, 1, "table A 2;row A(5,4);row A(5,6);row A(6,3);");
        Check.same("leads", 1, x.leads(0, 1));
        Check.same("back to the row ahead: ?0", 5, x.stands(0));
        Check.same("back to the row ahead: ?1", 6, x.stands(1));
        Check.same("a value leads to itself alone", 0, x.leads(1, 0));
        x.strike(1, 2);
        Check.same("no more", 0, x.leads(0, 1));
        Check.same("into itself", 1, x.leads(0, 0));
        Check.same("an empty one leads anywhere", 1, x.leads(2, 0));
        Check.same("nothing leads into it", 0, x.leads(0, 2));
        Check.same("empty into empty", 1, x.leads(2, 2));
        Check.refusesHall("leads(0, 3)", () -> x.leads(0, 3));
        Check.refusesHall("leads(-1, 0)", () -> x.leads(-1, 0));
    }

    private static void promise17Tables() {
        ChaseHall x = Check.loaded("table A 1;row A(?0);");
        Check.load(x, 1, "table A 2;row A(1,2);");
        Check.load(x, 2, "table B 1;row B(1);");
        Check.same("other columns", 0, x.leads(0, 1));
        Check.same("another letter", 0, x.leads(0, 2));
        Check.load(x, 2, "table B 1;table A 1;row B(1);row A(2);");
        Check.same("letter and columns", 1, x.leads(0, 2));
        Check.same("its term", 2, x.stands(0));
    }

    /** Six free ROWS over five others make more ways than may be tried. */
    private static void promise17Spent() {
        ChaseHall x = Check.loaded("table A 1;table B 1;row A(?0);row A(?1);row A(?2);row A(?3);row A(?4);"
                + "row A(?5);row B(1);");
        Check.load(x, 1, "table A 1;table B 1;row A(1);row A(2);row A(3);row A(4);row A(5);row B(2);");
        // 5 + 25 + .. + 15625 looks at A, and one at B for each of the 15625 ways: 35155
        Check.same("spent", 2, x.leads(0, 1));
        Check.same("no lead stands", NONE, x.stands(0));
        x.strike(0, 5);
        x.strike(0, 4);
        // 5 + 25 + .. + 625 looks at A, and 625 at B: 1405
        Check.same("not spent", 0, x.leads(0, 1));
    }

    /**
     * Into 40 ROWS of one TABLE, of which 1, 6, 2, 40 and none fit: 40 * (1 + 1 * (1 + 6 * (1 + 2 * (1 + 40)))) looks
     * are just 20000; with one that fits more there are more.
     */
    private static void promise17LastTry() {
        ChaseHall x = Check.loaded("table A 2;row A(1,?0);row A(2,?1);row A(3,?2);row A(?3,?4);row A(9,?5);");
        Check.load(x, 1, "table A 2;");
        for (int n = 0; n < 40; n++) {
            x.put(1, 0, n == 0 ? 1 : n <= 6 ? 2 : n <= 8 ? 3 : 4, n, 0);
        }
        Check.same("40 rows", 40, x.look(1, 2));
        Check.same("20000 tries", 0, x.leads(0, 1));
        x.strike(1, 39);
        x.put(1, 0, 3, 77, 0);
        Check.same("more tries", 2, x.leads(0, 1));
        x.strike(0, 2);
        Check.same("fewer again", 0, x.leads(0, 1));
    }

    private static void promise18Stands() {
        ChaseHall x = Check.loaded("table A 3;row A(?99,?0,7);row A(?5,?5,?5);");
        Check.load(x, 1, "table A 3;row A(?3,8,7);row A(4,4,4);");
        Check.same("leads", 1, x.leads(0, 1));
        Check.same("a nameless one", 1003, x.stands(99));
        Check.same("a value", 8, x.stands(0));
        Check.same("another row", 4, x.stands(5));
        Check.same("none of it", NONE, x.stands(3));
        Check.same("-1", NONE, x.stands(-1));
        Check.same("100", NONE, x.stands(100));
        x.strike(0, 0);
        x.core(0);
        Check.load(x, 0, "table A 1;");
        Check.same("stays whatever the halls become", 8, x.stands(0));
        Check.refusesHall("leads(5, 0)", () -> x.leads(5, 0));
        Check.same("a refused one does not count", 8, x.stands(0));
        Check.same("no lead", 0, x.leads(1, 0));
        Check.same("none stands then", NONE, x.stands(0));
    }

    private static void promise19Core() {
        ChaseHall x = Check.loaded("table A 2;row A(?0,?1);row A(?1,?2);row A(?2,?0);row A(4,4);row A(4,?3);"
                + "rule A(x,y)->A(x,y);");
        x.run(0, 5);
        Check.same("all become A(4,4)", 4, x.core(0));
        Check.sameText("rows", "3A(4,4)", Check.rows(x, 0));
        Check.same("the state stays", 1, x.look(0, 5));
        Check.same("next number stays", 5, x.look(0, 3));
        Check.same("the nameless ones were there", 4, x.look(0, 7));
        Check.same("a core is its core", 0, x.core(0));
        Check.same("an empty hall", 0, x.core(1));
        Check.load(x, 1, "table A 2;row A(?0,?1);row A(?1,?2);row A(?2,?0);");
        Check.same("a ring of three is its core", 0, x.core(1));
        Check.load(x, 1, "table A 2;row A(?0,?1);row A(?1,?0);row A(?2,?3);row A(?3,?4);row A(?4,?5);row A(?5,?2);");
        Check.same("a ring of four becomes one of two", 4, x.core(1));
        Check.refusesHall("core(3)", () -> x.core(3));
        ChaseHall y = Check.loaded("table A 1;table B 2;row A(1);row B(1,1);rule A(x)->B(x,y),B(z,1);"
                + "rule A(x)->B(x,2),B(x,y);");
        y.strike(0, 1);
        y.run(0, 1);
        Check.sameText("made", "0A(1) 2B(1,1000) 3B(1001,1)", Check.rows(y, 0));
        y.put(0, 1, 1, 1, 0);
        Check.same("made ones go", 2, y.core(0));
        Check.same("by stays", 0, y.by(0, 3));
        Check.same("step stays", 2, y.step(0, 0, 1));
    }

    /** The first ROW that can be missed goes, and what is left tells which one it was. */
    private static void promise19CoreOrder() {
        ChaseHall x = Check.loaded("table A 2;row A(1,?0);row A(1,?1);row A(1,?2);");
        Check.same("two go", 2, x.core(0));
        Check.sameText("what the others became stays", "1A(1,1001)", Check.rows(x, 0));
        x = Check.loaded("table A 2;table B 1;row A(1,?0);row A(1,?1);row A(1,?2);row B(?0);");
        Check.same("two go", 2, x.core(0));
        Check.sameText("the one with more to it stays", "0A(1,1000) 3B(1000)", Check.rows(x, 0));
    }

    private static void promise19CoreSpent() {
        StringBuilder text = new StringBuilder("table A 1;table B 3;row B(1,2,3);");
        for (int n = 0; n < 12; n++) {
            text.append("row A(?").append(n).append(");");
        }
        ChaseHall x = Check.loaded(text.toString());
        Check.same("the row of B comes first and is never led", 11, x.core(0));
        text = new StringBuilder("table A 1;table B 3;");
        for (int n = 0; n < 12; n++) {
            text.append("row A(?").append(n).append(");");
        }
        text.append("row B(?0,?1,?2);row B(?3,?4,?5);row B(?6,?7,?8);row B(?9,?10,?11);row B(1,2,3);");
        x = Check.loaded(text.toString());
        x.run(0, 0);
        String before = Check.rows(x, 0);
        Check.same("spent", NONE, x.core(0));
        Check.sameText("nothing changes", before, Check.rows(x, 0));
        Check.same("not even the state", 1, x.look(0, 5));
    }
}
