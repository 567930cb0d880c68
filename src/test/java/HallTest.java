import java.util.NoSuchElementException;

/** Promises 6 to 10 and 25: copy, look, row, put, strike, columns. */
final class HallTest {
    private static final int NONE = ChaseHall.NONE;

    public static void main(String[] args) {
        promise6Copy();
        promise7Look();
        promise8Row();
        promise9Put();
        promise9PutLimits();
        promise10Strike();
        promise25Columns();
        Check.finish("HallTest");
    }

    private static void promise6Copy() {
        ChaseHall x = Check.loaded("table A 1; table B 2; row A(1); row A(2); rule A(x) -> B(x,y);");
        x.run(0, 1);
        Check.same("copy", 3, x.copy(0, 2));
        Check.sameText("its rows", Check.rows(x, 0), Check.rows(x, 2));
        for (int what = 0; what <= 7; what++) {
            Check.same("its look " + what, x.look(0, what), x.look(2, what));
        }
        Check.sameText("its step", Check.step(x, 0, 0), Check.step(x, 2, 0));
        Check.same("its by", 0, x.by(2, 2));
        Check.same("its columns", 2, x.columns(2, 1));
        Check.same("its run", 1, x.run(2, 9));
        Check.same("the first one stays", 3, x.look(0, 2));
        x.put(0, 0, 7, 0, 0);
        Check.same("the copy stays", 4, x.look(2, 2));
        Check.same("onto itself", 4, x.copy(2, 2));
        Check.same("itself stays", 1, x.look(2, 5));
        Check.same("an empty one", 0, x.copy(1, 2));
        Check.same("has no tables", 0, x.look(2, 0));
        Check.same("and no steps", 0, x.look(2, 6));
        Check.refusesHall("copy(0, 3)", () -> x.copy(0, 3));
        Check.refusesHall("copy(-1, 0)", () -> x.copy(-1, 0));
        Check.same("refused", 4, x.look(0, 2));
    }

    private static void promise7Look() {
        ChaseHall x = Check.loaded("table A 3; row A(?0,?0,?2); row A(?2,3,99); rule A(x,y,z) -> x = y;");
        int[] want = {1, 1, 2, 2, 2, 0, 0, 1};
        for (int what = 0; what < 8; what++) {
            Check.same("look " + what, want[what], x.look(0, what));
        }
        Check.same("look -1", NONE, x.look(0, -1));
        Check.same("look 8", NONE, x.look(0, 8));
        Check.same("run", 1, x.run(0, 5));
        Check.same("a melted one was there", 1, x.look(0, 7));
        Check.same("nameless ones in rows", 1, x.look(0, 4));
        x.strike(0, 0);
        x.strike(0, 1);
        Check.same("none in rows", 0, x.look(0, 4));
        Check.same("yet they were there", 1, x.look(0, 7));
        x.put(0, 0, 1001, 1, 1);
        Check.same("the least that never was", 3, x.look(0, 7));
        Check.refusesHall("look(3, 99)", () -> x.look(3, 99));
        Check.refusesHall("look(-1, 0)", () -> x.look(-1, 0));
        ChaseHall full = Check.loaded("table A 3;");
        full.run(0, 0);
        for (int n = 0; n < 40; n++) {
            full.put(0, 0, n, 1000 + n, 1000 + n / 2);
            Check.same("not run since a row came", 0, full.look(0, 5));
        }
        Check.same("nameless ones in 40 rows", 40, full.look(0, 4));
        ChaseHall y = Check.loaded("table A 3;");
        for (int n = 0; n < 34; n++) {
            y.put(0, 0, 1000 + 3 * n, 1000 + Math.min(99, 3 * n + 1), 1000 + Math.min(99, 3 * n + 2));
        }
        Check.same("all nameless ones", 100, y.look(0, 4));
        // The document does not say how it is told that no number is left.
        Check.yes("all were there", y.look(0, 7) == NONE || y.look(0, 7) > 99);
    }

    private static void promise8Row() {
        ChaseHall x = Check.loaded("table C 1; table Z 3; row Z(5,?99,5); row C(?0); row C(0);");
        x.strike(0, 1);
        int[][] want = {{0, 25, 5, 1099, 5}, {2, 2, 0, NONE, NONE}};
        for (int i = 0; i < 2; i++) {
            for (int what = 0; what < 5; what++) {
                Check.same("row " + i + " " + what, want[i][what], x.row(0, i, what));
            }
            Check.same("row what 5", NONE, x.row(0, i, 5));
            Check.same("row what -1", NONE, x.row(0, i, -1));
            Check.same("row what least", NONE, x.row(0, i, Integer.MIN_VALUE));
        }
        Check.same("row 2", NONE, x.row(0, 2, 0));
        Check.same("row -1", NONE, x.row(0, -1, 0));
        Check.refusesHall("row(3, 0, 0)", () -> x.row(3, 0, 0));
    }

    private static void promise9Put() {
        ChaseHall x = Check.loaded("table A 2; table B 1; row A(1,2); rule B(x) -> B(x);");
        x.run(0, 0);
        Check.same("alike", 0, x.put(0, 0, 1, 2, 77));
        Check.same("alike changes nothing", 1, x.look(0, 5));
        Check.same("new", 1, x.put(0, 0, 1, 1000, -5));
        Check.same("not run", 0, x.look(0, 5));
        Check.same("nameless", 1, x.look(0, 7));
        Check.same("beyond columns", 2, x.put(0, 1, 99, -1, 5000));
        Check.same("term -1", NONE, x.put(0, 0, 1, -1, 0));
        Check.same("term 100", NONE, x.put(0, 0, 100, 1, 0));
        Check.same("term 999", NONE, x.put(0, 0, 999, 1, 0));
        Check.same("term 1100", NONE, x.put(0, 0, 1, 1100, 0));
        Check.same("no table C", NONE, x.put(0, 2, 1, 1, 1));
        Check.same("table -1", NONE, x.put(0, -1, 1, 1, 1));
        Check.same("table 26", NONE, x.put(0, 26, 1, 1, 1));
        Check.same("three rows", 3, x.look(0, 2));
        x.run(0, 0);
        Check.same("refused", NONE, x.put(0, 0, 1, 100, 0));
        Check.same("refused changes nothing", 1, x.look(0, 5));
        Check.same("first and last nameless", 3, x.put(0, 0, 1000, 1099, 0));
        Check.refusesHall("put(3, ..)", () -> x.put(3, 0, 1, 1, 1));
        x.strike(0, 3);
        Check.same("a new number for one that went", 4, x.put(0, 0, 1000, 1099, 0));
    }

    private static void promise9PutLimits() {
        ChaseHall x = Check.loaded("table A 2;");
        for (int n = 0; n < 40; n++) {
            Check.same("put " + n, n, x.put(0, 0, n, n, 0));
        }
        Check.same("the 41st", NONE, x.put(0, 0, 50, 50, 0));
        Check.same("alike with 40", 39, x.put(0, 0, 39, 39, 0));
        Check.yes("strike", x.strike(0, 0));
        Check.same("room again", 40, x.put(0, 0, 50, 50, 0));
        for (int n = 41; n < 200; n++) {
            x.strike(0, n - 40);
            Check.same("put " + n, n, x.put(0, 0, n % 100, n / 100 + 60, 0));
        }
        x.strike(0, 170);
        Check.yes("no number is left", x.look(0, 3) == NONE || x.look(0, 3) > 199);
        Check.same("number 200", NONE, x.put(0, 0, 5, 5, 0));
        Check.same("39 rows", 39, x.look(0, 2));
        Check.same("alike still", 199, x.put(0, 0, 99, 61, 0));
    }

    private static void promise10Strike() {
        ChaseHall x = Check.loaded("table A 1; row A(1); row A(2); row A(3);");
        x.run(0, 0);
        Check.no("none such", x.strike(0, 3));
        Check.no("below 0", x.strike(0, -1));
        Check.no("200", x.strike(0, 200));
        Check.same("changed nothing", 1, x.look(0, 5));
        Check.yes("strike", x.strike(0, 1));
        Check.same("not run", 0, x.look(0, 5));
        Check.sameText("rows", "0A(1) 2A(3)", Check.rows(x, 0));
        Check.no("twice", x.strike(0, 1));
        Check.same("next number stays", 3, x.look(0, 3));
        Check.refusesHall("strike(3, 0)", () -> x.strike(3, 0));
    }

    private static void promise25Columns() {
        ChaseHall x = Check.loaded("table A 1; table M 2; table Z 3;");
        Check.same("A", 1, x.columns(0, 0));
        Check.same("M", 2, x.columns(0, 12));
        Check.same("Z", 3, x.columns(0, 25));
        for (int table : new int[] {-1, 1, 24, 26, Integer.MAX_VALUE, Integer.MIN_VALUE}) {
            noTable(x, 0, table);
        }
        noTable(x, 1, 0);
        Check.refusesHall("columns(3, 0)", () -> x.columns(3, 0));
        Check.refusesHall("columns(-1, 77)", () -> x.columns(-1, 77));
    }

    private static void noTable(ChaseHall x, int h, int table) {
        try {
            Check.same("columns of " + table, NONE, x.columns(h, table));
            Check.same("columns of " + table + " throws", 1, 0);
        } catch (NoSuchElementException e) {
            Check.yes("there is none such", true);
        }
    }
}
