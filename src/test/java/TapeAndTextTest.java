/** Promises 1 to 5: a new object, feed, end, load, fault. */
final class TapeAndTextTest {
    private static final int NONE = ChaseHall.NONE;

    public static void main(String[] args) {
        promise1NewObject();
        promise2Feed();
        promise3End();
        promise4Load();
        promise4Afresh();
        promise4Tokens();
        promise4Limits();
        promise5Fault();
        promise5FaultPlaces();
        promise5FaultOrder();
        Check.finish("TapeAndTextTest");
    }

    private static void promise1NewObject() {
        ChaseHall x = new ChaseHall();
        for (int h = 0; h < 3; h++) {
            for (int what = 0; what <= 7; what++) {
                Check.same("new look " + what, 0, x.look(h, what));
            }
            Check.same("new row", NONE, x.row(h, 0, 0));
            Check.same("new step", NONE, x.step(h, 0, 0));
            Check.same("new by", NONE, x.by(h, 0));
            Check.same("new holds", NONE, x.holds(h, 0));
            Check.same("new ends", 1, x.ends(h));
        }
        Check.same("new fault", 0, x.fault(0));
        Check.same("new fault place", NONE, x.fault(1));
        Check.same("new stands", NONE, x.stands(0));
        Check.same("new answer", NONE, x.answer(0, 0));
        Check.no("new tape is empty", x.end(1));
        Check.yes("new tape has no bytes", x.end(0));
    }

    private static void promise2Feed() {
        ChaseHall x = new ChaseHall();
        for (int n = 1; n <= 50; n++) {
            Check.same("feed " + n, 20 * n, x.feed(0x20202020, 0x20202020, 0x20202020, 0x20202020, 0x20202020));
        }
        Check.same("feed beyond 1000", NONE, x.feed(1, 2, 3, 4, 5));
        Check.yes("1000 bytes stay", x.end(1000));
        Check.same("1000 blanks are an empty text", 0, x.load(0));
        Check.same("feed after load", 20, x.feed(-1, -1, -1, -1, -1));
        Check.same("bytes 255 are no token", NONE, x.load(0));
        Check.same("their fault", 1, x.fault(0));
        Check.same("981 bytes and 20", NONE, feedTo(x, 981));
        // "table A 1;" with the highest byte of each number first
        x = new ChaseHall();
        x.feed(0x7461626c, 0x65204120, 0x313b2020, 0x20202020, 0x20202020);
        Check.same("highest byte first", 0, x.load(1));
        Check.same("its table", 1, x.look(1, 0));
    }

    private static int feedTo(ChaseHall x, int bytes) {
        x.end(0);
        for (int n = 0; n < 50; n++) {
            x.feed(0, 0, 0, 0, 0);
        }
        x.end(bytes);
        int answer = x.feed(0, 0, 0, 0, 0);
        Check.no("nothing came", x.end(bytes + 1));
        Check.yes("all stayed", x.end(bytes));
        Check.yes("cut", x.end(980));
        Check.same("980 bytes and 20", 1000, x.feed(0, 0, 0, 0, 0));
        return answer;
    }

    private static void promise3End() {
        ChaseHall x = new ChaseHall();
        x.feed(0, 0, 0, 0, 0);
        Check.no("end(21)", x.end(21));
        Check.no("end(-1)", x.end(-1));
        Check.no("end(least)", x.end(Integer.MIN_VALUE));
        Check.same("nothing changed", 40, x.feed(0, 0, 0, 0, 0));
        Check.yes("end(7)", x.end(7));
        Check.no("end(8) then", x.end(8));
        Check.yes("end(7) again", x.end(7));
        Check.same("feed behind 7", 27, x.feed(0, 0, 0, 0, 0));
        Check.yes("end(0)", x.end(0));
        Check.same("load of nothing", 0, x.load(0));
    }

    private static void promise4Load() {
        ChaseHall x = Check.loaded("table A 2; table Z 1; row A(1,?2); row Z(99); row A(1,?2);rule Z(x)->false;");
        Check.same("rows", 2, x.look(0, 2));
        Check.same("next number", 2, x.look(0, 3));
        Check.same("tables", 2, x.look(0, 0));
        Check.same("rules", 1, x.look(0, 1));
        Check.sameText("rows", "0A(1,1002) 1Z(99)", Check.rows(x, 0));
        x.run(0, 5);
        Check.same("fault keeps the hall", NONE, Check.load(x, 0, "table B 2; row C(1);"));
        Check.sameText("kept rows", "0A(1,1002) 1Z(99)", Check.rows(x, 0));
        Check.same("kept state", 2, x.look(0, 5));
        Check.same("the tape is empty after a fault", 20, x.feed(0, 0, 0, 0, 0));
        x.end(0);
        Check.same("loaded anew", 1, Check.load(x, 0, "table B 1; row B(?5);"));
        Check.same("state anew", 0, x.look(0, 5));
        Check.same("steps anew", 0, x.look(0, 6));
        Check.same("next anew", 1, x.look(0, 3));
        Check.same("nameless anew", 0, x.look(0, 7));
        Check.same("no rule is left", 0, x.look(0, 1));
        Check.same("other halls stay", 0, x.look(1, 0));
        Check.write(x, "table A 1;");
        ChaseHall y = x;
        Check.refusesHall("load(3)", () -> y.load(3));
        Check.refusesHall("load(-1)", () -> y.load(-1));
        Check.same("a refused load keeps the tape", 0, x.load(2));
        Check.same("and it was read then", 1, x.look(2, 0));
    }

    /** What earlier calls tried aside does not come with a text. */
    private static void promise4Afresh() {
        ChaseHall x = Check.loaded("table A 1;row A(?4);rule A(x)->false;");
        x.run(0, 3);
        x.core(0);
        Check.follows(x, 0, "rule A(x)->A(x);");
        Check.same("another hall", 1, Check.load(x, 1, "table A 2;row A(?0,1);"));
        Check.same("its state", 0, x.look(1, 5));
        Check.same("its steps", 0, x.look(1, 6));
        Check.same("its next number", 1, x.look(1, 3));
        Check.same("its nameless ones", 1, x.look(1, 7));
        Check.same("its rules", 0, x.look(1, 1));
    }

    private static void promise4Tokens() {
        loads("table A1;row A(1);", 1);
        loads("table\nA\n2\n;\nrow\nA\n(\n1\n,\n?\n2\n)\n;\n", 1);
        loads("  table A 01; row A(07); row A(7); row A(?07); row A(?7);  ", 2);
        loads("table A 3;row A(1,2,3);rule A(a,b,c)->A(c,b,a),A(z,y,x),A(1,2,3);", 1);
        loads("table A 1;rule A(x)->x=x;rule A(x)->3=4;rule A(x)->3=x;", 0);
        faults("tableA 1;", 1, 0);
        faults("table1", 1, 5);
        faults("Table A 1;", 1, 0);
        faults("table a 1;", 1, 6);
        faults("table A 1a;", 1, 8);
        faults("table A 001;", 1, 8);
        faults("table A 1;row A(1x);", 1, 16);
        faults("table A 1;row A(xy);", 1, 16);
        faults("table A 1;\trow A(1);", 1, 10);
        faults("table A 1;\rrow A(1);", 1, 10);
        faults("table A 1;rule A(x) - > false;", 1, 20);
        faults("table A 1;rule A(x) -", 1, 20);
        faults("table A 1;rule A(x) = x = x;", 1, 20);
        faults("table A 1;rule A(x) -> fals;", 1, 23);
        faults("table A 1;rule A(x) -> table;", 1, 23);
        faults("rule", 1, 4);
        faults(";", 1, 0);
    }

    private static void promise4Limits() {
        StringBuilder rows = new StringBuilder("table A 1;");
        for (int n = 0; n < 40; n++) {
            rows.append("row A(").append(n).append(");");
        }
        loads(rows.toString(), 40);
        loads(rows + "row A(0);row A(39);", 40);
        int place = rows.length() + 4;
        faults(rows + "row A(40);", 4, place);
        faults(rows + "row A(?0);", 4, place);
        faults(rows + "row B(40);", 2, place);
        faults(rows + "row A(3)", 1, place + 4);
        StringBuilder rules = new StringBuilder("table A 1;");
        for (int n = 0; n < 10; n++) {
            rules.append("rule A(x)->false;");
        }
        loads(rules.toString(), 0);
        faults(rules + " rule B(x)->false;", 4, rules.length() + 1);
        faults(rules + " rule", 4, rules.length() + 1);
        loads("table A 1;table B 1;table C 1;table D 1;table E 1;table F 1;", 0);
        faults("table A 1;table B 1;table C 1;table D 1;table E 1;table F 1;table A 1;", 2, 66);
        faults("table A 1;table B 1;table C 1;table D 1;table E 1;table F 1;table G 7;", 4, 66);
        loads("table A 1;rule A(x),A(x),A(x)->A(x),A(x),A(x);", 0);
        faults("table A 1;rule A(x)->A(x),A(x),A(x),A(x);", 4, 36);
        faults("table A 1;rule A(x)->A(x),A(x),A(x),B(x);", 2, 36);
        faults("table A 1;rule A(x)->A(x),A(x),A(x),x;", 1, 36);
    }

    private static void promise5Fault() {
        ChaseHall x = Check.loaded("table A 1;");
        Check.same("no fault", 0, x.fault(0));
        Check.same("no place", NONE, x.fault(1));
        Check.load(x, 1, "table A 5;");
        Check.same("fault(0)", 3, x.fault(0));
        Check.same("fault(1)", 8, x.fault(1));
        Check.same("fault(2)", NONE, x.fault(2));
        Check.same("fault(-1)", NONE, x.fault(-1));
        Check.refusesHall("load(7)", () -> x.load(7));
        Check.refusesHall("ask(7)", () -> x.ask(7));
        Check.refusesHall("follows(7)", () -> x.follows(7));
        Check.same("refused calls do not count", 3, x.fault(0));
        Check.ask(x, 0, "A(x) -> x;");
        Check.same("ask without one", 0, x.fault(0));
        Check.same("ask without a place", NONE, x.fault(1));
        Check.ask(x, 0, "A(x) -> y;");
        Check.same("ask with one", 5, x.fault(0));
        Check.follows(x, 0, "rule A(x) -> A(x);");
        Check.same("follows without one", 0, x.fault(0));
        Check.follows(x, 0, "rule A(x) -> A();");
        Check.same("follows with one", 1, x.fault(0));
        Check.same("its place", 15, x.fault(1));
    }

    private static void promise5FaultPlaces() {
        faults("table A 99;", 3, 8);
        faults("table A;", 1, 7);
        faults("table A 2", 1, 9);
        faults("table A 2;row A(1,2,3);", 3, 20);
        faults("table A 2;row A(1,2,?3);", 3, 20);
        faults("table A 2;row A(1,2,x);", 1, 20);
        faults("table A 2;row A(1,);", 1, 18);
        faults("table A 2;row A();", 1, 16);
        faults("table A 2;row A 1);", 1, 16);
        faults("table A 2;row A(?);", 1, 17);
        faults("table A 2;row A(1 2);", 1, 18);
        faults("table A 2;rule A(x,y,z)->false;", 3, 21);
        faults("table A 2;rule A(x)->false;", 3, 18);
        faults("table A 2;rule A(x,y),->false;", 1, 22);
        faults("table A 2;rule A(x,y)->;", 1, 23);
        faults("table A 2;rule A(x,y)->x;", 1, 24);
        faults("table A 2;rule A(x,y)->x=;", 1, 25);
        faults("table A 2;rule A(x,y)->x=A(x,y);", 1, 25);
        faults("table A 2;rule A(x,y)->x=3,y=3;", 1, 26);
        faults("table A 2;rule A(x,y)->false,false;", 1, 28);
        faults("table A 2;rule A(x,y)->z=x;", 5, 23);
        faults("table A 2;rule A(x,y)->x=z;", 5, 25);
        faults("table A 2;rule A(x,y)->3=z;", 5, 25);
        faults("table A 2;rule A(x,y)->A(?1,2);", 1, 25);
        faults("table A 2;row B(1);", 2, 14);
        faults("row A(1);table A 1;", 2, 4);
        faults("rule B(1)->false;", 2, 5);
    }

    private static void promise5FaultOrder() {
        faults("table A 1;row A(1,2);rule B(x)->false;", 3, 18);
        faults("table A 1;rule A(x)->y=100;", 5, 21);
        faults("table A 1;table A 9;", 2, 16);
        faults("table A 1;row B(1", 2, 14);
        faults("", 0, NONE);
    }

    private static void loads(String text, int rows) {
        ChaseHall x = new ChaseHall();
        Check.same("load of " + text, rows, Check.load(x, 0, text));
        Check.same("fault of " + text, 0, x.fault(0));
    }

    private static void faults(String text, int fault, int place) {
        ChaseHall x = new ChaseHall();
        Check.same("load of " + text, fault == 0 ? 0 : NONE, Check.load(x, 0, text));
        Check.same("fault of " + text, fault, x.fault(0));
        Check.same("place of " + text, place, x.fault(1));
    }
}
