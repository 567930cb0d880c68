/** The edges of LEADS and CORES: promises 17 to 19, and Terms III by them. */
final class EdgesOfLead extends Check {
    private static final int NONE = ChaseHall.NONE;
    private static final int MOST_TRIES = 20000;

    private EdgesOfLead() {
    }

    static void all() {
        leadsAllRows();
        leadsByTables();
        leadsBack();
        triesAreCounted();
        firstFound();
        firstWithout();
        triesAnew();
        goesOn();
        leadsAnswers();
        standsFor();
        standsNone();
        coreCounts();
        coreSpent();
        coreSpentLate();
        coreKeeps();
    }

    /** HALLS 0 and 1. */
    private static ChaseHall two(String from, String to) {
        ChaseHall x = loaded(from);
        same("rows of " + to, to.split("row ", -1).length - 1, load(x, 1, to));
        return x;
    }

    private static void leadsAllRows() {
        term(17, "Terms III", "A HALL LEADS into another one: each NAMELESS one of its ROWS stands for a TERM, "
                + "so that all its ROWS are ROWS of the other");
        ChaseHall x = two("table A 2;row A(?0,?1);row A(?1,?0);", "table A 2;row A(3,4);row A(4,?9);");
        same("the second row has none", 0, x.leads(0, 1));
        x.put(1, 0, 4, 3, 0);
        same("now it has", 1, x.leads(0, 1));
        same("values do not stand for others", 0, x.leads(1, 0));
        x = two("table A 2;row A(?0,?0);row A(?1,?2);", "table A 2;row A(?5,?5);");
        same("several stand for one", 1, x.leads(0, 1));
        same("a nameless one", 1005, x.stands(2));
        same("and back", 1, x.leads(1, 0));
        same("an empty hall leads into any", 1, x.leads(2, 0));
        same("into an empty one, too", 1, x.leads(2, 2));
        same("none leads into an empty one", 0, x.leads(0, 2));
        same("each leads into itself", 1, x.leads(0, 0));
    }

    private static void leadsByTables() {
        term(17, "Terms III", "(TABLES by their letters and COLUMNS).");
        ChaseHall x = two("table B 1;table A 2;row A(?0,?1);", "table A 2;row A(5,6);");
        same("by letters, not by their order", 1, x.leads(0, 1));
        load(x, 1, "table B 2;row B(5,6);");
        same("another letter", 0, x.leads(0, 1));
        load(x, 1, "table A 1;row A(5);");
        same("fewer columns", 0, x.leads(0, 1));
        load(x, 1, "table A 3;row A(5,6,7);");
        same("more columns", 0, x.leads(0, 1));
        x.strike(0, 0);
        same("without rows columns do not count", 1, x.leads(0, 1));
        load(x, 2, "table A 3;row A(?0,6,?1);");
        same("three columns", 1, x.leads(2, 1));
        same("the third of them", 7, x.stands(1));
    }

    private static void leadsBack() {
        term(17, "Terms III", "It is looked for so: ROWS by numbers, for each those of the other one by numbers, "
                + "of that TABLE, that fit what is chosen; back to the ROW ahead where none does.");
        ChaseHall x = two("table A 2;table B 1;row A(?0,?1);row A(?1,?2);row B(?2);",
                "table A 2;table B 1;row A(1,2);row A(2,3);row A(4,5);row A(2,6);row A(5,7);row B(7);");
        same("only the third way is one", 1, x.leads(0, 1));
        same("?0", 4, x.stands(0));
        same("?1", 5, x.stands(1));
        same("?2", 7, x.stands(2));
        x.strike(1, 5);
        same("no way at all", 0, x.leads(0, 1));
        x.put(1, 1, 6, 0, 0);
        same("back to the row just ahead", 1, x.leads(0, 1));
        same("?0 then", 1, x.stands(0));
        same("?2 then", 6, x.stands(2));
    }

    /**
     * A HALL 0 that looks at so many ROWS of HALL 1 in vain, whose two or three ROWS are all of one TABLE: a ROW
     * that fits f of the m ROWS makes s = 1 + f * (what comes behind it) for s * m TRIES.
     */
    private static ChaseHall inVain(int tries, int m) {
        StringBuilder text = new StringBuilder("table A 2;");
        int nameless = 0;
        int left = tries / m;
        while (left > 1) {
            int fits = m;
            while ((left - 1) % fits != 0) {
                fits--;
            }
            String row = fits == 1 ? "1,?" + nameless : fits == 2 ? "?" + nameless + ",5"
                    : "?" + nameless + ",?" + (nameless + 50);
            text.append("row A(").append(row).append(");");
            nameless++;
            left = (left - 1) / fits;
        }
        text.append("row A(9,?").append(nameless).append(");");
        return two(text.toString(), "table A 2;row A(1,5);row A(2,5);" + (m == 3 ? "row A(3,6);" : ""));
    }

    private static void triesAreCounted() {
        term(17, "Terms III", "Each ROW that is looked at counts a TRY; the 20001st is not made: SPENT.");
        same("20000 tries", 0, inVain(MOST_TRIES, 2).leads(0, 1));
        same("20001 tries", 2, inVain(MOST_TRIES + 1, 3).leads(0, 1));
        same("19998 tries", 0, inVain(MOST_TRIES - 2, 3).leads(0, 1));
        same("20002 tries", 2, inVain(MOST_TRIES + 2, 2).leads(0, 1));
        ChaseHall x = inVain(MOST_TRIES, 2);
        same("once", 0, x.leads(0, 1));
        same("and anew", 0, x.leads(0, 1));
    }

    private static void firstFound() {
        term(18, "Terms III", "The LEAD is the first one found so.");
        ChaseHall x = two("table A 1;row A(?0);row A(?1);", "table A 1;row A(7);row A(3);row A(5);");
        x.strike(1, 0);
        x.put(1, 0, 7, 0, 0);
        same("leads", 1, x.leads(0, 1));
        same("by numbers, not by terms", 3, x.stands(0));
        same("each from the first on", 3, x.stands(1));
        x = two("table A 2;row A(?0,1);row A(?1,?0);", "table A 2;row A(3,1);row A(2,1);row A(8,2);row A(9,3);");
        same("leads", 1, x.leads(0, 1));
        same("the first row chooses first", 3, x.stands(0));
        same("the second what fits", 9, x.stands(1));
    }

    private static void firstWithout() {
        term(19, "Terms III", "CORE: of ROWS by numbers the first one without which the HALL's own ROWS LEAD into the others "
                + "of them");
        ChaseHall x = loaded("table A 2;row A(1,?0);row A(1,?1);");
        same("one of two", 1, x.core(0));
        sameText("the first goes", "1A(1,1001)", rows(x, 0));
        x = loaded("table A 2;row A(1,?0);row A(1,3);row A(1,?1);");
        same("two of three", 2, x.core(0));
        sameText("the value stays", "1A(1,3)", rows(x, 0));
        x = loaded("table A 1;row A(1);row A(2);");
        same("values are their core", 0, x.core(0));
        x = loaded("table A 1;row A(?7);");
        same("a row alone has no others", 0, x.core(0));
        same("an empty hall", 0, x.core(1));
    }

    /** Rings of five and of seven: no ROW can be missed, and no search is long, but all of them together are. */
    private static final String RINGS = "table A 2;row A(?0,?1);row A(?2,?3);row A(?1,?2);row A(?3,?4);row A(?4,?0);"
            + "row A(?5,?6);row A(?6,?7);row A(?7,?8);row A(?8,?9);row A(?9,?10);row A(?10,?11);row A(?11,?5);";

    private static void triesAnew() {
        term(19, "Terms III", "(TRIES counted for each row anew):");
        ChaseHall x = loaded(RINGS);
        same("39820 tries, at most 4510 for a row", 0, x.core(0));
        same("all rows stay", 12, x.look(0, 2));
    }

    private static void goesOn() {
        term(19, "Terms III", "all ROWS that are not what a ROW becomes by that LEAD go; then anew, till there is no such ROW.");
        ChaseHall x = loaded("table A 2;row A(?0,?1);row A(?1,?2);row A(?2,?3);row A(?3,?0);row A(?4,?5);row A(?5,?4);");
        same("a ring of four goes into one of two", 4, x.core(0));
        sameText("at once", "4A(1004,1005) 5A(1005,1004)", rows(x, 0));
        x = loaded("table A 2;row A(1,?0);row A(1,?1);row A(1,?2);");
        same("all that no row becomes", 2, x.core(0));
        sameText("the one that the others became", "1A(1,1001)", rows(x, 0));
        x = loaded("table A 2;row A(?1,?3);row A(?0,?0);row A(2,?2);row A(2,2);");
        same("one after the other", 3, x.core(0));
        sameText("to the last one", "3A(2,2)", rows(x, 0));
        x = loaded("table A 2;row A(?3,?2);row A(?2,?1);row A(?0,?0);row A(?2,2);row A(?2,?2);row A(?2,1);");
        same("three, one after the other", 3, x.core(0));
        sameText("no such row any more", "3A(1002,2) 4A(1002,1002) 5A(1002,1)", rows(x, 0));
        same("a core is its own core", 0, x.core(0));
    }

    private static void leadsAnswers() {
        promise(17, "Whether a HALL LEADS into another one: 1, 0, 2 SPENT.");
        ChaseHall x = two("table A 1;row A(?0);", "table A 1;row A(3);");
        same("leads", 1, x.leads(0, 1));
        same("leads not", 0, x.leads(1, 0));
        same("spent", 2, inVain(MOST_TRIES + 1, 3).leads(0, 1));
        String before = Tell.hall(x, 0) + Tell.hall(x, 1);
        x.leads(0, 1);
        x.leads(1, 0);
        sameText("the halls stay", before, Tell.hall(x, 0) + Tell.hall(x, 1));
    }

    private static void standsFor() {
        promise(18, "For what a NAMELESS one (its number) stands in the latest LEAD that leads() found (as in row());");
        ChaseHall x = two("table A 3;row A(?0,?99,?50);", "table A 3;row A(0,99,?99);");
        same("leads", 1, x.leads(0, 1));
        same("the first number", 0, x.stands(0));
        same("the last number", 99, x.stands(99));
        same("a nameless one", 1099, x.stands(50));
        x.strike(0, 0);
        x.strike(1, 0);
        load(x, 2, "table A 1;row A(?50);row A(?0);row A(7);");
        same("a core", 2, x.core(2));
        same("it stays whatever becomes of the halls", 1099, x.stands(50));
        refusesHall("leads(0, 3)", () -> x.leads(0, 3));
        refusesHall("leads(-1, 0)", () -> x.leads(-1, 0));
        same("it stays when leads() is refused", 99, x.stands(99));
        x.put(0, 0, 1, 2, 1007);
        x.put(1, 0, 1, 2, 3);
        same("leads", 1, x.leads(0, 1));
        same("the latest alone", NONE, x.stands(50));
        same("its own", 3, x.stands(7));
    }

    private static void standsNone() {
        promise(18, "NONE if it is none of it, or the latest leads() was not 1.");
        ChaseHall x = two("table A 2;row A(?1,?3);", "table A 2;row A(5,?7);");
        same("no leads() yet", NONE, x.stands(1));
        same("leads", 1, x.leads(0, 1));
        for (int n : new int[] {0, 2, 4, 7, 99, 100, 1001, -1, Integer.MIN_VALUE, Integer.MAX_VALUE}) {
            same("stands(" + n + ")", NONE, x.stands(n));
        }
        same("leads not", 0, x.leads(1, 0));
        same("none then", NONE, x.stands(1));
        same("nor of what was tried", NONE, x.stands(7));
        ChaseHall y = inVain(MOST_TRIES + 1, 3);
        same("itself", 1, y.leads(0, 0));
        same("stands", 1000, y.stands(0));
        same("spent", 2, y.leads(0, 1));
        for (int n = 0; n < 100; n++) {
            same("none when it is spent: " + n, NONE, y.stands(n));
        }
        same("itself again", 1, y.leads(0, 0));
        same("an empty lead", 1, y.leads(2, 1));
        same("has none", NONE, y.stands(0));
    }

    private static void coreCounts() {
        promise(19, "A HALL becomes its CORE: how many ROWS went;");
        ChaseHall x = loaded("table A 2;row A(?0,?1);row A(?1,?2);row A(4,4);row A(?3,4);");
        same("three", 3, x.core(0));
        sameText("one is left", "2A(4,4)", rows(x, 0));
        same("none", 0, x.core(0));
        same("none of no rows", 0, x.core(1));
        load(x, 0, "table A 1;");
        for (int n = 0; n < 40; n++) {
            x.put(0, 0, n < 39 ? 1000 + n : 7, 0, 0);
        }
        same("39 of 40", 39, x.core(0));
        sameText("the value", "39A(7)", rows(x, 0));
    }

    private static void coreSpent() {
        promise(19, "NONE, and nothing changes: SPENT.");
        StringBuilder text = new StringBuilder("table A 1;table B 2;");
        for (int n = 0; n < 8; n++) {
            text.append("row A(?").append(n).append(");");
        }
        for (int n = 0; n < 8; n++) {
            text.append("row B(?").append(n).append(',').append(n).append(");");
        }
        ChaseHall x = loaded(text + "rule A(x)->B(x,y);");
        x.run(0, 100);
        String before = Tell.hall(x, 0);
        same("spent", NONE, x.core(0));
        sameText("nothing changes", before, Tell.hall(x, 0));
    }

    /** The first ROW goes, and only the search without a later one is SPENT. */
    private static void coreSpentLate() {
        promise(19, "NONE, and nothing changes: SPENT.");
        same("not spent with few of them", 1, loaded(pairs(3)).core(0));
        ChaseHall x = loaded(pairs(5) + "row B(50,60);row B(51,61);row B(52,62);");
        String before = Tell.hall(x, 0);
        same("spent", NONE, x.core(0));
        sameText("nothing changes", before, Tell.hall(x, 0));
        x.strike(0, 0);
        same("spent by the others, too", NONE, x.core(0));
    }

    /** A ROW of C that can be missed, and so many of A that stand for one another till their ROWS of B are looked at. */
    private static String pairs(int count) {
        StringBuilder text = new StringBuilder("table C 1;table A 1;table B 2;row C(?20);row C(7);");
        for (int n = 0; n < count; n++) {
            text.append("row A(?").append(n).append(");");
        }
        for (int n = 0; n < count; n++) {
            text.append("row B(?").append(n).append(',').append(n).append(");");
        }
        return text.toString();
    }

    private static void coreKeeps() {
        promise(19, "(The STATE stays; by() and step() too.)");
        ChaseHall x = loaded("table A 1;table B 2;row A(1);rule A(x)->B(x,y),B(x,z);rule A(x)->B(x,2);");
        same("run", 1, x.run(0, 100));
        same("rows", 4, x.look(0, 2));
        String[] steps = {step(x, 0, 0), step(x, 0, 1)};
        same("two go", 2, x.core(0));
        same("the state", 1, x.look(0, 5));
        same("the steps", 2, x.look(0, 6));
        sameText("step 0", steps[0], step(x, 0, 0));
        sameText("step 1", steps[1], step(x, 0, 1));
        same("by, of one that went", 0, x.by(0, 1));
        same("by, of one that stays", 1, x.by(0, 3));
        same("numbers go on", 4, x.look(0, 3));
        same("nameless ones were there", 2, x.look(0, 7));
    }
}
