import java.nio.charset.StandardCharsets;
import java.util.NoSuchElementException;
import java.util.Random;

/** Random runs of calls (always the same ones) on ChaseHall and on ModelHall, answer against answer. */
final class AgainstModelTest {
    private static final int THROWN_HALL = -1001;
    private static final int THROWN_TABLE = -1002;
    /** What an object answers behind so many calls is free. */
    private static final int MOST_CALLS = 512;

    /** The object has been used for all the calls that it may. */
    private static final class Used extends RuntimeException {
        private static final long serialVersionUID = 1L;
    }

    private static final class Spread {
        final int[] loads = new int[7];
        final int[] states = new int[5];
        final int[] leads = new int[3];
        final int[] follows = new int[4];
        final int[] ends = new int[2];
        int shrunk = 0;
        int answered = 0;
        int melted = 0;
        int used = 0;
    }

    private interface Call {
        int answer();
    }

    private final Random random;
    private final ChaseHall real = new ChaseHall();
    private final ModelHall model = new ModelHall();
    private final StringBuilder story = new StringBuilder();
    private final Spread spread;
    private int calls = 0;

    private AgainstModelTest(long seed, Spread spread) {
        this.random = new Random(seed);
        this.spread = spread;
    }

    private static int outcome(Call call) {
        try {
            return call.answer();
        } catch (IndexOutOfBoundsException e) {
            return e.getClass() == IndexOutOfBoundsException.class ? THROWN_HALL : -2000;
        } catch (NoSuchElementException e) {
            return THROWN_TABLE;
        }
    }

    private int both(String what, Call ofReal, Call ofModel) {
        calls++;
        if (calls > MOST_CALLS) {
            throw new Used();
        }
        int got = outcome(ofReal);
        int want = outcome(ofModel);
        if (got != want) {
            Check.same(story + what, want, got);
            Check.finish("AgainstModelTest");
        }
        return want;
    }

    private int below(int n) {
        return random.nextInt(n);
    }

    /** Mostly a HALL, now and then none. */
    private int hall() {
        return below(60) == 0 ? below(2) * 4 - 1 : below(2) * below(3);
    }

    // texts

    private int tableCount = 2;
    private final int[] columns = new int[26];

    private String table() {
        return "" + (char) ('A' + below(tableCount));
    }

    private String cells(String table, boolean row, int spread) {
        StringBuilder all = new StringBuilder(table).append("(");
        int n = columns[table.charAt(0) - 'A'];
        if (below(300) == 0) {
            n += below(3) - 1;
        }
        for (int c = 0; c < n; c++) {
            all.append(c == 0 ? "" : ",");
            if (row) {
                all.append(below(3) == 0 ? "?" : "").append(below(spread));
            } else {
                all.append(below(9) == 0 ? "" + below(spread) : "" + (char) ('u' + below(5)));
            }
        }
        return all.append(")").toString();
    }

    private String atoms(int most, int spread) {
        StringBuilder all = new StringBuilder();
        int n = 1 + (below(200) == 0 ? most : below(most));
        for (int a = 0; a < n; a++) {
            all.append(a == 0 ? "" : ", ").append(cells(table(), false, spread));
        }
        return all.toString();
    }

    private String rule(int spread) {
        String ahead = atoms(below(4) == 0 ? 3 : 2, spread);
        int kind = below(10);
        String head = kind == 0 ? "false" : kind < 4 ? side(ahead, spread) + " = " + side(ahead, spread)
                : atoms(below(3) == 0 ? 3 : 2, spread);
        return "rule " + ahead + " -> " + head + ";";
    }

    private String side(String ahead, int spread) {
        for (int n = 0; n < 30; n++) {
            char c = ahead.charAt(below(ahead.length()));
            if (c >= 'a' && c <= 'z') {
                return "" + c;
            }
        }
        return below(20) == 0 ? "z" : "" + below(spread);
    }

    private String hallText() {
        StringBuilder all = new StringBuilder();
        // HALLS with the same TABLES can LEAD into one another, and know the TABLES of questions.
        boolean others = columns[0] == 0 || below(6) == 0;
        tableCount = others ? 1 + below(below(20) == 0 ? 7 : 3) : tableCount;
        for (int t = 0; t < tableCount; t++) {
            columns[t] = others ? 1 + below(3) : columns[t];
            all.append("table ").append((char) ('A' + t)).append(" ").append(columns[t]).append("; ");
        }
        int spread = 1 + below(6);
        int rows = below(8) == 0 ? 20 + below(25) : below(10);
        for (int r = 0; r < rows; r++) {
            all.append("row ").append(cells(table(), true, rows > 15 ? 12 : spread)).append(";");
        }
        int rules = below(20) == 0 ? 9 + below(4) : below(5);
        for (int r = 0; r < rules; r++) {
            all.append(below(2) == 0 ? " " : "\n").append(rule(spread));
        }
        return maim(all.toString());
    }

    /** Now and then a text is broken somewhere. */
    private String maim(String text) {
        if (text.isEmpty() || below(7) != 0) {
            return text;
        }
        int at = below(text.length());
        String odd = "AaZz09 ,;()?=->\t\nxrow\u00e9#";
        String more = below(3) == 0 ? "" : "" + odd.charAt(below(odd.length()));
        return text.substring(0, at) + more + text.substring(Math.min(text.length(), at + below(2)));
    }

    private void write(String text) {
        byte[] bytes = text.getBytes(StandardCharsets.ISO_8859_1);
        int[] w = new int[5];
        for (int from = 0; from < bytes.length; from += 20) {
            for (int i = 0; i < 20; i++) {
                w[i / 4] = w[i / 4] << 8 | (from + i < bytes.length ? bytes[from + i] & 255 : ' ');
            }
            both("feed", () -> real.feed(w[0], w[1], w[2], w[3], w[4]),
                    () -> model.feed(w[0], w[1], w[2], w[3], w[4]));
        }
        int n = bytes.length;
        both("end", () -> real.end(n) ? 1 : 0, () -> model.end(n) ? 1 : 0);
        story.append('"').append(text).append("\" ");
    }

    private void compareFault() {
        both("fault(0)", () -> real.fault(0), () -> model.fault(0));
        both("fault(1)", () -> real.fault(1), () -> model.fault(1));
    }

    // calls

    private void load(int h) {
        write(hallText());
        int rows = both("load(" + h + ")", () -> real.load(h), () -> model.load(h));
        story.append("load(").append(h).append(") ");
        compareFault();
        spread.loads[rows == ModelHall.NONE ? model.fault(0) : 0]++;
    }

    private void run(int h) {
        int steps = below(30) == 0 ? below(2) * 102 - 1 : below(5) == 0 ? below(4) : below(101);
        String call = "run(" + h + ", " + steps + ") ";
        int state = both(call, () -> real.run(h, steps), () -> model.run(h, steps));
        story.append(call);
        if (state >= 0) {
            spread.states[state]++;
        }
    }

    private void put(int h) {
        int t = below(tableCount + 1) - (below(30) == 0 ? 1 : 0);
        int[] terms = new int[3];
        for (int c = 0; c < 3; c++) {
            terms[c] = below(40) == 0 ? below(1300) - 100 : below(2) == 0 ? below(5) : 1000 + below(5);
        }
        String call = "put(" + h + ", " + t + ", " + terms[0] + ", " + terms[1] + ", " + terms[2] + ") ";
        both(call, () -> real.put(h, t, terms[0], terms[1], terms[2]),
                () -> model.put(h, t, terms[0], terms[1], terms[2]));
        story.append(call);
    }

    private void strike(int h) {
        int number = below(20) - 1;
        String call = "strike(" + h + ", " + number + ") ";
        both(call, () -> real.strike(h, number) ? 1 : 0, () -> model.strike(h, number) ? 1 : 0);
        story.append(call);
    }

    private void leads(int h, int to) {
        String call = "leads(" + h + ", " + to + ") ";
        int led = both(call, () -> real.leads(h, to), () -> model.leads(h, to));
        story.append(call);
        for (int n = -1; n <= 100; n += n == 12 ? 87 : 1) {
            int nameless = n;
            both("stands(" + n + ")", () -> real.stands(nameless), () -> model.stands(nameless));
        }
        if (led >= 0) {
            spread.leads[led]++;
        }
    }

    private void core(int h) {
        int went = both("core(" + h + ")", () -> real.core(h), () -> model.core(h));
        story.append("core(").append(h).append(") ");
        spread.shrunk += went > 0 ? 1 : 0;
    }

    private void ask(int h) {
        String atoms = atoms(2, 6);
        StringBuilder text = new StringBuilder(atoms).append(" -> ");
        int n = 1 + below(below(20) == 0 ? 4 : 3);
        for (int k = 0; k < n; k++) {
            text.append(k == 0 ? "" : ",").append(below(30) == 0 ? "z" : side(atoms, 6));
        }
        write(maim(text.append(";").toString()));
        int found = both("ask(" + h + ")", () -> real.ask(h), () -> model.ask(h));
        story.append("ask(").append(h).append(") ");
        compareFault();
        for (int i = -1; i <= Math.min(found, 50); i++) {
            for (int k = -1; k <= 3; k++) {
                int row = i;
                int part = k;
                both("answer(" + i + ", " + k + ")", () -> real.answer(row, part), () -> model.answer(row, part));
            }
        }
        spread.answered += found > 1 ? 1 : 0;
    }

    private void follows(int h) {
        write(maim(rule(4)));
        int found = both("follows(" + h + ")", () -> real.follows(h), () -> model.follows(h));
        story.append("follows(").append(h).append(") ");
        compareFault();
        spread.follows[Math.max(found, ModelHall.NONE) + 1]++;
    }

    private void copy(int h, int to) {
        String call = "copy(" + h + ", " + to + ") ";
        both(call, () -> real.copy(h, to), () -> model.copy(h, to));
        story.append(call);
    }

    /** What can be seen of a HALL; of a long run some STEPS, lest they use up the object. */
    private void compareHall(int h) {
        for (int i = -1; i <= 8; i++) {
            int what = i;
            both("look(" + h + ", " + i + ")", () -> real.look(h, what), () -> model.look(h, what));
        }
        int rows = model.look(h, 2);
        for (int i = 0; i < rows; i++) {
            compareRow(h, i, 0, 4);
        }
        compareRow(h, below(rows + 2) - 1, -1, 5);
        int steps = model.look(h, 6);
        for (int i = below(1 + steps / 8); i < steps; i += 1 + steps / 8) {
            compareStep(h, i, 0, 6);
        }
        compareStep(h, below(steps + 2) - 1, -1, 7);
        int next = model.look(h, 3);
        for (int i = below(2 + next / 10) - 1; i <= next; i += 1 + next / 10) {
            int number = i;
            both("by(" + h + ", " + i + ")", () -> real.by(h, number), () -> model.by(h, number));
        }
        compareRules(h);
    }

    private void compareRow(int h, int i, int first, int last) {
        for (int k = first; k <= last; k++) {
            int what = k;
            both("row(" + h + ", " + i + ", " + k + ")", () -> real.row(h, i, what), () -> model.row(h, i, what));
        }
    }

    private void compareStep(int h, int i, int first, int last) {
        for (int k = first; k <= last; k++) {
            int what = k;
            both("step(" + h + ", " + i + ", " + k + ")", () -> real.step(h, i, what),
                    () -> model.step(h, i, what));
        }
        spread.melted += model.step(h, i, 5) >= 1000 ? 1 : 0;
    }

    private void compareRules(int h) {
        for (int i = -1; i <= model.look(h, 1); i++) {
            int r = i;
            both("holds(" + h + ", " + i + ")", () -> real.holds(h, r), () -> model.holds(h, r));
            both("hits(" + h + ", " + i + ")", () -> real.hits(h, r), () -> model.hits(h, r));
            for (int k = -1; k <= 3; k++) {
                int atom = k;
                both("hit(" + h + ", " + i + ", " + k + ")", () -> real.hit(h, r, atom),
                        () -> model.hit(h, r, atom));
            }
        }
    }

    private void compareWays(int h) {
        int ends = both("ends(" + h + ")", () -> real.ends(h), () -> model.ends(h));
        for (int t = -1; t <= 7; t++) {
            int table = t;
            both("columns(" + h + ", " + t + ")", () -> real.columns(h, table), () -> model.columns(h, table));
            for (int c = -1; c <= 3; c++) {
                int column = c;
                both("rank(" + h + ", " + t + ", " + c + ")", () -> real.rank(h, table, column),
                        () -> model.rank(h, table, column));
            }
        }
        spread.ends[Math.max(ends, 0)]++;
    }

    private void someCall(int h) {
        switch (below(10)) {
            case 0: case 1: run(h); break;
            case 2: put(h); break;
            case 3: strike(h); break;
            case 4: leads(h, hall()); break;
            case 5: core(h); break;
            case 6: ask(h); break;
            case 7: follows(h); break;
            case 8: copy(h, hall()); break;
            default: load(h); break;
        }
    }

    /** Goes on till the object is used up. */
    private void play() {
        load(0);
        load(1 + below(2));
        while (true) {
            int h = hall();
            someCall(h);
            // Mostly the HALL of the call is looked at: it has changed, and the others may be empty.
            int seen = h >= 0 && h < 3 && below(4) != 0 ? h : below(3);
            int look = below(8);
            if (look < 3) {
                compareHall(seen);
            } else if (look == 3) {
                compareWays(seen);
            }
        }
    }

    private static void isSome(String what, int... counts) {
        for (int i = 0; i < counts.length; i++) {
            Check.yes("the runs have some of " + what + " " + i, counts[i] > 0);
        }
    }

    public static void main(String[] args) {
        int runs = args.length > 0 ? Integer.parseInt(args[0]) : 2000;
        long first = args.length > 1 ? Long.parseLong(args[1]) : 1;
        Spread spread = new Spread();
        for (int n = 0; n < runs; n++) {
            try {
                new AgainstModelTest(first + n, spread).play();
            } catch (Used e) {
                spread.used++;
            }
        }
        isSome("loads with fault", java.util.Arrays.copyOf(spread.loads, 6));
        isSome("states", java.util.Arrays.copyOfRange(spread.states, 1, 4));
        isSome("leads", spread.leads[0], spread.leads[1]);
        isSome("follows", spread.follows);
        isSome("ends", spread.ends);
        isSome("cores, answers and melted", spread.shrunk, spread.answered, spread.melted);
        if (args.length > 0) {
            System.out.println("loads " + java.util.Arrays.toString(spread.loads) + " states "
                    + java.util.Arrays.toString(spread.states) + " leads " + java.util.Arrays.toString(spread.leads)
                    + " follows " + java.util.Arrays.toString(spread.follows) + " ends "
                    + java.util.Arrays.toString(spread.ends) + " shrunk " + spread.shrunk + " answered "
                    + spread.answered + " melted " + spread.melted + " used " + spread.used);
        }
        Check.finish("AgainstModelTest");
    }
}
