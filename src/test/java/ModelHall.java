import java.util.ArrayList;
import java.util.Arrays;
import java.util.Comparator;
import java.util.HashMap;
import java.util.LinkedHashMap;
import java.util.LinkedHashSet;
import java.util.List;
import java.util.Map;
import java.util.NoSuchElementException;
import java.util.Set;
import java.util.TreeMap;
import java.util.TreeSet;

/**
 * The document told a second time, as slowly and plainly as can be (all HITS are listed and sorted, all
 * ways are closed), so that ChaseHall can be held against it call by call.
 */
final class ModelHall {
    static final int NONE = -1;

    /** A TABLE's letter and what stands in its brackets: TERMS of a ROW, or PLACES of an ATOM. */
    record Cells(char table, List<String> cells) {
    }

    record Rule(List<Cells> ahead, List<Cells> behind, List<String> melt) {
        Set<String> variables() {
            return variablesOf(ahead);
        }
    }

    record Step(int rule, int made, List<Integer> rows, int went, int became) {
    }

    static final class Hall {
        Map<Character, Integer> tables = new TreeMap<>();
        List<Rule> rules = new ArrayList<>();
        TreeMap<Integer, Cells> rows = new TreeMap<>();
        int next = 0;
        Set<String> ever = new TreeSet<>();
        int state = 0;
        List<Step> steps = new ArrayList<>();
        Map<Integer, Integer> by = new HashMap<>();

        Hall twin() {
            Hall t = new Hall();
            t.tables.putAll(tables);
            t.rules.addAll(rules);
            t.rows.putAll(rows);
            t.next = next;
            t.ever.addAll(ever);
            t.state = state;
            t.steps.addAll(steps);
            t.by.putAll(by);
            return t;
        }

        int add(Cells row) {
            for (Map.Entry<Integer, Cells> e : rows.entrySet()) {
                if (e.getValue().equals(row)) {
                    return e.getKey();
                }
            }
            rows.put(next, row);
            for (String t : row.cells()) {
                if (t.startsWith("?")) {
                    ever.add(t);
                }
            }
            return next++;
        }

        int fresh(Set<String> given) {
            int n = 0;
            while (ever.contains("?" + n) || given.contains("?" + n)) {
                n++;
            }
            return n;
        }
    }

    static final class Fault extends RuntimeException {
        private static final long serialVersionUID = 1L;
        final int number;
        final int place;

        Fault(int number, int place) {
            this.number = number;
            this.place = place;
        }
    }

    private final Hall[] halls = {new Hall(), new Hall(), new Hall()};
    private String tape = "";
    private int fault = 0;
    private int faultPlace = NONE;
    private Map<String, String> lead = new HashMap<>();
    private List<List<Integer>> answers = new ArrayList<>();
    int searchesSpent = 0;

    private Hall at(int h) {
        if (h < 0 || h > 2) {
            throw new IndexOutOfBoundsException();
        }
        return halls[h];
    }

    private static boolean isVariable(String cell) {
        return Character.isLowerCase(cell.charAt(0));
    }

    static Set<String> variablesOf(List<Cells> atoms) {
        Set<String> all = new LinkedHashSet<>();
        for (Cells a : atoms) {
            for (String c : a.cells()) {
                if (isVariable(c)) {
                    all.add(c);
                }
            }
        }
        return all;
    }

    private static int code(String term) {
        return term.startsWith("?") ? 1000 + Integer.parseInt(term.substring(1)) : Integer.parseInt(term);
    }

    private static String term(int code) {
        if (code >= 0 && code <= 99) {
            return "" + code;
        }
        return code >= 1000 && code <= 1099 ? "?" + (code - 1000) : null;
    }

    // the tape and texts

    int feed(int a, int b, int c, int d, int e) {
        if (tape.length() > 980) {
            return NONE;
        }
        for (int w : new int[] {a, b, c, d, e}) {
            for (int i = 3; i >= 0; i--) {
                tape += (char) (w >> 8 * i & 255);
            }
        }
        return tape.length();
    }

    boolean end(int n) {
        if (n < 0 || n > tape.length()) {
            return false;
        }
        tape = tape.substring(0, n);
        return true;
    }

    private static final class Reader {
        final List<String> tokens = new ArrayList<>();
        final List<Integer> places = new ArrayList<>();
        int i = 0;

        Reader(String text) {
            java.util.regex.Matcher m = java.util.regex.Pattern
                    .compile("[A-Za-z]+|[0-9]+[A-Za-z]*|->|[ \n]+|.", java.util.regex.Pattern.DOTALL)
                    .matcher(text);
            while (m.find()) {
                if (!m.group().trim().isEmpty() || !m.group().matches("[ \n]+")) {
                    tokens.add(m.group());
                    places.add(m.start());
                }
            }
            tokens.add("");
            places.add(text.length());
        }

        String now() {
            return tokens.get(i);
        }

        int place() {
            return places.get(i);
        }

        boolean sees(String pattern) {
            return now().matches(pattern);
        }

        String need(String pattern) {
            if (!sees(pattern)) {
                throw new Fault(1, place());
            }
            return tokens.get(i++);
        }
    }

    private static final String TABLE = "[A-Z]";
    private static final String NUMBER = "[0-9]{1,2}";

    private static String number(String digits) {
        return "" + Integer.parseInt(digits);
    }

    private static Hall readText(String text) {
        Reader r = new Reader(text);
        Hall hall = new Hall();
        while (!r.sees("")) {
            int start = r.place();
            String word = r.need("table|row|rule");
            int place = r.place();
            if (word.equals("table")) {
                char t = r.need(TABLE).charAt(0);
                if (hall.tables.containsKey(t)) {
                    throw new Fault(2, place);
                }
                if (hall.tables.size() == 6) {
                    throw new Fault(4, place);
                }
                place = r.place();
                int n = Integer.parseInt(r.need(NUMBER));
                if (n < 1 || n > 3) {
                    throw new Fault(3, place);
                }
                hall.tables.put(t, n);
            } else if (word.equals("row")) {
                Cells row = readCells(r, hall, true, Integer.MAX_VALUE);
                if (hall.rows.size() == 40 && !hall.rows.containsValue(row)) {
                    throw new Fault(4, place);
                }
                hall.add(row);
            } else {
                if (hall.rules.size() == 10) {
                    throw new Fault(4, start);
                }
                hall.rules.add(readRule(r, hall));
            }
            r.need(";");
        }
        return hall;
    }

    private static Cells readCells(Reader r, Hall hall, boolean row, int left) {
        int place = r.place();
        char t = r.need(TABLE).charAt(0);
        if (!hall.tables.containsKey(t)) {
            throw new Fault(2, place);
        }
        if (left == 0) {
            throw new Fault(4, place);
        }
        int columns = hall.tables.get(t);
        List<String> cells = new ArrayList<>();
        r.need("\\(");
        do {
            if (cells.size() > 0) {
                r.need(",");
            }
            place = r.place();
            String cell = r.need(NUMBER + (row ? "|\\?" : "|[a-z]"));
            if (cells.size() == columns) {
                throw new Fault(3, place);
            }
            if (cell.equals("?")) {
                cell = "?" + number(r.need(NUMBER));
            } else if (!isVariable(cell)) {
                cell = number(cell);
            }
            cells.add(cell);
        } while (!r.sees("\\)"));
        if (cells.size() < columns) {
            throw new Fault(3, r.place());
        }
        r.need("\\)");
        return new Cells(t, cells);
    }

    private static List<Cells> readAtoms(Reader r, Hall hall, int most) {
        List<Cells> all = new ArrayList<>();
        all.add(readCells(r, hall, false, most));
        while (r.sees(",")) {
            r.need(",");
            all.add(readCells(r, hall, false, most - all.size()));
        }
        return all;
    }

    /** What stands behind the word rule and ahead of the last sign. */
    private static Rule readRule(Reader r, Hall hall) {
        List<Cells> ahead = readAtoms(r, hall, 3);
        r.need("->");
        if (r.sees(TABLE)) {
            return new Rule(ahead, readAtoms(r, hall, 3), null);
        }
        if (r.sees("false")) {
            r.need("false");
            return new Rule(ahead, null, null);
        }
        List<String> melt = new ArrayList<>();
        for (int side = 0; side < 2; side++) {
            int place = r.place();
            String cell = r.need(NUMBER + "|[a-z]");
            if (isVariable(cell) && !variablesOf(ahead).contains(cell)) {
                throw new Fault(5, place);
            }
            melt.add(isVariable(cell) ? cell : number(cell));
            if (side == 0) {
                r.need("=");
            }
        }
        return new Rule(ahead, null, melt);
    }

    private String takeTape() {
        String text = tape;
        tape = "";
        fault = 0;
        faultPlace = NONE;
        return text;
    }

    private int note(Fault f) {
        fault = f.number;
        faultPlace = f.place;
        return NONE;
    }

    int load(int h) {
        at(h);
        try {
            halls[h] = readText(takeTape());
        } catch (Fault f) {
            return note(f);
        }
        return halls[h].rows.size();
    }

    int fault(int what) {
        return what == 0 ? fault : what == 1 ? faultPlace : NONE;
    }

    // looking and changing

    int copy(int h, int to) {
        at(to);
        halls[to] = at(h).twin();
        return halls[to].rows.size();
    }

    private static Set<String> namelessIn(Hall hall) {
        Set<String> all = new TreeSet<>();
        for (Cells row : hall.rows.values()) {
            for (String t : row.cells()) {
                if (t.startsWith("?")) {
                    all.add(t);
                }
            }
        }
        return all;
    }

    int look(int h, int what) {
        Hall x = at(h);
        int[] all = {x.tables.size(), x.rules.size(), x.rows.size(), x.next, namelessIn(x).size(), x.state,
            x.steps.size(), x.fresh(Set.of())};
        return what < 0 || what > 7 ? NONE : all[what];
    }

    int row(int h, int i, int what) {
        Hall x = at(h);
        if (i < 0 || i >= x.rows.size() || what < 0 || what > 4) {
            return NONE;
        }
        int number = new ArrayList<>(x.rows.keySet()).get(i);
        Cells row = x.rows.get(number);
        if (what < 2) {
            return what == 0 ? number : row.table() - 'A';
        }
        return what - 2 < row.cells().size() ? code(row.cells().get(what - 2)) : NONE;
    }

    int put(int h, int table, int x, int y, int z) {
        Hall hall = at(h);
        if (table < 0 || table > 25 || !hall.tables.containsKey((char) ('A' + table))) {
            return NONE;
        }
        char t = (char) ('A' + table);
        List<String> cells = new ArrayList<>();
        int[] given = {x, y, z};
        for (int c = 0; c < hall.tables.get(t); c++) {
            if (term(given[c]) == null) {
                return NONE;
            }
            cells.add(term(given[c]));
        }
        Cells row = new Cells(t, cells);
        if (!hall.rows.containsValue(row)) {
            if (hall.rows.size() == 40 || hall.next == 200) {
                return NONE;
            }
            hall.state = 0;
        }
        return hall.add(row);
    }

    boolean strike(int h, int number) {
        if (at(h).rows.remove(number) == null) {
            return false;
        }
        at(h).state = 0;
        return true;
    }

    // hits

    private static Map<String, String> match(Cells atom, Cells row, Map<String, String> known) {
        if (atom.table() != row.table() || atom.cells().size() != row.cells().size()) {
            return null;
        }
        Map<String, String> more = new LinkedHashMap<>(known);
        for (int c = 0; c < row.cells().size(); c++) {
            String place = atom.cells().get(c);
            String t = row.cells().get(c);
            if (isVariable(place)) {
                more.putIfAbsent(place, t);
                place = more.get(place);
            }
            if (!place.equals(t)) {
                return null;
            }
        }
        return more;
    }

    record Hit(List<Integer> rows, Map<String, String> terms) {
        int greatest() {
            return rows.stream().max(Comparator.naturalOrder()).get();
        }
    }

    private static void listHits(Hall hall, List<Cells> atoms, Hit sofar, List<Hit> all) {
        int n = sofar.rows().size();
        if (n == atoms.size()) {
            all.add(sofar);
            return;
        }
        for (Map.Entry<Integer, Cells> e : hall.rows.entrySet()) {
            Map<String, String> terms = match(atoms.get(n), e.getValue(), sofar.terms());
            if (terms != null) {
                List<Integer> rows = new ArrayList<>(sofar.rows());
                rows.add(e.getKey());
                listHits(hall, atoms, new Hit(rows, terms), all);
            }
        }
    }

    private static List<Hit> hitsOf(Hall hall, List<Cells> atoms) {
        List<Hit> all = new ArrayList<>();
        listHits(hall, atoms, new Hit(List.of(), Map.of()), all);
        all.sort((p, q) -> {
            if (p.greatest() != q.greatest()) {
                return Integer.compare(p.greatest(), q.greatest());
            }
            for (int i = 0; i < p.rows().size(); i++) {
                int order = Integer.compare(p.rows().get(i), q.rows().get(i));
                if (order != 0) {
                    return order;
                }
            }
            return 0;
        });
        return all;
    }

    private static boolean canStand(Hall hall, List<Cells> atoms, int n, Map<String, String> terms) {
        if (n == atoms.size()) {
            return true;
        }
        for (Cells row : hall.rows.values()) {
            Map<String, String> more = match(atoms.get(n), row, terms);
            if (more != null && canStand(hall, atoms, n + 1, more)) {
                return true;
            }
        }
        return false;
    }

    private static String stand(String place, Map<String, String> terms) {
        return isVariable(place) ? terms.get(place) : place;
    }

    private static boolean fulfilled(Hall hall, Rule rule, Map<String, String> terms) {
        if (rule.behind() != null) {
            return canStand(hall, rule.behind(), 0, terms);
        }
        return rule.melt() != null && stand(rule.melt().get(0), terms).equals(stand(rule.melt().get(1), terms));
    }

    private static Hit firstOpen(Hall hall, Rule rule) {
        for (Hit hit : hitsOf(hall, rule.ahead())) {
            if (!fulfilled(hall, rule, hit.terms())) {
                return hit;
            }
        }
        return null;
    }

    int holds(int h, int r) {
        Hall x = at(h);
        return r < 0 || r >= x.rules.size() ? NONE : firstOpen(x, x.rules.get(r)) == null ? 1 : 0;
    }

    int hit(int h, int r, int i) {
        Hall x = at(h);
        Hit hit = r < 0 || r >= x.rules.size() ? null : firstOpen(x, x.rules.get(r));
        return hit == null || i < 0 || i >= hit.rows().size() ? NONE : hit.rows().get(i);
    }

    int hits(int h, int r) {
        Hall x = at(h);
        return r < 0 || r >= x.rules.size() ? NONE : hitsOf(x, x.rules.get(r).ahead()).size();
    }

    // runs

    private static int chase(Hall hall, int most) {
        hall.steps.clear();
        hall.by.clear();
        int n = hall.rules.size();
        int first = 0;
        while (true) {
            int r = NONE;
            Hit hit = null;
            for (int k = 0; k < n && hit == null; k++) {
                r = (first + k) % n;
                hit = firstOpen(hall, hall.rules.get(r));
            }
            if (hit == null) {
                return hall.state = 1;
            }
            if (hall.steps.size() == most) {
                return hall.state = 3;
            }
            int state = step(hall, r, hit);
            if (state != 0) {
                return hall.state = state;
            }
            first = r + 1;
        }
    }

    private static int step(Hall hall, int r, Hit hit) {
        Rule rule = hall.rules.get(r);
        if (rule.melt() != null) {
            String left = stand(rule.melt().get(0), hit.terms());
            String right = stand(rule.melt().get(1), hit.terms());
            if (!left.startsWith("?") && !right.startsWith("?")) {
                hall.steps.add(new Step(r, 0, hit.rows(), code(left), code(right)));
                return 2;
            }
            boolean leftGoes = left.startsWith("?")
                    && (!right.startsWith("?") || code(left) > code(right));
            String went = leftGoes ? left : right;
            String became = leftGoes ? right : left;
            hall.steps.add(new Step(r, 0, hit.rows(), code(went), code(became)));
            TreeMap<Integer, Cells> changed = new TreeMap<>();
            for (Map.Entry<Integer, Cells> e : hall.rows.entrySet()) {
                List<String> cells = new ArrayList<>(e.getValue().cells());
                cells.replaceAll(t -> t.equals(went) ? became : t);
                Cells row = new Cells(e.getValue().table(), cells);
                if (!changed.containsValue(row)) {
                    changed.put(e.getKey(), row);
                }
            }
            hall.rows = changed;
            return 0;
        }
        if (rule.behind() == null) {
            hall.steps.add(new Step(r, 0, hit.rows(), NONE, NONE));
            return 2;
        }
        Map<String, String> terms = new HashMap<>(hit.terms());
        Set<String> given = new TreeSet<>();
        for (String v : variablesOf(rule.behind())) {
            if (!terms.containsKey(v)) {
                int number = hall.fresh(given);
                if (number > 99) {
                    return 3;
                }
                given.add("?" + number);
                terms.put(v, "?" + number);
            }
        }
        Hall after = hall.twin();
        for (Cells atom : rule.behind()) {
            List<String> cells = new ArrayList<>(atom.cells());
            cells.replaceAll(c -> stand(c, terms));
            after.add(new Cells(atom.table(), cells));
        }
        if (after.rows.size() > 40 || after.next > 200) {
            return 3;
        }
        int made = after.next - hall.next;
        for (int number = hall.next; number < after.next; number++) {
            hall.by.put(number, hall.steps.size());
        }
        hall.rows = after.rows;
        hall.next = after.next;
        hall.ever = after.ever;
        hall.steps.add(new Step(r, made, hit.rows(), NONE, NONE));
        return 0;
    }

    int run(int h, int steps) {
        Hall x = at(h);
        return steps < 0 || steps > 100 ? NONE : chase(x, steps);
    }

    int step(int h, int i, int what) {
        Hall x = at(h);
        if (i < 0 || i >= x.steps.size() || what < 0 || what > 6) {
            return NONE;
        }
        Step s = x.steps.get(i);
        switch (what) {
            case 0: return s.rule();
            case 1: return s.made();
            case 5: return s.went();
            case 6: return s.became();
            default: return what - 2 < s.rows().size() ? s.rows().get(what - 2) : NONE;
        }
    }

    int by(int h, int number) {
        return at(h).by.getOrDefault(number, NONE);
    }

    // leads

    private static final class Spent extends RuntimeException {
        private static final long serialVersionUID = 1L;
    }

    private static final class Search {
        int tries = 0;
        Map<String, String> found;
        final Set<Cells> image = new LinkedHashSet<>();
    }

    private boolean lead(List<Cells> from, List<Cells> to, int n, Map<String, String> known, Search s) {
        if (n == from.size()) {
            s.found = known;
            return true;
        }
        Cells row = from.get(n);
        for (Cells other : to) {
            if (other.table() != row.table() || other.cells().size() != row.cells().size()) {
                continue;
            }
            if (++s.tries > 20000) {
                searchesSpent++;
                throw new Spent();
            }
            Map<String, String> more = new HashMap<>(known);
            boolean fits = true;
            for (int c = 0; c < row.cells().size() && fits; c++) {
                String t = row.cells().get(c);
                if (t.startsWith("?")) {
                    more.putIfAbsent(t, other.cells().get(c));
                    t = more.get(t);
                }
                fits = t.equals(other.cells().get(c));
            }
            if (fits && lead(from, to, n + 1, more, s)) {
                s.image.add(other);
                return true;
            }
        }
        return false;
    }

    int leads(int h, int to) {
        List<Cells> from = new ArrayList<>(at(h).rows.values());
        List<Cells> target = new ArrayList<>(at(to).rows.values());
        lead = new HashMap<>();
        Search s = new Search();
        try {
            if (!lead(from, target, 0, Map.of(), s)) {
                return 0;
            }
        } catch (Spent e) {
            return 2;
        }
        lead = s.found;
        return 1;
    }

    int stands(int nameless) {
        String t = lead.get("?" + nameless);
        return t == null ? NONE : code(t);
    }

    int core(int h) {
        Hall x = at(h);
        TreeMap<Integer, Cells> rows = new TreeMap<>(x.rows);
        boolean less = true;
        try {
            while (less) {
                less = false;
                for (Cells without : new ArrayList<>(rows.values())) {
                    List<Cells> others = new ArrayList<>(rows.values());
                    others.remove(without);
                    Search s = new Search();
                    if (lead(new ArrayList<>(rows.values()), others, 0, Map.of(), s)) {
                        rows.values().retainAll(s.image);
                        less = true;
                        break;
                    }
                }
            }
        } catch (Spent e) {
            return NONE;
        }
        int went = x.rows.size() - rows.size();
        x.rows = rows;
        return went;
    }

    // questions

    int ask(int h) {
        Hall x = at(h);
        List<String> asked = new ArrayList<>();
        List<Cells> atoms;
        try {
            Reader r = new Reader(takeTape());
            atoms = readAtoms(r, x, 2);
            String sign = "->";
            do {
                r.need(sign);
                int place = r.place();
                String v = r.need("[a-z]");
                if (asked.size() == 3) {
                    throw new Fault(4, place);
                }
                if (!variablesOf(atoms).contains(v)) {
                    throw new Fault(5, place);
                }
                asked.add(v);
                sign = ",";
            } while (r.sees(","));
            r.need(";");
            r.need("");
        } catch (Fault f) {
            return note(f);
        }
        TreeMap<String, List<Integer>> all = new TreeMap<>();
        for (Hit hit : hitsOf(x, atoms)) {
            StringBuilder key = new StringBuilder();
            List<Integer> answer = new ArrayList<>();
            boolean named = true;
            for (String v : asked) {
                String t = hit.terms().get(v);
                named &= !t.startsWith("?");
                answer.add(code(t));
                key.append((char) (' ' + code(t)));
            }
            if (named) {
                all.put(key.toString(), answer);
            }
        }
        answers = new ArrayList<>(all.values());
        return answers.size();
    }

    int answer(int i, int k) {
        return i < 0 || i >= answers.size() || k < 0 || k >= answers.get(i).size() ? NONE : answers.get(i).get(k);
    }

    int follows(int h) {
        Hall x = at(h);
        Rule rule;
        try {
            Reader r = new Reader(takeTape());
            r.need("rule");
            rule = readRule(r, x);
            r.need(";");
            r.need("");
        } catch (Fault f) {
            return note(f);
        }
        Hall place = new Hall();
        place.tables = x.tables;
        place.rules = x.rules;
        Map<String, String> terms = new HashMap<>();
        for (String v : rule.variables()) {
            terms.put(v, "?" + terms.size());
        }
        for (Cells atom : rule.ahead()) {
            List<String> cells = new ArrayList<>(atom.cells());
            cells.replaceAll(c -> stand(c, terms));
            place.add(new Cells(atom.table(), cells));
        }
        int state = chase(place, 100);
        if (state != 1) {
            return state == 3 ? 2 : 1;
        }
        for (Step s : place.steps) {
            if (s.went() != NONE) {
                terms.replaceAll((v, t) -> code(t) == s.went() ? term(s.became()) : t);
            }
        }
        return fulfilled(place, rule, terms) ? 1 : 0;
    }

    // ways

    /** All ways as from, to, 1 if it is a NEW one. */
    private static Set<List<Integer>> waysOf(Hall hall) {
        Set<List<Integer>> ways = new LinkedHashSet<>();
        for (Rule rule : hall.rules) {
            if (rule.behind() == null) {
                continue;
            }
            Set<String> both = rule.variables();
            both.retainAll(variablesOf(rule.behind()));
            for (String v : both) {
                for (int from : placesOf(rule.ahead(), v)) {
                    for (int to : placesOf(rule.behind(), v)) {
                        ways.add(List.of(from, to, 0));
                    }
                    for (String w : variablesOf(rule.behind())) {
                        if (!rule.variables().contains(w)) {
                            for (int to : placesOf(rule.behind(), w)) {
                                ways.add(List.of(from, to, 1));
                            }
                        }
                    }
                }
            }
        }
        return ways;
    }

    private static List<Integer> placesOf(List<Cells> atoms, String variable) {
        List<Integer> all = new ArrayList<>();
        for (Cells a : atoms) {
            for (int c = 0; c < a.cells().size(); c++) {
                if (a.cells().get(c).equals(variable)) {
                    all.add((a.table() - 'A') * 3 + c);
                }
            }
        }
        return all;
    }

    int ends(int h) {
        Set<List<Integer>> ways = waysOf(at(h));
        boolean[][] reach = new boolean[78][78];
        for (int p = 0; p < 78; p++) {
            reach[p][p] = true;
        }
        for (List<Integer> way : ways) {
            reach[way.get(0)][way.get(1)] = true;
        }
        for (int k = 0; k < 78; k++) {
            for (int p = 0; p < 78; p++) {
                for (int q = 0; q < 78; q++) {
                    reach[p][q] |= reach[p][k] && reach[k][q];
                }
            }
        }
        for (List<Integer> way : ways) {
            if (way.get(2) == 1 && reach[way.get(1)][way.get(0)]) {
                return 0;
            }
        }
        return 1;
    }

    int rank(int h, int table, int column) {
        Integer columns = table < 0 || table > 25 ? null : at(h).tables.get((char) ('A' + table));
        at(h);
        if (columns == null || column < 0 || column >= columns || ends(h) == 0) {
            return NONE;
        }
        int[] best = new int[78];
        for (int length = 0; length < 78; length++) {
            int[] longer = Arrays.copyOf(best, 78);
            for (List<Integer> way : waysOf(at(h))) {
                longer[way.get(1)] = Math.max(longer[way.get(1)], best[way.get(0)] + way.get(2));
            }
            best = longer;
        }
        return best[table * 3 + column];
    }

    int columns(int h, int table) {
        Integer columns = table < 0 || table > 25 ? null : at(h).tables.get((char) ('A' + table));
        at(h);
        if (columns == null) {
            throw new NoSuchElementException();
        }
        return columns;
    }
}
