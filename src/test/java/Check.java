import java.nio.charset.StandardCharsets;

/** What the tests share: counting wrong answers, and writing texts on the tape. */
class Check {
    private static int wrong = 0;
    /** The promise and the sentence that are tested now; empty in tests that quote none. */
    private static String sentence = "";

    Check() {
    }

    /** What follows tests this sentence of a promise of the document. */
    static void promise(int number, String quote) {
        test("promise " + number, "Promise " + number, quote);
    }

    /** What follows tests this sentence of the document's Terms, by the calls of a promise. */
    static void term(int promise, String part, String quote) {
        test("promise " + promise, part, quote);
    }

    private static void test(String promise, String part, String quote) {
        sentence = promise + ", " + part + " \"" + quote + "\": ";
        if (!Sentences.quote(part, quote)) {
            wrong("the document says so", "no", "yes");
        }
    }

    private static void wrong(String what, String got, String want) {
        wrong++;
        System.out.println(sentence + what + ": answered " + got + ", due is " + want);
    }

    static void same(String what, long want, long got) {
        if (want != got) {
            wrong(what, "" + got, "" + want);
        }
    }

    static void yes(String what, boolean got) {
        same(what, 1, got ? 1 : 0);
    }

    static void no(String what, boolean got) {
        same(what, 0, got ? 1 : 0);
    }

    static void refusesHall(String what, Runnable call) {
        try {
            call.run();
        } catch (IndexOutOfBoundsException e) {
            same(what + " throws itself, not the machine", 0,
                    e.getClass() == IndexOutOfBoundsException.class ? 0 : 1);
            return;
        }
        same(what + " throws", 1, 0);
    }

    /** Puts a text on the tape behind what is there, and cuts the blanks that fill its last bytes. */
    static void write(ChaseHall x, String text, int behind) {
        byte[] bytes = text.getBytes(StandardCharsets.ISO_8859_1);
        int[] words = new int[5];
        for (int from = 0; from < bytes.length; from += 20) {
            for (int w = 0; w < 5; w++) {
                int word = 0;
                for (int i = 0; i < 4; i++) {
                    int at = from + 4 * w + i;
                    word = word << 8 | (at < bytes.length ? bytes[at] & 255 : ' ');
                }
                words[w] = word;
            }
            x.feed(words[0], words[1], words[2], words[3], words[4]);
        }
        x.end(behind + bytes.length);
    }

    static void write(ChaseHall x, String text) {
        write(x, text, 0);
    }

    static int load(ChaseHall x, int h, String text) {
        write(x, text);
        return x.load(h);
    }

    static int ask(ChaseHall x, int h, String text) {
        write(x, text);
        return x.ask(h);
    }

    static int follows(ChaseHall x, int h, String text) {
        write(x, text);
        return x.follows(h);
    }

    static ChaseHall loaded(String text) {
        ChaseHall x = new ChaseHall();
        if (load(x, 0, text) == ChaseHall.NONE) {
            same("fault in: " + text, 0, x.fault(0));
        }
        return x;
    }

    /** All ROWS of a HALL as a text, so that a test can tell them in one line. */
    static String rows(ChaseHall x, int h) {
        StringBuilder all = new StringBuilder();
        for (int i = 0; x.row(h, i, 0) != ChaseHall.NONE; i++) {
            all.append(i == 0 ? "" : " ").append(x.row(h, i, 0)).append((char) ('A' + x.row(h, i, 1)));
            for (int what = 2; what <= 4 && x.row(h, i, what) != ChaseHall.NONE; what++) {
                all.append(what == 2 ? "(" : ",").append(x.row(h, i, what));
            }
            all.append(')');
        }
        return all.toString();
    }

    /** One STEP as a text: what 0 to what 6. */
    static String step(ChaseHall x, int h, int i) {
        StringBuilder all = new StringBuilder();
        for (int what = 0; what <= 6; what++) {
            all.append(what == 0 ? "" : " ").append(x.step(h, i, what));
        }
        return all.toString();
    }

    static void sameText(String what, String want, String got) {
        if (!want.equals(got)) {
            wrong(what, got, want);
        }
    }

    static void finish(String name) {
        System.out.println(name + (wrong == 0 ? ": all answers are as due" : ": " + wrong + " wrong answers"));
        if (wrong != 0) {
            System.exit(1);
        }
    }
}
