import java.util.NoSuchElementException;
import java.util.Random;

/** Whatever is given, a call throws only what the document says, and only there. */
final class AnyArgumentsTest {
    private static final int[] ODD = {Integer.MIN_VALUE, Integer.MIN_VALUE + 1, -1000, -1, 0, 0, 1, 1, 2, 2, 3, 4, 5,
        6, 7, 8, 10, 25, 26, 39, 40, 99, 100, 101, 199, 200, 999, 1000, 1001, 1099, 1100, 2000, 2025,
        Integer.MAX_VALUE - 1, Integer.MAX_VALUE};
    private static final String[] TEXTS = {
        "table A 2;table B 3;row A(1,?0);row B(?1,?2,?3);rule A(x,y)->B(y,z,w);rule B(x,y,z)->A(z,x);",
        "table A 1;row A(1);row A(?0);rule A(x),A(y)->x=y;rule A(2)->false;",
        "table Z 3;row Z(?97,?98,?99);rule Z(a,b,c)->Z(b,c,d);", "A(x,y)->x,y;", "Z(x,y,z),Z(z,y,w)->w;",
        "rule A(x)->A(x);", "rule A(x,y)->B(x,y,z);", "", "table", "?"};

    private final Random random;
    private final ChaseHall x = new ChaseHall();

    private AnyArgumentsTest(long seed) {
        random = new Random(seed);
    }

    private int odd() {
        return ODD[random.nextInt(ODD.length)];
    }

    private void call(int which, int h, int a, int b, int c) {
        switch (which) {
            case 0: x.feed(h, a, b, c, a); break;
            case 1: x.end(a); break;
            case 2: x.load(h); break;
            case 3: x.fault(a); break;
            case 4: x.copy(h, h); break;
            case 5: x.look(h, a); break;
            case 6: x.row(h, a, b); break;
            case 7: x.put(h, a, b, c, odd()); break;
            case 8: x.strike(h, a); break;
            case 9: x.run(h, a); break;
            case 10: x.step(h, a, b); break;
            case 11: x.by(h, a); break;
            case 12: x.holds(h, a); break;
            case 13: x.hit(h, a, b); break;
            case 14: x.hits(h, a); break;
            case 15: x.leads(h, h); break;
            case 16: x.stands(a); break;
            case 17: x.core(h); break;
            case 18: x.ask(h); break;
            case 19: x.answer(a, b); break;
            case 20: x.follows(h); break;
            case 21: x.ends(h); break;
            case 22: x.rank(h, a, b); break;
            case 23: x.columns(h, a); break;
            default: Check.write(x, TEXTS[random.nextInt(TEXTS.length)]); break;
        }
    }

    private void play() {
        for (int n = 0; n < 250; n++) {
            int which = random.nextInt(26);
            int h = odd();
            boolean takesHall = which != 0 && which != 1 && which != 3 && which != 16 && which != 19 && which < 24;
            boolean refused = takesHall && (h < 0 || h > 2);
            String thrown = "";
            try {
                call(which, h, odd(), odd(), odd());
            } catch (IndexOutOfBoundsException e) {
                thrown = e.getClass().getSimpleName();
            } catch (NoSuchElementException e) {
                thrown = which == 23 && !refused ? "" : "NoSuchElementException";
            }
            Check.sameText("call " + which + " of hall " + h, refused ? "IndexOutOfBoundsException" : "", thrown);
        }
    }

    public static void main(String[] args) {
        for (int seed = 0; seed < 1000; seed++) {
            new AnyArgumentsTest(seed).play();
        }
        Check.finish("AnyArgumentsTest");
    }
}
