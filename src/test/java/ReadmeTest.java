/** The example of README.md, call by call. */
final class ReadmeTest {
    public static void main(String[] args) {
        ChaseHall x = new ChaseHall();
        Check.same("feed", 20, x.feed(0x7461626c, 0x65204120, 0x313b726f, 0x77204128, 0x3f30293b));
        Check.same("feed", 40, x.feed(0x72756c65, 0x20412878, 0x292d3e78, 0x3d333b20, 0x20202020));
        Check.yes("end", x.end(35));
        Check.same("load", 1, x.load(0));
        Check.same("the term that was loaded", 1000, x.row(0, 0, 2));
        Check.same("run", 1, x.run(0, 100));
        Check.same("the term that it became", 3, x.row(0, 0, 2));
        Check.finish("ReadmeTest");
    }
}
