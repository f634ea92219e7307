/** Promises 2 and 3: feed, cut. */
public final class TapeTest {
    public static void main(String[] args) {
        Check check = new Check("TapeTest");
        feedAndCut(check);
        order(check);
        check.end();
    }

    private static void feedAndCut(Check check) {
        DomainHouse house = new DomainHouse();
        check.due("cut of an empty tape", house.cut(0), 0);
        check.due("cut 1 of an empty tape", house.cut(1), Check.BAD);
        check.due("cut -1", house.cut(-1), Check.BAD);
        for (int i = 1; i <= 50; i++) {
            check.due("feed " + i, house.feed(i, i, i, i, i), 20 * i);
        }
        check.due("feed above 1000", house.feed(0, 0, 0, 0, 0), Check.FULL);
        check.due("bytes", house.count(6), 1000);
        check.due("cut to more", house.cut(1001), Check.BAD);
        check.due("cut to all", house.cut(1000), 1000);
        check.due("cut to 981", house.cut(981), 1000);
        check.due("feed to 1001", house.feed(0, 0, 0, 0, 0), Check.FULL);
        check.due("cut to 980", house.cut(980), 981);
        check.due("feed to 1000", house.feed(0, 0, 0, 0, 0), 1000);
        check.due("least", house.cut(Integer.MIN_VALUE), Check.BAD);
        check.due("cut to none", house.cut(0), 1000);
        check.due("bytes", house.count(6), 0);
    }

    /** Of each number the highest byte first: read back as a message whose first prefix has these bytes. */
    private static void order(Check check) {
        DomainHouse house = new DomainHouse();
        house.feed(0x000A20FE, 0xDCBA9820, 0x01020304, 0x00000000, 0);
        house.cut(14);
        check.due("message", house.message(), 0);
        check.due("first", house.part(100), 0xFEDCBA98);
        check.due("second", house.part(101), 0x01020304);
        check.due("the tape is empty then", house.count(6), 0);
    }
}
