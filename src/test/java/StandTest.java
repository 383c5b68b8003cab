/** Promises 18 to 24: what stands. */
public final class StandTest {
    private static final Check CHECK = new Check("StandTest");
    /** 1 leans on 0; 2 falls by 1; 3 leans on 2; 4 leans on 1 and falls by 3. */
    private static final String FIVE = "river 0 3 2;bridge 1 5 3 0;ferry 2 2 4 unless 1;"
            + "river 0 9 5 2;bridge 4 8 6 1 unless 3;";

    public static void main(String[] args) {
        promise18Stands();
        promise19Sum();
        promise20Upon();
        promise21Reply();
        promise22Ever();
        promise23Chain();
        promise24Late();
        CHECK.close();
    }

    private static void promise18Stands() {
        RiverSuit x = Told.suit(FIVE);
        CHECK.due("stands(0)", x.stands(0), 0);
        CHECK.due("stands(31)", x.stands(31), 0b10011);
        CHECK.due("stands(0b11110)", x.stands(0b11110), 0b01100);
        CHECK.due("stands(0b11101)", x.stands(0b11101), 0b01101);
        CHECK.due("stands(0b01000)", x.stands(0b01000), 0);
        CHECK.due("stands(0b10011)", x.stands(0b10011), 0b10011);
        CHECK.due("stands(32)", x.stands(32), RiverSuit.BAD);
        CHECK.due("stands(-1)", x.stands(-1), RiverSuit.BAD);
        CHECK.due("stands(lowest)", x.stands(Integer.MIN_VALUE), RiverSuit.BAD);
        CHECK.due("nothing is said by that", x.rule(3), 0);
        CHECK.due("stands(0) of none", new RiverSuit().stands(0), 0);
        CHECK.due("stands(1) of none", new RiverSuit().stands(1), RiverSuit.BAD);
    }

    private static void promise19Sum() {
        RiverSuit x = Told.suit(FIVE + "said 0;said 2;said 3;said 4;");
        CHECK.due("sum(0)", x.sum(0), 7);
        CHECK.due("sum(1)", x.sum(1), 0);
        CHECK.due("sum(2)", x.sum(2), 4);
        CHECK.due("sum(-1)", x.sum(-1), RiverSuit.BAD);
        CHECK.due("sum(3)", x.sum(3), RiverSuit.BAD);
        x.day(1);
        x.say(1);
        CHECK.due("sum(0) then", x.sum(0), 2);
        CHECK.due("sum(1) then", x.sum(1), 9);
        CHECK.due("sum(2) then", x.sum(2), 0);
    }

    private static void promise20Upon() {
        RiverSuit x = Told.suit(FIVE + "said 0;said 1;said 2;said 4;");
        CHECK.due("upon(0)", x.upon(0), 0b10011);
        CHECK.due("upon(1)", x.upon(1), 0b10010);
        CHECK.due("upon(2), which does not stand", x.upon(2), 0);
        CHECK.due("upon(3), which is not said", x.upon(3), 0);
        CHECK.due("upon(4)", x.upon(4), 0b10000);
        CHECK.due("upon(-1)", x.upon(-1), RiverSuit.BAD);
        CHECK.due("upon(5)", x.upon(5), RiverSuit.BAD);
        CHECK.due("rule(3) stays", x.rule(3), 0b10111);
    }

    private static void promise21Reply() {
        RiverSuit x = Told.suit(FIVE + "said 0;said 2;said 4;");
        CHECK.due("reply(2, 0)", x.reply(2, 0), 0b00010);
        CHECK.due("reply(2, 1)", x.reply(2, 1), 0);
        CHECK.due("reply(4, 1)", x.reply(4, 1), 0b00010);
        CHECK.due("reply(4, 0)", x.reply(4, 0), 0);
        CHECK.due("reply(3, 1): by itself", x.reply(3, 1), 0b01000);
        CHECK.due("reply(0, 0)", x.reply(0, 0), 0);
        CHECK.due("reply(0, -1)", x.reply(0, -1), RiverSuit.BAD);
        CHECK.due("reply(0, 2)", x.reply(0, 2), RiverSuit.BAD);
        CHECK.due("reply(-1, 0)", x.reply(-1, 0), RiverSuit.BAD);
        CHECK.due("reply(5, 0)", x.reply(5, 0), RiverSuit.BAD);
        CHECK.due("rule(3) stays", x.rule(3), 0b10101);
        RiverSuit y = Told.suit("river 0 0 0;ferry 0 0 0;river 0 0 0;river 0 0 0 unless 0 1 2;said 3;");
        CHECK.due("reply(3, 0) by three", y.reply(3, 0), 0b0111);
        RiverSuit z = Told.suit("river 0 0 0;ferry 0 0 0;river 0 0 0 unless 0 1;ferry 0 0 0 unless 2;said 2;said 3;");
        CHECK.due("reply(3, 1) by two", z.reply(3, 1), 0b0011);
    }

    private static void promise22Ever() {
        RiverSuit x = Told.suit(FIVE);
        CHECK.due("ever(0)", x.ever(0), 0);
        CHECK.due("ever(1)", x.ever(1), 0b00001);
        CHECK.due("ever(-1)", x.ever(-1), RiverSuit.BAD);
        CHECK.due("ever(2)", x.ever(2), RiverSuit.BAD);
        RiverSuit y = Told.suit("river 0 0 0;river 0 0 0;river 0 0 0 0;river 0 0 0 2 unless 0;ferry 0 0 0 3;");
        CHECK.due("ever(0): 3 leans on what leans on what it falls by", y.ever(0), 0b11000);
        CHECK.due("ever(1)", y.ever(1), 0b00011);
        RiverSuit z = Told.suit("river 0 0 0;river 0 0 0;river 0 0 0;river 0 0 0;"
                + "river 0 0 0;river 0 0 0;river 0 0 0;river 0 0 0 0;");
        CHECK.due("ever(0) of eight", z.ever(0), 0);
        CHECK.due("ever(1) of eight", z.ever(1), 0b01111111);
        CHECK.due("ever(0) of none", new RiverSuit().ever(0), 0);
        CHECK.due("ever(1) of none", new RiverSuit().ever(1), 0);
    }

    private static void promise23Chain() {
        RiverSuit x = Told.suit("river 0 0 0;river 0 0 0 0;river 0 0 0;river 0 0 0 1 2;"
                + "river 0 0 0 2;river 0 0 0 unless 3;river 0 0 0 3 4;");
        long[] due = {1, 2, 1, 3, 2, 1, 4};
        for (int c = 0; c < due.length; c++) {
            CHECK.due("chain(" + c + ")", x.chain(c), due[c]);
        }
        CHECK.due("chain(-1)", x.chain(-1), RiverSuit.BAD);
        CHECK.due("chain(7)", x.chain(7), RiverSuit.BAD);
        x.leans(1, 0, false);
        CHECK.due("chain(6) then", x.chain(6), 3);
    }

    private static void promise24Late() {
        RiverSuit x = Told.suit(FIVE + "said 2;");
        CHECK.due("late() on day 0", x.late(), 0);
        x.day(3);
        CHECK.due("late() on day 3", x.late(), 0);
        x.day(4);
        CHECK.due("late() on day 4", x.late(), 0b00001);
        x.day(9);
        CHECK.due("late() on day 9", x.late(), 0b10011);
        x.drop(2);
        CHECK.due("late() without what is said", x.late(), 0b10111);
        CHECK.due("late() of none", new RiverSuit().late(), 0);
    }
}
