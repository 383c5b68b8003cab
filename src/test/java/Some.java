/** Objects that the tests of the edges begin with; each is made by fewer than 260 calls. */
final class Some {
    /** All three are in time on day 2. */
    static final String THREE = "river 0 9 2;bridge 1 5 3 0;ferry 2 2 1 unless 1;";
    static final String EIGHT = "river0 9 1;bridge0 9 2;ferry0 9 3;river0 9 4;bridge0 9 5 0;ferry0 9 6 unless 1;"
            + "river0 9 7 0 2;bridge0 9 8 unless 0;";

    private Some() {
    }

    /** So many claims alike that lean on nothing, eleven bytes each. */
    static String alike(int many) {
        return "ferry0 9 1;".repeat(many);
    }

    static RiverSuit none() {
        return new RiverSuit();
    }

    /** Nothing is empty, nothing is full; image 1 and sheet 1 are none; a fault and a torn read are behind it. */
    static RiverSuit ordinary() {
        RiverSuit x = Told.suit(THREE + "end 1;day 2;plan 2;plan 0;");
        x.see(0b001, false);
        x.keep(0);
        x.yards(0, 4);
        x.say(0);
        x.say(2);
        x.see(0b011, true);
        x.sheet(0, 0, 3);
        x.lay(0, 0, 1);
        x.lay(0, 2, 2);
        x.sheet(2, 2, 2);
        x.lay(2, 1, 1);
        x.sheet(3, 1, 0);
        x.read(0, 0, 3, 1);
        Told.tell(x, "day 10;");
        feed(x, "ferry 3 4 5;day 6;");
        return x;
    }

    /** Claims, plan, what is said, what is seen, images, sheets: none takes more. */
    static RiverSuit full() {
        RiverSuit x = Told.suit(EIGHT);
        for (int i = 0; i < 6; i++) {
            x.plans(i);
            x.see(i, false);
        }
        x.keep(0);
        for (int c = 0; c < 8; c++) {
            x.say(c);
        }
        x.day(9);
        x.keep(1);
        for (int k = 0; k < 4; k++) {
            x.sheet(k, k % 3, 40);
            x.lay(k, 3, k);
        }
        return x;
    }

    static RiverSuit fullTape() {
        RiverSuit x = Told.suit(THREE);
        feed(x, "ferry 3 4 5;" + " ".repeat(142) + "day 6;");
        return x;
    }

    static void feed(RiverSuit x, String text) {
        for (int i = 0; i < text.length(); i++) {
            x.feed(text.charAt(i));
        }
    }
}
