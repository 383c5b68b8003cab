/** Objects to which a text was told. */
final class Told {
    private Told() {
    }

    static int tell(RiverSuit x, String text) {
        for (int i = 0; i < text.length(); i++) {
            if (x.feed(text.charAt(i)) != i + 1) {
                throw new IllegalStateException("the tape did not take " + text);
            }
        }
        return x.text();
    }

    static RiverSuit suit(String text) {
        RiverSuit x = new RiverSuit();
        int lines = tell(x, text);
        if (lines < 0) {
            throw new IllegalStateException(text + " was refused: " + lines + ", " + x.fault());
        }
        return x;
    }
}
