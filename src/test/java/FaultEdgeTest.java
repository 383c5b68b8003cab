import java.util.List;

/** The edges of a text: its tokens, where each may stand, the bounds of each number, the faults 1 to 6 and places. */
public final class FaultEdgeTest {
    private static final Check CHECK = new Check("FaultEdgeTest");
    private static final String[] SIDES = {"river", "bridge", "ferry"};
    private static final List<String> TOKENS = List.of("river", "bridge", "ferry", "end", "plan", "said", "day",
            "unless", "x", "0", ";", "");

    public static void main(String[] args) {
        tokenOfEachByte();
        byteBehindANumber();
        byteInAName();
        byteInANumber();
        numbersOfOneOrTwoFigures();
        eachAsLongAsMayBe();
        blanksBetween();
        fault1HasItsFirstByte();
        fault2WhereNoneCanStand();
        fault2AtTheEndHasTheLength();
        fault3Days();
        fault3Yards();
        fault3LeansAndFalls();
        fault3OfTheOtherLines();
        fault4EndAndDay();
        fault4InALine();
        fault4Said();
        fault5NinthClaim();
        fault5SeventhPlan();
        fault6BehindAll();
        theFirstMetIsTold();
        theEndIsTheLastIfNothingElseIsTold();
        CHECK.close();
    }

    private static boolean letter(int c) {
        return c >= 'a' && c <= 'z';
    }

    private static boolean figure(int c) {
        return c >= '0' && c <= '9';
    }

    /** 'blanks (32) between: NAMES (a .. z), NUMBERS (1 or 2 figures), one ;' and no other byte of 0 to 127. */
    private static void tokenOfEachByte() {
        for (int c = 0; c <= 127; c++) {
            String text = String.valueOf((char) c);
            if (c == 32) {
                told(text, 0, 0);
            } else {
                told(text, -10, letter(c) || figure(c) || c == ';' ? 2 : 1);
            }
        }
    }

    private static void byteBehindANumber() {
        for (int c = 0; c <= 127; c++) {
            String text = "river 0 9 1 " + (char) c;
            if (c == 32) {
                told(text, -10 - 13, 2);
            } else if (c == ';') {
                told(text, 1, 0);
            } else {
                told(text, -10 - 12, letter(c) ? 2 : figure(c) ? 3 : 1);
            }
        }
    }

    private static void byteInAName() {
        for (int c = 0; c <= 127; c++) {
            told("rive" + (char) c + " 0 9 1;", c == 'r' ? 1 : -10, c == 'r' ? 0 : 2);
            told("da" + (char) c + " 1;", c == 'y' ? 1 : -10, c == 'y' ? 0 : 2);
        }
    }

    private static void byteInANumber() {
        for (int c = 0; c <= 127; c++) {
            String text = "day 0" + (char) c + ";";
            if (figure(c) || c == 32) {
                told(text, 1, 0);
                CHECK.due("rule(2) by " + text, Told.suit(text).rule(2), figure(c) ? c - '0' : 0);
            } else if (c == ';') {
                told(text, -16, 2);
            } else {
                told(text, -15, letter(c) ? 2 : 1);
            }
        }
    }

    /** 'NUMBERS (1 or 2 figures)'; fault 1: 'a NUMBER that is too long (its first byte)'. */
    private static void numbersOfOneOrTwoFigures() {
        told("day 0;", 1, 0);
        told("day 00;", 1, 0);
        told("day 09;", 1, 0);
        told("day 000;", -14, 1);
        told("day 009;", -14, 1);
        told("day 99;", -14, 3);
        told("day 100;", -14, 1);
        told("river 00 09 05;", 1, 0);
        told("river 000 0 0;", -16, 1);
        told("river 0 000 0;", -18, 1);
        told("river 0 0 000;", -20, 1);
        told("river 0 0 0;river 0 0 0 00;", 2, 0);
        told("river 0 0 0;river 0 0 0 000;", -34, 1);
        told("river 0 0 0;river 0 0 0 unless 000;", -41, 1);
        told("000", -10, 1);
        told("  1234567890", -12, 1);
        told("2147483648", -10, 1);
        told("end 4294967296;river 0 0 0;", -14, 1);
    }

    /** 'TOKENS, each as long as may be'. */
    private static void eachAsLongAsMayBe() {
        told("rivers 0 0 0;", -10, 2);
        told("riverriver 0 0 0;", -10, 2);
        told("endday 0;", -10, 2);
        told("day 1 0;", -16, 2);
        told("day 10;", -14, 3);
        told("day1;", 1, 0);
        told("river 0 0 0;river 0 0 0unless0;", 2, 0);
        told("river 0 0 0;river 0 0 0 0unless0;", -10 - 31, 4);
        told("river 0 0 0;river 0 0 0 unlessriver 0;", -34, 2);
        told("1a", -10, 2);
        told("a1", -10, 2);
    }

    /** 'blanks (32) between': none, one, many, ahead and behind. */
    private static void blanksBetween() {
        told("river0 0 0;end0;", 2, 0);
        told("   river   0   0   0   ;   end   0   ;   ", 2, 0);
        told("day\t0;", -13, 1);
        told("day\n0;", -13, 1);
        told("day\r0;", -13, 1);
        told("day" + (char) 0 + "0;", -13, 1);
        told("day" + (char) 31 + "0;", -13, 1);
        told("day" + (char) 33 + "0;", -13, 1);
        told("day" + (char) 127 + "0;", -13, 1);
    }

    private static void fault1HasItsFirstByte() {
        told("   ?", -13, 1);
        told("   123", -13, 1);
        told("day 0;  ??", -18, 1);
        told("day 0; 999;", -17, 1);
        told("river 0 0 0;plan 0;said ?", -10 - 24, 1);
    }

    /** Fault 2: 'a TOKEN that can not stand there (a NAME that begins no line, is not unless; or the end ..)'. */
    private static void fault2WhereNoneCanStand() {
        String[] begin = {"river", "bridge", "ferry", "end", "plan", "said", "day", ""};
        String ahead = "river 0 0 0;";
        stand("", begin);
        stand(ahead, begin);
        for (String side : SIDES) {
            String line = ahead + side;
            stand(line + " ", "0");
            stand(line + " 0 ", "0");
            stand(line + " 0 0 ", "0");
            stand(line + " 0 0 0 ", "0", "unless", ";");
            stand(line + " 0 0 0 0 ", "0", "unless", ";");
            stand(line + " 0 0 0 unless ", "0");
            stand(line + " 0 0 0 unless 0 ", "0", ";");
            stand(ahead + line + " 0 0 0 0 unless ", "0");
            stand(ahead + line + " 0 0 0 0 unless 1 ", "0", ";");
        }
        for (String name : new String[] {"end", "plan", "said", "day"}) {
            stand(ahead + name + " ", "0");
            stand(ahead + name + " 0 ", ";");
            stand(ahead + name + " 0;", begin);
        }
    }

    /** Of all tokens just these may stand behind what is ahead. */
    private static void stand(String ahead, String... which) {
        List<String> may = List.of(which);
        int place = -10 - ahead.length();
        for (String token : TOKENS) {
            String text = ahead + token;
            RiverSuit x = new RiverSuit();
            int answer = Told.tell(x, text);
            boolean refused = answer == place && x.fault() == 2;
            CHECK.isTrue("fault 2 in '" + text + "' at its last token: " + !may.contains(token),
                    refused == !may.contains(token));
        }
    }

    /** Fault 2: 'or the end: the length'. */
    private static void fault2AtTheEndHasTheLength() {
        String text = "river 0 9 2;bridge 1 5 3 0;ferry 2 2 1 0 unless 1;end 0;plan 0;said 0;day 0;";
        for (int n = 0; n <= text.length(); n++) {
            String cut = text.substring(0, n);
            boolean whole = cut.isEmpty() || cut.endsWith(";");
            boolean inName = n > 0 && letter(text.charAt(n - 1)) && n < text.length() && letter(text.charAt(n));
            if (whole) {
                told(cut, (int) cut.chars().filter(c -> c == ';').count(), 0);
            } else if (inName) {
                told(cut, -10 - nameStart(cut), 2);
            } else {
                told(cut, -10 - n, 2);
                told(cut + "   ", -10 - n - 3, 2);
            }
        }
    }

    private static int nameStart(String text) {
        int start = text.length();
        while (start > 0 && letter(text.charAt(start - 1))) {
            start--;
        }
        return start;
    }

    /** 'IN TIME from a DAY to a DAY (0 to 9 each, the second no less)'; fault 3: 'not below from which'. */
    private static void fault3Days() {
        for (String side : SIDES) {
            int place = -10 - side.length() - 1;
            for (int from = 0; from <= 11; from++) {
                for (int to = 0; to <= 11; to++) {
                    String text = side + " " + from + " " + to + " 0;";
                    if (from > 9) {
                        told(text, place, 3);
                    } else if (to < from || to > 9) {
                        told(text, place - 2, 3);
                    } else {
                        told(text, 1, 0);
                    }
                }
            }
            told(side + " 99 9 0;", place, 3);
            told(side + " 0 99 0;", place - 2, 3);
        }
        RiverSuit x = Told.suit("river 0 0 0;river 9 9 0;river 0 9 0;");
        CHECK.due("from 0", x.claim(0, 1), 0);
        CHECK.due("to 0", x.claim(0, 2), 0);
        CHECK.due("from 9", x.claim(1, 1), 9);
        CHECK.due("to 9", x.claim(1, 2), 9);
        CHECK.due("from 0", x.claim(2, 1), 0);
        CHECK.due("to 9", x.claim(2, 2), 9);
    }

    /** 'YARDS (0 to 9)'. */
    private static void fault3Yards() {
        for (String side : SIDES) {
            for (int yards = 0; yards <= 12; yards++) {
                String text = side + " 3 4 " + yards + ";";
                told(text, yards <= 9 ? 1 : -10 - side.length() - 5, yards <= 9 ? 0 : 3);
                if (yards <= 9) {
                    CHECK.due("claim(0, 3) of " + text, Told.suit(text).claim(0, 3), yards);
                }
            }
            told(side + " 3 4 99;", -10 - side.length() - 5, 3);
        }
    }

    /** Fault 3: 'a CLAIM on which one LEANS, by which one FALLS: no lesser number'. */
    private static void fault3LeansAndFalls() {
        for (int c = 0; c < 8; c++) {
            String ahead = Some.alike(c);
            for (int other : new int[] {0, 1, 2, 3, 4, 5, 6, 7, 8, 9, 10, 31, 32, 99}) {
                String leans = ahead + "ferry0 0 0 " + other + ";";
                String falls = ahead + "ferry0 0 0 unless " + other + ";";
                boolean lesser = other < c;
                told(leans, lesser ? c + 1 : -10 - 11 * c - 11, lesser ? 0 : 3);
                told(falls, lesser ? c + 1 : -10 - 11 * c - 18, lesser ? 0 : 3);
                if (lesser) {
                    CHECK.due("leans by " + leans, Told.suit(leans).claim(c, 4), 1 << other);
                    CHECK.due("falls by " + falls, Told.suit(falls).claim(c, 5), 1 << other);
                }
            }
        }
        RiverSuit x = Told.suit(Some.alike(7) + "ferry0 0 0 0 1 2 3 4 5 6;");
        CHECK.due("leans on all", x.claim(7, 4), 127);
        x = Told.suit(Some.alike(7) + "ferry0 0 0 unless 6 5 4 3 2 1 0;");
        CHECK.due("falls by all", x.claim(7, 5), 127);
        x = Told.suit(Some.alike(7) + "ferry0 0 0 6 0 unless 5 1;");
        CHECK.due("leans on some", x.claim(7, 4), 0b1000001);
        CHECK.due("falls by some", x.claim(7, 5), 0b0100010);
    }

    /** 'end: THE END (0 to 7). plan: a CLAIM (0 to 7) .. said: a CLAIM (0 to 7)'; 'DAY (0 to 9)'. */
    private static void fault3OfTheOtherLines() {
        String eight = Some.alike(8);
        for (String name : new String[] {"end", "plan", "said", "day"}) {
            int most = name.equals("day") ? 9 : 7;
            for (int n : new int[] {0, 1, 6, 7, 8, 9, 10, 32, 99}) {
                String text = eight + name + " " + n + ";";
                boolean within = n <= most;
                told(text, within ? 9 : -10 - 88 - name.length() - 1, within ? 0 : 3);
            }
        }
        RiverSuit x = Told.suit(eight + "end 7;plan 7;said 7;day 9;");
        CHECK.due("rule(1)", x.rule(1), 7);
        CHECK.due("plan(0)", x.plan(0), 7);
        CHECK.due("rule(3)", x.rule(3), 128);
        CHECK.due("rule(2)", x.rule(2), 9);
    }

    /** Fault 4: 'end, day for the second time (its NAME)'. */
    private static void fault4EndAndDay() {
        told("river 0 0 0;end 0;", 2, 0);
        told("river 0 0 0;end 0;end 0;", -10 - 18, 4);
        told("river 0 0 0;end 0;  end", -10 - 20, 4);
        told("river 0 0 0;end 0;day 0;end 9;", -10 - 24, 4);
        told("day 0;day 0;", -16, 4);
        told("day 0; day", -17, 4);
        told("day 9;river 0 0 0;day ?", -10 - 18, 4);
        told("end 0;day 0;river 0 0 0;", 3, 0);
    }

    /** Fault 4: 'a CLAIM told in this line already (LEANS, FALLS)': its own place; another line may tell it again. */
    private static void fault4InALine() {
        String two = "river 0 0 0;river 0 0 0;";
        told(two + "ferry 0 0 0 0 0;", -10 - 38, 4);
        told(two + "ferry 0 0 0 0 1 0;", -10 - 40, 4);
        told(two + "ferry 0 0 0 0 1 00;", -10 - 40, 4);
        told(two + "ferry 0 0 0 unless 0 0;", -10 - 45, 4);
        told(two + "ferry 0 0 0 unless 1 0 1;", -10 - 47, 4);
        told(two + "ferry 0 0 0 0 unless 0;", -10 - 45, 4);
        told(two + "ferry 0 0 0 0 unless 1 0;", -10 - 47, 4);
        told(two + "ferry 0 0 0 0 unless 1;", 3, 0);
        told(two + "ferry 0 0 0 0 1;ferry 0 0 0 0 1;", 4, 0);
        told(two + "ferry 0 0 0 unless 0;ferry 0 0 0 0;", 4, 0);
        told(two + "ferry 0 0 0 0;ferry 0 0 0 unless 0;", 4, 0);
    }

    /** Fault 4: 'SAID already (it)'; a plan may have a claim twice. */
    private static void fault4Said() {
        told("river 0 0 0;said 0;said 0;", -10 - 24, 4);
        told("river 0 0 0;said 0;said 00;", -10 - 24, 4);
        told(Some.alike(8) + "said 7;said 0;said 7;", -10 - 88 - 19, 4);
        told(Some.alike(8) + "said 7;said 0;said 6;", 11, 0);
        told("river 0 0 0;plan 0;plan 0;", 3, 0);
        told("river 0 0 0;plan 0;said 0;end 0;", 4, 0);
    }

    /** 'CLAIMS 0 on (8 at most, by order)'; fault 5: 'the 9th CLAIM (its NAME)'. */
    private static void fault5NinthClaim() {
        for (int many = 0; many <= 8; many++) {
            told(Some.alike(many), many, 0);
            CHECK.due("rule(0) of " + many, Told.suit(Some.alike(many)).rule(0), many);
        }
        for (String side : SIDES) {
            told(Some.alike(8) + side, -10 - 88, 5);
            told(Some.alike(8) + "  " + side + " 0 0 0;", -10 - 90, 5);
            told(Some.alike(8) + side + " ?", -10 - 88, 5);
        }
        told(Some.alike(8) + "end 0;" + "river 10;", -10 - 94, 5);
        RiverSuit x = Told.suit("river0 0 0;bridge1 1 1;ferry2 2 2;bridge3 3 3;river4 4 4;ferry5 5 5;river6 6 6;"
                + "bridge7 7 7;");
        int[] sides = {0, 1, 2, 1, 0, 2, 0, 1};
        for (int c = 0; c < 8; c++) {
            CHECK.due("side by order, " + c, x.claim(c, 0), sides[c]);
            for (int what = 1; what <= 3; what++) {
                CHECK.due("claim(" + c + ", " + what + ") by order", x.claim(c, what), c);
            }
        }
    }

    /** 'A PLAN: .. (6 at most)'; fault 5: 'the 7th plan (its NAME)'. */
    private static void fault5SeventhPlan() {
        for (int many = 0; many <= 6; many++) {
            String text = "river 0 0 0;" + "plan 0;".repeat(many);
            told(text, many + 1, 0);
            CHECK.due("rule(5) of " + many, Told.suit(text).rule(5), many);
        }
        String six = "river 0 0 0;" + "plan 0;".repeat(6);
        told(six + "plan", -10 - 54, 5);
        told(six + " plan 0;", -10 - 55, 5);
        told(six + "plan 8;", -10 - 54, 5);
        told(six + "plan ?", -10 - 54, 5);
    }

    /** Fault 6: 'Behind all (the length) .. a CLAIM that there is not.' */
    private static void fault6BehindAll() {
        for (String name : new String[] {"end", "plan", "said"}) {
            for (int many = 0; many <= 8; many++) {
                for (int c = 0; c < 8; c++) {
                    String line = name + " " + c + ";";
                    String behind = Some.alike(many) + line;
                    String ahead = line + Some.alike(many) + "  ";
                    boolean is = c < many;
                    told(behind, is ? many + 1 : -10 - behind.length(), is ? 0 : 6);
                    told(ahead, is ? many + 1 : -10 - ahead.length(), is ? 0 : 6);
                }
            }
        }
        told("plan 0;plan 1;river 0 0 0;plan 0;", -10 - 33, 6);
        told("said 1;said 0;river 0 0 0;", -10 - 26, 6);
        told("end 1;said 0;plan 0;river 0 0 0;", -10 - 32, 6);
    }

    /** 'the first met as it is read (a TOKEN is read when the one before has been taken)'. */
    private static void theFirstMetIsTold() {
        told("x ?", -10, 2);
        told("? x", -10, 1);
        told("river 10 ?", -16, 3);
        told("river 5 4 ?", -18, 3);
        told("river 0 0 10 ?", -20, 3);
        told("river 0 0 0 0 ?", -22, 3);
        told("river 0 0 0;river 0 0 0 0 0 ?", -36, 4);
        told("river 0 0 0;river 0 0 0 0 1 0", -36, 3);
        told("river 0 0 0;river 0 0 0 0 0 1", -36, 4);
        told("day 0;day ?", -16, 4);
        told("end 7;end ?", -16, 4);
        told("said 1;said 1?", -22, 4);
        told("said 8;?", -15, 3);
        told("plan 8;?", -15, 3);
        told("end 8;?", -14, 3);
        told("end 7;?", -16, 1);
        told("end 7;x", -16, 2);
        told("said 7;day 10;", -10 - 11, 3);
        told("plan 7;day 0;day 0;", -10 - 13, 4);
        told("said 7;" + "plan 0;".repeat(7), -10 - 49, 5);
        told("day 0?", -15, 1);
        told("day 0 x?", -16, 2);
    }

    /** 'THE END: one of them (the last one told, if nothing else is told).' */
    private static void theEndIsTheLastIfNothingElseIsTold() {
        for (int many = 1; many <= 8; many++) {
            CHECK.due("rule(1) of " + many, Told.suit(Some.alike(many)).rule(1), many - 1);
            CHECK.due("rule(1) told ahead", Told.suit("end 0;" + Some.alike(many)).rule(1), 0);
            CHECK.due("rule(1) told behind", Told.suit(Some.alike(many) + "end 0;").rule(1), 0);
        }
        CHECK.due("rule(1) of none", Told.suit("").rule(1), RiverSuit.NONE);
    }

    private static void told(String text, int answer, int fault) {
        RiverSuit x = new RiverSuit();
        CHECK.due("text() of '" + text + "'", Told.tell(x, text), answer);
        CHECK.due("fault() of '" + text + "'", x.fault(), fault);
    }
}
