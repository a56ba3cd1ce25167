/** The edges of term II and of promises 10 to 13: the TAPE, the text of KINDS, its FAULTS. */
public final class TextEdgesTest {
    private static final int NONE = Edges.NONE;
    private static final int MAX = Edges.MAX;
    private static final int MIN = Edges.MIN;
    private static final int BLANKS = 0x20202020;

    public static void main(String[] args) {
        feed();
        end();
        text();
        blanks();
        tokens();
        kindRow();
        clauses();
        toBelowFrom();
        lastCounts();
        withoutClauses();
        faultAtTheEnd();
        faultOfToken();
        sixthKind();
        kinds();
        fault();
        Edges.end();
    }

    private static void due(String call, int got, int want) {
        Edges.due(call, got, want);
    }

    private static void good(String text, int want) {
        PostHouses x = new PostHouses();
        Edges.feed(x, text);
        due("count(7) of " + text, x.count(7), text.length());
        Edges.told("kinds() of " + text, x, x.kinds(), want);
        due("fault() of " + text, x.fault(), NONE);
        due("count(4) of " + text, x.count(4), want);
        due("count(7) behind " + text, x.count(7), 0);
    }

    private static void bad(String text, int place) {
        PostHouses x = new PostHouses();
        Edges.feed(x, text);
        Edges.told("kinds() of " + text, x, x.kinds(), -6);
        due("fault() of " + text, x.fault(), place);
        due("count(4) of " + text, x.count(4), 0);
        due("count(7) behind " + text, x.count(7), 0);
    }

    private static int blanks(PostHouses x) {
        return x.feed(BLANKS, BLANKS, BLANKS, BLANKS, BLANKS);
    }

    private static void feed() {
        Edges.says("Twenty bytes come behind the TAPE, four of each number, the highest first: how "
                + "many it has.");
        for (int at = 0; at < 20; at++) {
            PostHouses x = new PostHouses();
            int[] n = {BLANKS, BLANKS, BLANKS, BLANKS, BLANKS};
            n[at / 4] ^= ('x' ^ ' ') << 8 * (3 - at % 4);
            due("feed", x.feed(n[0], n[1], n[2], n[3], n[4]), 20);
            due("kinds", x.kinds(), -6);
            due("the one letter", x.fault(), at);
            n[at / 4] = -1 << 8 * (3 - at % 4);
            due("blanks first", blanks(x), 20);
            due("bytes of 255", x.feed(n[0], n[1], n[2], n[3], n[4]), 40);
            due("kinds", x.kinds(), -6);
            due("the first byte that is none", x.fault(), 20 + at / 4 * 4);
        }
        PostHouses x = new PostHouses();
        due("numbers below 0", x.feed(MIN, -1, MIN, -1, MAX), 20);
        due("kinds", x.kinds(), -6);
        due("its first byte", x.fault(), 0);
        Edges.says("NONE, if there would be more than 400.");
        for (int i = 1; i <= 20; i++) {
            due("feed", blanks(x), 20 * i);
        }
        due("full", blanks(x), NONE);
        due("full", x.feed(0, 0, 0, 0, 0), NONE);
        due("full", x.count(7), 400);
        due("one byte too few is free", x.end(381), 381);
        due("one byte too few is free", x.feed(0, 0, 0, 0, 0), NONE);
        due("as it was", x.count(7), 381);
        due("just enough is free", x.end(380), 380);
        due("just enough is free", blanks(x), 400);
        due("what was refused is not there", x.kinds(), 0);
        due("empty again", blanks(x), 20);
    }

    private static void end() {
        Edges.says("The TAPE has its first n bytes alone: n.");
        PostHouses x = new PostHouses();
        due("none of none", x.end(0), 0);
        x.feed(0x6b696e64, 0x7b7d2020, BLANKS, BLANKS, BLANKS);
        due("all", x.end(20), 20);
        due("but one", x.end(19), 19);
        due("gone for good", x.end(20), NONE);
        due("six", x.end(6), 6);
        due("kinds", x.kinds(), 1);
        x.feed(0x6b696e64, 0x7b7d2020, BLANKS, BLANKS, BLANKS);
        due("one too few", x.end(5), 5);
        due("kinds", x.kinds(), -6);
        due("fault", x.fault(), 5);
        x.feed(0x6b696e64, 0, 0, 0, 0);
        due("none", x.end(0), 0);
        due("none", x.count(7), 0);
        due("none", x.kinds(), 0);
        Edges.says("NONE, if it has not so many, or n is below 0.");
        x = new PostHouses();
        due("one of none", x.end(1), NONE);
        blanks(x);
        for (int n : new int[] {21, -1, 400, 401, MAX, MIN}) {
            due("end(" + n + ")", x.end(n), NONE);
            due("as it was", x.count(7), 20);
        }
        for (int i = 2; i <= 20; i++) {
            blanks(x);
        }
        due("one more than full", x.end(401), NONE);
        due("full", x.end(400), 400);
        due("full", x.count(7), 400);
        due("status", x.status(), 0);
    }

    private static void text() {
        Edges.says("KINDS are a TEXT of at most 400 bytes");
        good("kind{}" + " ".repeat(394), 1);
        good(" ".repeat(394) + "kind{}", 1);
        good("kind{worth " + "0".repeat(385) + "100}", 1);
        bad("kind{worth " + "0".repeat(385) + "101}", 11);
        bad("kind{worth " + "9".repeat(388) + "}", 11);
        good("kind{" + "miss 4,".repeat(55) + "miss 4   }", 1);
        good("kind{" + "miss 4,".repeat(55) + "miss    4}", 1);
        bad("kind{" + "miss 4,".repeat(55) + "miss    5}", 398);
        bad("kind{" + "miss 4,".repeat(56) + "mis", 397);
        bad("kind{}" + " ".repeat(393) + "}", 399);
        bad("kind{" + " ".repeat(395), 400);
    }

    private static void blanks() {
        Edges.says("any blanks (32) between TOKENS");
        good("kind{rows 2,posts 2 to 8};kind{}", 2);
        good("kind{rows2,posts2to8};kind{}", 2);
        good("   kind   {   rows   2   ,   posts   2   to   8   }   ;   kind   {   }   ", 2);
        bad("ki nd{}", 0);
        bad("kind{ro ws 2}", 5);
        bad("kind{worth 1 0}", 13);
        bad("kind{posts 2 t o 8}", 13);
        for (char sign : new char[] {0, 9, 10, 11, 12, 13, 31, 33, 95, 127, 128, 160, 255}) {
            bad(sign + "kind{}", 0);
            bad("kind" + sign + "{}", 4);
            bad("kind{" + sign + "}", 5);
            bad("kind{rows" + sign + "2}", 9);
            bad("kind{rows 2" + sign + "}", 11);
            bad("kind{}" + sign, 6);
            bad("  " + sign, 2);
        }
    }

    private static void tokens() {
        Edges.says("(longest rows of letters a .. z, of digits, single other bytes)");
        bad("kindkind{}", 0);
        bad("akind{}", 0);
        bad("kindz{}", 0);
        bad("kind{rowsa 2}", 5);
        bad("kind{zrows 2}", 5);
        bad("kind{rows 20}", 10);
        bad("kind{rows 29}", 10);
        bad("kind{rows 2a}", 11);
        bad("kind{rows 2z}", 11);
        bad("kind{rows a2}", 10);
        bad("kind{posts 2to8to}", 15);
        bad("kind{posts 2tto 8}", 12);
        bad("Kind{}", 0);
        bad("kinD{}", 0);
        bad("kind{Rows 2}", 5);
        bad("kind{rowS 2}", 5);
        bad("kind{posts 2 To 8}", 13);
        bad("kind`{}", 4);
        bad("kind{{}", 5);
        bad("kind{rows /2}", 10);
        bad("kind{rows :2}", 10);
        bad("kind{rows 2/}", 11);
        bad("kind{rows 2:}", 11);
        bad("kind{rows -2}", 10);
        bad("kind{rows +2}", 10);
        bad("kind{rows 2.0}", 11);
        bad("kind{}}", 6);
        bad("kind{};;kind{}", 7);
        bad("kind{rows 2,,rows 2}", 12);
    }

    private static void kindRow() {
        Edges.says("KIND {\";\" KIND}.");
        good("kind{}", 1);
        good("kind{};kind{}", 2);
        good("kind{};kind{};kind{}", 3);
        bad("kind{}kind{}", 6);
        bad("kind{},kind{}", 6);
        bad(";kind{}", 0);
        bad("kind{};", 7);
        Edges.says("KIND: \"kind\" \"{\" [CLAUSE {\",\" CLAUSE}] \"}\".");
        good("kind{miss 1}", 1);
        good("kind{miss 1,miss 2}", 1);
        bad("kind{,}", 5);
        bad("kind{,miss 1}", 5);
        bad("kind{miss 1,}", 12);
        bad("kind{miss 1 miss 2}", 12);
        bad("kind{miss 1;miss 2}", 11);
        bad("kind(miss 1)", 4);
        bad("kind miss 1", 5);
        bad("{}", 0);
        bad("house{}", 0);
        bad("kind{walls 2}", 5);
        bad("kind{kind}", 5);
        bad("kind{to 2}", 5);
        bad("kind{2}", 5);
    }

    private static void oneNumber(String sort, int least, int most) {
        Edges.says("\"" + sort + "\" N (" + least + " .. " + most + ")");
        int place = 6 + sort.length();
        good("kind{" + sort + " " + least + "}", 1);
        good("kind{" + sort + " " + most + "}", 1);
        bad("kind{" + sort + " " + (least - 1) + "}", place);
        bad("kind{" + sort + " " + (most + 1) + "}", place);
        bad("kind{" + sort + " 4294967297}", place);
        bad("kind{" + sort + " 18446744073709551618}", place);
        bad("kind{" + sort + " " + least + " to " + most + "}", place + 2);
        bad("kind{" + sort + "}", place - 1);
        bad("kind{" + sort + "," + sort + " " + most + "}", place - 1);
        bad("kind{" + sort + " to}", place);
    }

    private static void twoNumbers(String sort, int least, int most) {
        Edges.says("\"" + sort + "\" N \"to\" M (" + least + " .. " + most + ")");
        int place = 6 + sort.length();
        String low = "kind{" + sort + " " + least;
        String high = "kind{" + sort + " " + most;
        good(low + " to " + least + "}", 1);
        good(low + " to " + most + "}", 1);
        good(high + " to " + most + "}", 1);
        bad("kind{" + sort + " " + (least - 1) + " to " + most + "}", place);
        bad("kind{" + sort + " " + (most + 1) + " to " + (most + 1) + "}", place);
        bad("kind{" + sort + " 4294967302 to " + most + "}", place);
        bad(low + " to " + (most + 1) + "}", low.length() + 4);
        bad(low + " to 4294967302}", low.length() + 4);
        bad(low + "}", low.length());
        bad(low + "," + sort + "}", low.length());
        bad(low + " " + most + "}", low.length() + 1);
        bad(low + " to}", low.length() + 3);
        bad(low + " to to " + most + "}", low.length() + 4);
        bad(low + " to " + most + " to " + most + "}", (low + " to " + most + " ").length());
        bad("kind{" + sort + "}", place - 1);
    }

    private static void clauses() {
        oneNumber("rows", 2, 4);
        twoNumbers("posts", 2, 8);
        twoNumbers("step", 5, 100);
        twoNumbers("apart", 5, 200);
        oneNumber("slack", 0, 9);
        twoNumbers("deep", 0, 300);
        oneNumber("pairs", 0, 300);
        oneNumber("miss", 0, 4);
        oneNumber("life", 1, 500);
        oneNumber("worth", 1, 100);
    }

    private static void toBelowFrom() {
        Edges.says("M not below N.");
        good("kind{posts 5 to 5}", 1);
        bad("kind{posts 5 to 4}", 16);
        good("kind{step 50 to 50}", 1);
        bad("kind{step 50 to 49}", 16);
        good("kind{apart 150 to 150}", 1);
        bad("kind{apart 150 to 149}", 18);
        good("kind{deep 9 to 9}", 1);
        bad("kind{deep 9 to 8}", 15);
        bad("kind{deep 300 to 0}", 17);
    }

    /** All that a book of two rows says of its HOUSES of a KIND. */
    private static String found(String text) {
        PostHouses x = Edges.book(100, 100, 120, 100, 141, 101, 100, 140, 120, 140, 140, 140);
        x.retell(1, 90, 0);
        x.trench(0, 0, 499, 499, 0);
        Edges.kinds(x, text);
        StringBuilder all = new StringBuilder();
        for (int house = 0; house < Math.min(8, x.houses(0)); house++) {
            for (int what = 0; what <= 10; what++) {
                all.append(x.house(0, house, what)).append(' ');
            }
        }
        return all.append(x.stands(0, 2200, 1)).toString();
    }

    private static void lastCounts() {
        Edges.says("Of each sort in a KIND the last counts");
        String[][] pairs = {{"rows 3", "rows 2"}, {"posts 3 to 3", "posts 2 to 2"},
            {"step 30 to 30", "step 20 to 20"}, {"apart 80 to 80", "apart 40 to 40"},
            {"slack 9", "slack 0"}, {"deep 50 to 200", "deep 0 to 50"}, {"pairs 10", "pairs 100"},
            {"miss 4", "miss 0"}, {"life 400", "life 100"}, {"worth 100", "worth 1"}};
        for (String[] pair : pairs) {
            for (int i = 0; i < 2; i++) {
                String first = pair[i];
                String last = pair[1 - i];
                String alone = found("kind{" + last + "}");
                String both = found("kind{" + first + "," + last + "}");
                due(first + " then " + last, both.equals(alone) ? 1 : 0, 1);
                due("one and " + last, both.equals(found("kind{" + first + "}")) ? 1 : 0, 0);
                String apart = found("kind{" + last + ",slack 3," + first + ",slack 3," + last
                        + "}");
                due("thrice " + last, pair[0].startsWith("slack") || apart.equals(alone) ? 1 : 0,
                        1);
            }
        }
        PostHouses x = Edges.kinds(Edges.book(100, 100, 120, 100, 100, 140), "kind{posts 2 to 2,"
                + "step 20 to 20,worth 7};kind{posts 2 to 2,step 20 to 20};kind{posts 2 to 2,"
                + "step 20 to 20,worth 5}");
        due("the second kind has its own", x.house(0, 0, 0), 1);
        due("the second kind has its own", x.house(0, 0, 9), 30);
        due("the first kind", x.house(0, 1, 9), 21);
        due("the third kind", x.house(0, 2, 9), 15);
        Edges.kinds(x, "kind{}");
        due("nothing is left of those told before", x.house(0, 0, 9), 30);
    }

    /** How many HOUSES a KIND that says only the rest finds among three posts. */
    private static int housesOf(String rest, int... places) {
        return Edges.kinds(Edges.book(places), "kind{posts 2 to 2" + rest + "}").houses(0);
    }

    private static void withoutClauses() {
        Edges.says("without: rows 2, posts 2 to 8, step 10 to 40, apart 20 to 80, slack 3, deep 0 "
                + "to 300, pairs 300, miss 0, life 30, worth 10.");
        String step = ",step 20 to 20";
        String apart = ",apart 40 to 40";
        due("step 9", housesOf(apart, 100, 100, 109, 100, 100, 140), 0);
        due("step 10", housesOf(apart, 100, 100, 110, 100, 100, 140), 1);
        due("step 40", housesOf(",apart 60 to 60", 100, 100, 140, 100, 100, 160), 1);
        due("step 41", housesOf(",apart 60 to 60", 100, 100, 141, 100, 100, 160), 0);
        due("apart 19", housesOf(step, 100, 100, 120, 100, 100, 119), 0);
        due("apart 20", housesOf(",step 15 to 15", 100, 100, 115, 100, 100, 120), 1);
        due("apart 80", housesOf(step, 100, 100, 120, 100, 100, 180), 1);
        due("apart 81", housesOf(step, 100, 100, 120, 100, 100, 181), 0);
        due("slack 3", housesOf(step, 100, 100, 120, 100, 103, 150), 1);
        due("slack 4", housesOf(step, 100, 100, 120, 100, 104, 150), 0);
        PostHouses x = Edges.kinds(Edges.book(100, 100, 120, 100, 100, 150, 123, 150), "kind{}");
        due("filled three away", x.house(0, 0, 5), 4);
        x = Edges.kinds(Edges.book(100, 100, 120, 100, 100, 150, 124, 150), "kind{posts 2 to 2}");
        due("not four away", x.house(0, 0, 5), 3);
        x = new PostHouses();
        for (int i = 0; i < 18; i++) {
            x.hole(0, 100 + i / 2 * 20, 100 + i % 2 * 50, i % 2 * 200, 0);
        }
        x.plough(0, 150, 499, 150, 100);
        Edges.kinds(x, "kind{}");
        due("posts 8", x.house(0, 0, 4), 8);
        due("deep 0 to 300, pairs 300, worth 10", x.house(0, 0, 9), 160);
        due("rows 2", x.place(0, 0, 0, 1), 1);
        due("rows 2", x.place(0, 0, 0, 2), Edges.NOTHING);
        x = Edges.kinds(Edges.book(100, 100, 120, 100, 100, 150), "kind{}");
        due("posts 2 at least", x.house(0, 0, 4), 3);
        x.trench(0, 0, 499, 499, 1);
        due("miss 0", x.houses(1), 0);
        x.trench(140, 0, 499, 499, 0);
        due("posts 2", x.house(0, 0, 4), 2);
        due("life 30", x.stands(0, 2029, 1), 1);
        due("life 30", x.stands(0, 2030, 1), 0);
    }

    private static void faultAtTheEnd() {
        Edges.says("(the end's: the TEXT's length)");
        String[] beginnings = {"kind", "kind{", "kind{rows", "kind{rows 2", "kind{rows 2,",
            "kind{posts", "kind{posts 2", "kind{posts 2 to", "kind{posts 2 to 3",
            "kind{posts 2 to 3,", "kind{};", "kind{};kind", "kind{};kind{slack 0"};
        for (String beginning : beginnings) {
            bad(beginning, beginning.length());
            bad(beginning + " ", beginning.length() + 1);
            bad("  " + beginning + "   ", beginning.length() + 5);
        }
    }

    private static void faultOfToken() {
        Edges.says("FAULT: the place of the first TOKEN that can't go on there");
        String[] ahead = {"", "kind", "kind{rows", "kind{rows 2", "kind{rows 2,", "kind{step 9",
            "kind{step 9 to", "kind{step 9 to 10", "kind{}", "kind{};"};
        for (String beginning : ahead) {
            bad(beginning + "=", beginning.length());
            bad(beginning + "  =", beginning.length() + 2);
            bad(beginning + " row", beginning.length() + 1);
            bad(beginning + "  4 4  ", beginning.endsWith("rows") ? beginning.length() + 4
                    : beginning.length() + 2);
        }
        bad("k", 0);
        bad("  kin", 2);
        bad("kind{miss 9,miss 9}", 10);
        bad("kind{miss 1,miss 9}", 17);
        bad("kind{};kind{miss 9};;", 17);
    }

    private static void sixthKind() {
        Edges.says("5 KINDS at most (the 6th's first TOKEN)");
        String five = "kind{};kind{};kind{};kind{};kind{}";
        good(five, 5);
        good(five + "   ", 5);
        bad(five + ";kind{}", 35);
        bad(five + " ;  kind{}", 38);
        bad(five + ";kind", 35);
        bad(five + ";house{}", 35);
        bad(five + ";", 35);
        bad(five + ";  ", 37);
        bad(five + ";;", 35);
        bad(five + "kind{}", 34);
        bad("kind{};kind{};kind{};kind{};kind{rows 9};kind{}", 38);
    }

    private static void kinds() {
        Edges.says("(blanks alone: none)");
        good("", 0);
        good(" ", 0);
        good(" ".repeat(400), 0);
        PostHouses x = Edges.smalls(100, 100);
        due("a kind", x.count(4), 1);
        Edges.feed(x, "     ");
        Edges.told("blanks", x, x.kinds(), 0);
        due("none any more", x.count(4), 0);
        due("none any more", x.houses(0), 0);
        due("none any more", x.strength(0, 0), NONE);
        Edges.says("The TAPE, which is empty then, becomes KINDS");
        x = Edges.smalls(100, 100);
        due("empty", x.count(7), 0);
        Edges.told("the empty tape is none", x, x.kinds(), 0);
        Edges.says("-6: they stay, FAULT is told.");
        String[] faults = {"kind{};kind{};kind{rows 9}", "kind", "kind{};kind{};x", "="};
        int[] places = {24, 4, 14, 0};
        for (int i = 0; i < faults.length; i++) {
            x = Edges.kinds(Edges.smalls(100, 100), Edges.SMALL + ";kind{worth 77}");
            int houses = x.houses(0);
            int value = x.house(0, 0, 9);
            Edges.feed(x, faults[i]);
            Edges.told("kinds of " + faults[i], x, x.kinds(), -6);
            due("fault of " + faults[i], x.fault(), places[i]);
            due("they stay", x.count(4), 2);
            due("they stay", x.houses(0), houses);
            due("they stay", x.house(0, 0, 9), value);
            due("they stay", x.strength(1, 0) >= 0 ? 1 : 0, 1);
            due("they stay", x.strength(2, 0), NONE);
            due("the tape is taken", x.count(7), 0);
            due("the tape is taken", x.end(1), NONE);
        }
    }

    private static void fault() {
        Edges.says("FAULT of the latest kinds(): its place; NONE without.");
        PostHouses x = new PostHouses();
        due("ahead of any", x.fault(), NONE);
        Edges.feed(x, "kind{rows 9}");
        due("not read yet", x.fault(), NONE);
        x.kinds();
        due("read", x.fault(), 10);
        due("asked again", x.fault(), 10);
        Edges.feed(x, "kind");
        x.hole(2, 0, 0, 0, 0);
        x.houses(0);
        due("others leave it", x.fault(), 10);
        x.kinds();
        due("of the latest", x.fault(), 4);
        x.kinds();
        due("blanks have none", x.fault(), NONE);
        Edges.feed(x, "=");
        x.kinds();
        due("at the first byte", x.fault(), 0);
        Edges.kinds(x, "kind{}");
        due("a good one has none", x.fault(), NONE);
    }
}
