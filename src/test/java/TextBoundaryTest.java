/** Boundary cases of the TEXT, of what is LAID and of a new object: the document's sentences in their order. */
public final class TextBoundaryTest {
    private static final int BAD = -1, NO = -2, FULL = -3, NONE = -4;
    private static final String AT_FIRST =
        "p8,10,1;p6,12,0;p4,7,1;p9,20,0;p7,5,1;g0,8,3;g1,5,1;g2,4,3;g3,9,1;g0,7,0;";
    private static final Check CHECK = new Check();

    public static void main(String[] args) {
        lettersAtMost();
        lettersTold();
        figuresOfANumber();
        signsOfAnItem();
        lettersOfAnItem();
        numbersOfAPerson();
        numbersOfAGlove();
        personToldAhead();
        peopleAtMost();
        glovesAtMost();
        numberedFromZero();
        callsOfAnObject();
        placeOfTheFault();
        firstFault();
        noFault();
        twoPeopleAtLeast();
        atFirst();
        wiped();
        laidAnew();
        textStays();
        CHECK.finish();
    }

    private static void due(String call, long got, long want) {
        CHECK.due(call, got, want);
    }

    private static GauntletHall written(String text) {
        GauntletHall hall = new GauntletHall();
        Check.writeAll(hall, text);
        return hall;
    }

    /** A TEXT with a fault is refused by lay, and the hall stays; one without is laid. */
    private static void dueFault(String text, int want) {
        GauntletHall hall = written(text);
        due("fault of " + text, hall.fault(), want);
        if (want != NONE) {
            due("lay of " + text, hall.lay(), NO);
            CHECK.dueText("all behind lay of " + text, Calls.allOf(hall), Calls.allOf(written(text)));
        }
    }

    /** Behind a person, an item that is so or not. */
    private static void dueItem(String item, boolean isSo) {
        dueFault("p1,1,0;" + item, isSo ? NONE : 7);
    }

    private static void lettersAtMost() {
        CHECK.sentence("A TEXT is letters (200 at most)");
        GauntletHall hall = new GauntletHall();
        due("no letter", hall.count(9), 0);
        for (int i = 1; i <= 199; i++) {
            hall.write('x');
        }
        due("the 200th", hall.write('x'), 200);
        due("the 201st", hall.write('x'), FULL);
        due("again", hall.write('p'), FULL);
        due("letters", hall.count(9), 200);
        due("wipe of 200", hall.wipe(), 200);
        due("room anew", hall.write('x'), 1);
        // The longest text without fault, filled up to 200.
        String longest = "p20,40,01;".repeat(6) + "g03,20,05;".repeat(8);
        hall = written(longest + "p".repeat(60));
        due("fault in 200 letters", hall.fault(), 140);
        due("201st", hall.write(';'), FULL);
        due("fault still", hall.fault(), 140);
        dueFault(longest, NONE);
        due("longest laid", written(longest).lay(), 6);
    }

    private static void lettersTold() {
        CHECK.sentence("A letter (32 to 126, as in ASCII)");
        GauntletHall hall = new GauntletHall();
        for (int letter : new int[] {31, 127, 0, -1, 128, 255, 256 + 'p', 65536 + 'p', -256 + 'p',
            Integer.MIN_VALUE, Integer.MAX_VALUE}) {
            due("write " + letter, hall.write(letter), BAD);
        }
        due("none is written", hall.count(9), 0);
        for (int letter = 32; letter <= 126; letter++) {
            due("write " + letter, hall.write(letter), letter - 31);
        }
    }

    private static void figuresOfANumber() {
        CHECK.sentence("numbers (one or two figures)");
        String[][] items = {{"p", "5", "6", "1"}, {"g", "2", "7", "0"}};
        for (String[] item : items) {
            for (int place = 1; place <= 3; place++) {
                String figure = item[place];
                dueItem(withNumber(item, place, ""), false);
                dueItem(withNumber(item, place, figure), true);
                dueItem(withNumber(item, place, "0" + figure), true);
                dueItem(withNumber(item, place, "00" + figure), false);
                dueItem(withNumber(item, place, "000000" + figure), false);
                for (String sign : new String[] {" ", "-", "+", "/", ":", "a", "p", "g", ","}) {
                    dueItem(withNumber(item, place, sign + figure), false);
                    dueItem(withNumber(item, place, figure + sign), false);
                    dueItem(withNumber(item, place, sign), false);
                }
            }
        }
    }

    private static String withNumber(String[] item, int place, String number) {
        String[] told = item.clone();
        told[place] = number;
        return told[0] + told[1] + "," + told[2] + "," + told[3] + ";";
    }

    private static void signsOfAnItem() {
        CHECK.sentence("parted by , and a ; behind the last one");
        for (String letter : new String[] {"p", "g"}) {
            dueItem(letter + "1,1,0;", true);
            for (String rest : new String[] {"", "1", "1,", "1,1", "1,1,", "1,1,0", "1;", "1,1;", "1,1,0,", "1,1,0,0;",
                "1;1,0;", "1,1;0;", "1;1;0;", "1,1,0:", "1,1,0 ", "1 1 0;", "1.1.0;", "110;", ",1,1,0;", "1,,1,0;", ";"}) {
                dueItem(letter + rest, false);
            }
        }
        dueFault("p1,1,0;;", 7);
        dueFault("p1,1,0; p1,1,0;", 7);
        dueFault(";p1,1,0;", 0);
        dueFault(" ", 0);
    }

    private static void lettersOfAnItem() {
        CHECK.sentence("ITEMS one behind the other, each a letter");
        for (int letter = 32; letter <= 126; letter++) {
            dueItem((char) letter + "1,1,0;", letter == 'p' || letter == 'g');
        }
        dueItem("1,1,0;", false);
        dueItem("pp1,1,0;", false);
        dueItem("gp1,1,0;", false);
    }

    private static void numbersOfAPerson() {
        CHECK.sentence("pH,M,S a PERSON with a HAND of H (1 to 20), of MIGHT M (1 to 40), who STOOPS (S is 1) or not (0)");
        int[] least = {1, 1, 0};
        int[] most = {20, 40, 1};
        for (int place = 0; place < 3; place++) {
            for (int number = 0; number <= 99; number++) {
                int[] told = {5, 6, 1};
                told[place] = number;
                String item = "p" + told[0] + "," + told[1] + "," + told[2] + ";";
                boolean isSo = number >= least[place] && number <= most[place];
                dueItem(item, isSo);
                if (isSo) {
                    GauntletHall hall = Check.laid("p1,1,0;" + item);
                    due("number " + place + " of " + item, hall.person(1, place), number);
                }
            }
        }
    }

    private static void numbersOfAGlove() {
        CHECK.sentence("gK,S,P a GLOVE of KIND K (0 PLAIN, 1 KID, 2 MAIL, 3 STIFF), of SIZE S (1 to 20), of PERSON P");
        int[] least = {0, 1, 0};
        int[] most = {3, 20, 1};
        for (int place = 0; place < 3; place++) {
            for (int number = 0; number <= 99; number++) {
                int[] told = {2, 7, 1};
                told[place] = number;
                String text = "p1,1,0;p1,1,0;g" + told[0] + "," + told[1] + "," + told[2] + ";";
                boolean isSo = number >= least[place] && number <= most[place];
                dueFault(text, isSo ? NONE : 14);
                if (isSo) {
                    GauntletHall hall = Check.laid(text);
                    due("number " + place + " of " + text, hall.glove(0, place), number);
                    due("lies there " + text, hall.glove(0, 3), 1);
                    due("lain " + text, hall.glove(0, 4), 0);
                }
            }
        }
    }

    private static void personToldAhead() {
        CHECK.sentence("of PERSON P (told ahead)");
        dueFault("g0,1,0;", 0);
        dueFault("g0,1,0;p1,1,0;p1,1,0;", 0);
        for (int people = 1; people <= 6; people++) {
            String told = "p1,1,0;".repeat(people);
            dueFault(told + "g0,1," + (people - 1) + ";", NONE);
            dueFault(told + "g0,1," + people + ";", told.length());
            dueFault(told + "g0,1," + people + ";p1,1,0;", told.length());
        }
        dueFault("p1,1,0;g0,1,0;p1,1,0;g0,1,1;", NONE);
    }

    private static void peopleAtMost() {
        CHECK.sentence("a PERSON ..; 6 at most");
        String six = "p20,40,1;".repeat(6);
        dueFault(six, NONE);
        dueFault(six + "p20,40,1;", 54);
        dueFault("p1,1,0;" + "g0,1,0;".repeat(8) + "p1,1,0;".repeat(5), NONE);
        dueFault("p1,1,0;" + "g0,1,0;".repeat(8) + "p1,1,0;".repeat(6), 98);
        GauntletHall hall = written(six);
        due("lay of six", hall.lay(), 6);
        due("six", hall.count(0), 6);
        due("person 5", hall.person(5, 1), 40);
        due("person 6", hall.person(6, 1), BAD);
    }

    private static void glovesAtMost() {
        CHECK.sentence("a GLOVE ..; 8 at most");
        dueFault("p1,1,0;" + "g0,1,0;".repeat(8), NONE);
        dueFault("p1,1,0;" + "g0,1,0;".repeat(9), 63);
        dueFault("p1,1,0;" + "g0,1,0;".repeat(8) + "p1,1,0;g0,1,1;", 70);
        GauntletHall hall = Check.laid("p1,1,0;p1,1,0;" + "g3,20,1;".repeat(8));
        due("eight", hall.count(1), 8);
        due("eight lie", hall.count(4), 8);
        due("glove 7", hall.glove(7, 1), 20);
        due("glove 8", hall.glove(8, 1), BAD);
        hall = Check.laid("p1,1,0;p1,1,0;");
        due("no glove", hall.count(1), 0);
        due("glove 0 of none", hall.glove(0, 0), BAD);
    }

    private static void numberedFromZero() {
        CHECK.sentence("0, 1, ..");
        GauntletHall hall = Check.laid("p1,11,0;g0,1,0;p2,12,1;g1,2,1;g2,3,0;p3,13,0;g3,4,2;");
        for (int i = 0; i < 3; i++) {
            due("hand of " + i, hall.person(i, 0), i + 1);
            due("might of " + i, hall.person(i, 1), i + 11);
        }
        for (int i = 0; i < 4; i++) {
            due("kind of " + i, hall.glove(i, 0), i);
            due("size of " + i, hall.glove(i, 1), i + 1);
        }
    }

    private static void callsOfAnObject() {
        CHECK.sentence("An object is used for at most 512 calls");
        GauntletHall hall = new GauntletHall();
        for (int i = 0; i < 255; i++) {
            due("pass, call " + (2 * i + 1), hall.pass(20), 3);
            due("undo, call " + (2 * i + 2), hall.undo(), 0);
        }
        due("the 511th", hall.pass(1), 2);
        due("the 512th", hall.count(5), 2);
    }

    private static void placeOfTheFault() {
        CHECK.sentence("FAULT: the place (from 0 on) of the first letter of the first ITEM that is not so");
        dueFault("x", 0);
        dueFault("p1,1,2;", 0);
        dueFault("p1,1,0;x", 7);
        // Its first letter, however late in it the fault is.
        dueFault("p1,1,0;p1,1,0", 7);
        dueFault("p20,40,1;p20,40,1", 9);
        dueFault("p1,1,0;".repeat(6) + "g0,1,5;".repeat(8) + "g", 98);
        dueFault("p1,1,0;p10,10,", 7);
    }

    private static void firstFault() {
        CHECK.sentence("the first ITEM that is not so");
        dueFault("p1,1,0;p0,1,0;p0,1,0;", 7);
        dueFault("p0,1,0;p1,1,0;x", 0);
        // One that is not so is no person: but what is behind it is not looked at.
        dueFault("p1,1,0;g0,1,1;p1,1,0;g0,1,1;", 7);
        dueFault("p1,1,0;".repeat(7) + "g0,1,6;", 42);
    }

    private static void noFault() {
        CHECK.sentence("FAULT. NONE");
        dueFault("", NONE);
        dueFault("p1,1,0;", NONE);
        dueFault("p1,1,0;g0,1,0;", NONE);
        GauntletHall hall = written("x");
        hall.wipe();
        due("wiped", hall.fault(), NONE);
    }

    private static void twoPeopleAtLeast() {
        CHECK.sentence("LAID is a TEXT without FAULT, of two PERSONS at least (NO else)");
        for (String text : new String[] {"", "p1,1,0;", "p1,1,0;" + "g0,1,0;".repeat(8), "p1,1,0;p1,1,2;",
            "p1,1,0;p1,1,0;x", "p1,1,0;p1,1,0"}) {
            GauntletHall hall = written(text);
            due("lay of " + text, hall.lay(), NO);
            CHECK.dueText("all behind lay of " + text, Calls.allOf(hall), Calls.allOf(written(text)));
        }
        for (int people = 2; people <= 6; people++) {
            due("lay of " + people, written("p1,1,0;".repeat(people)).lay(), people);
        }
    }

    private static void atFirst() {
        CHECK.sentence("at first p8,10,1;p6,12,0;p4,7,1;p9,20,0;p7,5,1;g0,8,3;g1,5,1;g2,4,3;g3,9,1;g0,7,0;");
        GauntletHall laid = Check.laid(AT_FIRST);
        laid.wipe();
        CHECK.dueText("a new object", Calls.allOf(new GauntletHall()), Calls.allOf(laid));
        CHECK.sentence("As told; THE TEXT is empty");
        GauntletHall hall = new GauntletHall();
        due("letters", hall.count(9), 0);
        due("wipe", hall.wipe(), 0);
        due("fault", hall.fault(), NONE);
        due("lay", hall.lay(), NO);
        due("first letter", hall.write('p'), 1);
        // Each object has its own.
        due("another object", new GauntletHall().count(9), 0);
    }

    private static void wiped() {
        CHECK.sentence("THE TEXT is empty: how long it was");
        GauntletHall hall = new GauntletHall();
        due("of none", hall.wipe(), 0);
        hall.write('p');
        due("of one", hall.wipe(), 1);
        due("again", hall.wipe(), 0);
        // Letters wiped are not read behind shorter ones.
        Check.writeAll(hall, "p1,1,0;p1,1,0;");
        due("of 14", hall.wipe(), 14);
        Check.writeAll(hall, "p1,1,0;");
        due("one person alone", hall.lay(), NO);
        due("no fault", hall.fault(), NONE);
        due("the hall stays", hall.count(0), 5);
        // Nor as the rest of an item that is cut off.
        String text = "p1,11,1;p2,22,1;g3,13,01;";
        for (int length = 0; length <= text.length(); length++) {
            hall = written(text);
            hall.wipe();
            Check.writeAll(hall, text.substring(0, length));
            int start = length < 8 ? 0 : length < 16 ? 8 : length < 25 ? 16 : 25;
            due("fault of the first " + length, hall.fault(), length == start ? NONE : start);
            due("lay of the first " + length, hall.lay(), length == start && start >= 16 ? 2 : NO);
        }
    }

    private static void laidAnew() {
        CHECK.sentence("how many PERSONS; REIGN 0, nobody OUT, nothing SEEN, UNDONE, KEPT");
        GauntletHall hall = new GauntletHall();
        for (int i = 0; i < 6; i++) {
            hall.seen(0, 0, 1);
        }
        hall.pass(20);
        hall.keep();
        hall.keep();
        for (int i = 0; i < 8; i++) {
            hall.pass(20);
        }
        Check.writeAll(hall, AT_FIRST);
        due("lay", hall.lay(), 5);
        CHECK.dueText("all", Calls.allOf(hall), Calls.allOf(Check.laid(AT_FIRST)));
        // Fewer people and gloves than there were: those are none any more.
        hall = new GauntletHall();
        Check.writeAll(hall, "p1,1,0;p2,2,0;");
        due("lay of two", hall.lay(), 2);
        due("person 2", hall.person(2, 0), BAD);
        due("glove 0", hall.glove(0, 0), BAD);
        due("first thrown", hall.hurl(1, 0, 1), 0);
    }

    private static void textStays() {
        CHECK.sentence("(THE TEXT stays)");
        GauntletHall hall = Check.laid("p1,1,0;p2,2,0;");
        due("letters", hall.count(9), 14);
        due("lay again", hall.lay(), 2);
        Check.writeAll(hall, "p3,3,0;");
        due("lay of more", hall.lay(), 3);
        due("wipe", hall.wipe(), 21);
        due("the hall stays", hall.count(0), 3);
    }
}
