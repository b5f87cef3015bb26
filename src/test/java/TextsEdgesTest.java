/** The boundary cases of promises 23 to 26 and of the section "Texts": characters, faults, orders that are done. */
public final class TextsEdgesTest extends TestBase {
    private static final String[] WORDS = {"take", "skip", "flip", "loop"};
    private static final String[] ORDERS = {
        "flip 12 34;", "skip 1 2;", "loop 12 3;", "take 1 23;", "cut 12;", "cut 1;"};

    private TextsEdgesTest() {
    }

    public static void main(String[] args) {
        typeWithinRange();
        typeOutOfRange();
        typeFull();
        clearTextReturns();
        faultWhat();
        faultOfNothing();
        faultOfLaterTexts();
        faultOfFullTexts();
        wordsAreThese();
        wordsAreNotThese();
        wordCutIsNotThese();
        oneSpaceAhead();
        oneOrTwoDigits();
        followedBySemicolon();
        addressesInRange();
        timesInRange();
        cutInRange();
        firstOrderWithFault();
        reasonOfBoth();
        causeAtEachCharacter();
        causeAtEachEnd();
        causeOfRanges();
        playOfNothing();
        playOfOne();
        playOfMost();
        playOfFullText();
        playIsOneChange();
        playOfCuts();
        playWithFault();
        playAsBranches();
        CHECKS.end();
    }

    private static void noFault(String text) {
        Run x = new Run();
        write(x, text);
        for (int what = 0; what <= 2; what++) {
            int asked = what;
            refused(x, "fault(" + what + ") of '" + text + "'", () -> x.fault(asked), NOT_FOUND);
        }
        due("'" + text + "' can be played: states", Math.min(0, x.play()) + x.count(9), 1);
    }

    private static void faultIs(String text, int position, int reason, int cause) {
        Run x = busy();
        write(x, text);
        read(x, "position of '" + text + "'", () -> x.fault(0), position);
        read(x, "reason of '" + text + "'", () -> x.fault(1), reason);
        read(x, "cause of '" + text + "'", () -> x.fault(2), cause);
        refused(x, "play of '" + text + "'", x::play, NOT_POSSIBLE);
    }

    // ---- Promise 23

    private static void typeWithinRange() {
        about("Promise 23, type", "character: 32 to 126 .. Returns the length of the text");
        Run x = new Run();
        due("the least", x.type(32), 1);
        due("the most", x.type(126), 2);
        for (int character = 33; character <= 110; character++) {
            due("type(" + character + ")", x.type(character), character - 30);
            due("the length", x.count(10), character - 30);
        }
        Run y = new Run();
        for (int character = 111; character <= 125; character++) {
            due("type(" + character + ")", y.type(character), character - 110);
        }
    }

    private static void typeOutOfRange() {
        about("Promise 23, type", "INVALID_ARGUMENT if character is out of range");
        Run x = busy();
        for (int character : outside(32, 126)) {
            refused(x, "type(" + character + ")", () -> x.type(character), INVALID);
        }
        for (int character : new int[] {0, 10, 59 + 128, 59 + 256, 59 + 65536, 59 - 65536, 255, 65535}) {
            refused(x, "type(" + character + ")", () -> x.type(character), INVALID);
        }
        due("the next character", x.type(';'), 25);
        due("play", x.play(), 5);
    }

    private static void typeFull() {
        about("Promise 23, type", "LIMIT_REACHED if it has 80 characters");
        Run x = new Run();
        write(x, "take 1 10;".repeat(8).substring(0, 79));
        due("79 characters", x.count(10), 79);
        due("the 80th", x.type(';'), 80);
        refused(x, "an 81st", () -> x.type(';'), LIMIT);
        refused(x, "an 81st, the least", () -> x.type(32), LIMIT);
        refused(x, "an 81st, the most", () -> x.type(126), LIMIT);
        refused(x, "an 81st that is out of range", () -> x.type(31), INVALID);
        refused(x, "an 81st that is out of range", () -> x.type(127), INVALID);
        due("it has no fault", x.fault(0), NOT_FOUND);
        due("play", x.play(), 80);
        due("clearText", x.clearText(), 80);
        due("room again", x.type('a'), 1);
    }

    // ---- Promise 24

    private static void clearTextReturns() {
        about("Promise 24, clearText", "Returns the length it had");
        Run x = new Run();
        read(x, "initially empty", x::clearText, 0);
        due("a character", x.type('x'), 1);
        due("its fault", x.fault(2), 0);
        due("one", x.clearText(), 1);
        due("the length", x.count(10), 0);
        due("no fault any more", x.fault(0), NOT_FOUND);
        read(x, "none", x::clearText, 0);
        write(x, "~".repeat(79));
        due("79", x.clearText(), 79);
        write(x, "~".repeat(80));
        due("80", x.clearText(), 80);
        due("the length", x.count(10), 0);
        due("nothing is left of it", x.play(), 0);
        write(x, "cut 7;");
        due("the later text alone", x.play() + x.count(21), 7);
        due("clearText is no change", x.clearText() + x.count(9), 6 + 2);
    }

    // ---- Promise 25

    private static void faultWhat() {
        about("Promise 25, fault", "INVALID_ARGUMENT if what is out of range");
        Run x = busy();
        Run y = new Run();
        Run z = new Run();
        write(z, "cut 7;");
        for (int what : outside(0, 2)) {
            refused(x, "a text with a fault, fault(" + what + ")", () -> x.fault(what), INVALID);
            refused(y, "an empty text, fault(" + what + ")", () -> y.fault(what), INVALID);
            refused(z, "a text without a fault, fault(" + what + ")", () -> z.fault(what), INVALID);
        }
        read(x, "its position", () -> x.fault(0), 15);
        read(x, "its reason", () -> x.fault(1), 1);
        read(x, "its cause", () -> x.fault(2), 9);
    }

    private static void faultOfNothing() {
        about("Promise 25, fault", "NOT_FOUND if the text has no fault (also if it is empty)");
        noFault("");
        noFault("cut 0;");
        noFault("take 0 1;");
        Run x = busy();
        x.type(';');
        refused(x, "an order that has its end now", () -> x.fault(0), NOT_FOUND);
        x.clearText();
        refused(x, "the text is emptied", () -> x.fault(1), NOT_FOUND);
    }

    private static void faultOfLaterTexts() {
        about("Promise 25, fault", "Tells about the fault of the text", "as it is, whatever fault it had before");
        String[] texts = {"take 1 41;", "x", "skip 1 1;loop 1", "take 64 1;", "cut 51;",
            "flip 1 1;take 1 0;", "~", "cut"};
        int[][] faults = {
            {0, 2, 1}, {0, 1, 0}, {9, 1, 6}, {0, 2, 0}, {0, 2, 0}, {9, 2, 1}, {0, 1, 0}, {0, 1, 3}};
        Run x = new Run();
        for (int i = 0; i < texts.length; i++) {
            write(x, texts[i]);
            for (int what = 0; what <= 2; what++) {
                due("fault(" + what + ") of '" + texts[i] + "'", x.fault(what), faults[i][what]);
            }
        }
        x.type(' ');
        due("the same one, longer", x.fault(2), 4);
        x.type('9');
        x.type(';');
        due("none any more", x.fault(2), NOT_FOUND);
    }

    private static void faultOfFullTexts() {
        about("Texts", "There is a text of at most 80 characters");
        noFault("cut 5;".repeat(11) + "cut 50;" + "cut 49;");
        noFault("take 1 10;".repeat(8));
        faultIs("take 1 10;".repeat(7) + "take 10 10", 70, 1, 10);
        faultIs("take 1 10;".repeat(7) + "take 1 10.", 70, 1, 9);
        faultIs("take 1 10;".repeat(7) + "take 1 41;", 70, 2, 1);
        faultIs("cut 5;".repeat(13) + "cu", 78, 1, 0);
        faultIs("cut 5;".repeat(12) + "cut 5;;;", 78, 1, 0);
        faultIs("cut 5;".repeat(12) + "cut 50;c", 79, 1, 0);
        faultIs("cut 5;".repeat(12) + "cut 50;;", 79, 1, 0);
        faultIs("a".repeat(80), 0, 1, 0);
        faultIs(" ".repeat(80), 0, 1, 0);
        faultIs("take" + " ".repeat(76), 0, 1, 5);
        faultIs("take " + "1".repeat(75), 0, 1, 7);
    }

    // ---- Texts: the form

    private static void wordsAreThese() {
        about("Texts", "a word, an address and times .. \"take\" .. \"skip\" .. \"flip\" .. \"loop\" .. or the "
                + "word \"cut\" and a number");
        for (String word : WORDS) {
            noFault(word + " 5 3;");
            faultIs(word + " 5;", 0, 1, 6);
            faultIs(word + " 5 3 1;", 0, 1, 8);
        }
        noFault("cut 5;");
        faultIs("cut 5 3;", 0, 1, 5);
        faultIs("cut;", 0, 1, 3);
    }

    private static void wordsAreNotThese() {
        about("Texts", "0 if its letters a to z, as many as follow one another, are none of these words");
        for (String word : WORDS) {
            for (int i = 0; i < word.length(); i++) {
                String ahead = word.substring(0, i);
                String behind = word.substring(i + 1);
                faultIs(ahead + behind + " 5 3;", 0, 1, 0);
                faultIs(ahead + 'x' + behind + " 5 3;", 0, 1, 0);
                faultIs(ahead + Character.toUpperCase(word.charAt(i)) + behind + " 5 3;", 0, 1, 0);
                if (i > 0) {
                    faultIs(ahead, 0, 1, 0);
                }
            }
            faultIs(word + "s 5 3;", 0, 1, 0);
            faultIs(word + "a 5 3;", 0, 1, 0);
            faultIs(word + "z 5 3;", 0, 1, 0);
            faultIs("a" + word + " 5 3;", 0, 1, 0);
            faultIs(word + word + " 5 3;", 0, 1, 0);
            faultIs(word + "cut 5 3;", 0, 1, 0);
            faultIs(" " + word + " 5 3;", 0, 1, 0);
        }
    }

    private static void wordCutIsNotThese() {
        about("Texts", "0 if its letters a to z, as many as follow one another, are none of these words", "not cut");
        for (String text : new String[] {"c", "cu", "ut 5;", "ct 5;", "cu 5;", "cutt 5;", "cuts 5;", "cuttake 5;",
                "cat 5;", "but 5;", "cup 5;", "Cut 5;", "cUt 5;", "cuT 5;", " cut 5;", "5;", ";", "~", "`cut 5;"}) {
            faultIs(text, 0, 1, 0);
        }
        about("Texts", "its letters a to z, as many as follow one another", "the signs beside a and z are none");
        faultIs("take`5 3;", 0, 1, 4);
        faultIs("take{5 3;", 0, 1, 4);
        faultIs("takeA 5 3;", 0, 1, 4);
        faultIs("cut`5;", 0, 1, 3);
        faultIs("cut{5;", 0, 1, 3);
        faultIs("cutZ 5;", 0, 1, 3);
    }

    private static void oneSpaceAhead() {
        about("Texts", "with one space ahead of each number");
        faultIs("take5 3;", 0, 1, 4);
        faultIs("take!5 3;", 0, 1, 4);
        faultIs("take,5 3;", 0, 1, 4);
        faultIs("take  5 3;", 0, 1, 5);
        faultIs("take 53;", 0, 1, 7);
        faultIs("take 5!3;", 0, 1, 6);
        faultIs("take 5  3;", 0, 1, 7);
        faultIs("take 5 3 ;", 0, 1, 8);
        faultIs("take 5 3; take 5 3;", 9, 1, 0);
        faultIs("take 5 3; ", 9, 1, 0);
        faultIs("cut5;", 0, 1, 3);
        faultIs("cut!5;", 0, 1, 3);
        faultIs("cut  5;", 0, 1, 4);
        faultIs("cut 5 ;", 0, 1, 5);
    }

    private static void oneOrTwoDigits() {
        about("Texts", "Numbers have 1 or 2 digits");
        noFault("take 5 3;skip 63 40;flip 05 03;loop 00 01;");
        noFault("cut 5;cut 50;cut 05;cut 00;");
        faultIs("take ;", 0, 1, 5);
        faultIs("take  3;", 0, 1, 5);
        faultIs("take 5 ;", 0, 1, 7);
        faultIs("take 005 3;", 0, 1, 7);
        faultIs("take 5 003;", 0, 1, 9);
        faultIs("take 05 003;", 0, 1, 10);
        faultIs("cut ;", 0, 1, 4);
        faultIs("cut 005;", 0, 1, 6);
        about("Texts", "Numbers have 1 or 2 digits", "the signs beside 0 and 9 are none");
        for (char sign : new char[] {'/', ':', '-', '+', '.', 'a', ' '}) {
            faultIs("take " + sign + "5 3;", 0, 1, 5);
            faultIs("take 5 " + sign + "3;", 0, 1, 7);
            faultIs("take 5 33" + sign + ";", 0, 1, 9);
            faultIs("cut " + sign + "5;", 0, 1, 4);
            faultIs("cut 5" + sign + ";", 0, 1, 5);
            if (sign != ' ') {
                faultIs("take 5" + sign + " 3;", 0, 1, 6);
            }
        }
        for (int digit = 0; digit <= 9; digit++) {
            noFault("take " + digit + " 1" + digit + ";skip " + "5" + digit % 4 + " " + Math.max(1, digit) + ";");
        }
    }

    private static void followedBySemicolon() {
        about("Texts", "orders, each followed by \";\"");
        faultIs("take 5 3", 0, 1, 8);
        faultIs("take 5 3:", 0, 1, 8);
        faultIs("take 5 3<", 0, 1, 8);
        faultIs("take 5 3,cut 5;", 0, 1, 8);
        faultIs("take 5 3cut 5;", 0, 1, 8);
        faultIs("take 5 3;;", 9, 1, 0);
        faultIs("take 5 3;cut 5", 9, 1, 5);
        faultIs("take 5 3;cut 50", 9, 1, 6);
        faultIs(";take 5 3;", 0, 1, 0);
        faultIs(";", 0, 1, 0);
    }

    // ---- Texts: the ranges

    private static void addressesInRange() {
        about("Texts", "2 if a number is out of its range (addresses 0 to 63");
        for (String word : WORDS) {
            noFault(word + " 0 1;" + word + " 00 1;" + word + " 63 1;");
            faultIs(word + " 64 1;", 0, 2, 0);
            faultIs(word + " 99 1;", 0, 2, 0);
        }
    }

    private static void timesInRange() {
        about("Texts", "2 if a number is out of its range .. times 1 to 40");
        for (String word : WORDS) {
            noFault(word + " 0 1;" + word + " 0 01;" + word + " 0 40;");
            faultIs(word + " 0 0;", 0, 2, 1);
            faultIs(word + " 0 00;", 0, 2, 1);
            faultIs(word + " 0 41;", 0, 2, 1);
            faultIs(word + " 63 99;", 0, 2, 1);
        }
    }

    private static void cutInRange() {
        about("Texts", "2 if a number is out of its range .. the cut as its setting");
        noFault("cut 0;cut 00;cut 50;");
        faultIs("cut 51;", 0, 2, 0);
        faultIs("cut 99;", 0, 2, 0);
    }

    private static void firstOrderWithFault() {
        about("Texts", "the position, from 0, of the first character of the first order that is not possible");
        faultIs("x;take 64 1;", 0, 1, 0);
        faultIs("take 64 1;x;", 0, 2, 0);
        faultIs("take 1 1;take 64 1;x", 9, 2, 0);
        faultIs("take 1 1;x;take 64 1;", 9, 1, 0);
        faultIs("cut 5;cut 51;cut 52;", 6, 2, 0);
        faultIs("cut 5;take 1 1;loop 1 0;cut 51;", 15, 2, 1);
        faultIs("cut 5;take 01 10;skip 63 4;cut", 27, 1, 3);
    }

    private static void reasonOfBoth() {
        about("Texts", "its reason is 1 if it is not of this form, its \";\" included, and 2 if a number is out of "
                + "its range", "both");
        faultIs("take 64 1", 0, 1, 9);
        faultIs("take 64", 0, 1, 7);
        faultIs("take 64 41", 0, 1, 10);
        faultIs("take 64 x;", 0, 1, 8);
        faultIs("take 64 100;", 0, 1, 10);
        faultIs("cut 99", 0, 1, 6);
        faultIs("cut 51 ;", 0, 1, 6);
        faultIs("take 64 1;take 64", 0, 2, 0);
    }

    // ---- Texts: the cause

    private static void causeAtEachCharacter() {
        about("Texts", "at which character of the order it breaks off");
        for (String order : ORDERS) {
            int letters = order.indexOf(' ');
            for (int i = 0; i < order.length(); i++) {
                String broken = order.substring(0, i) + '~' + order.substring(i + 1);
                faultIs(broken, 0, 1, i < letters ? 0 : i);
                faultIs("cut 5;" + broken + "x;", 6, 1, i < letters ? 0 : i);
            }
        }
    }

    private static void causeAtEachEnd() {
        about("Texts", "of another order that the text ends too early it is its length");
        for (String order : ORDERS) {
            int letters = order.indexOf(' ');
            for (int length = 1; length < order.length(); length++) {
                String part = order.substring(0, length);
                faultIs(part, 0, 1, length < letters ? 0 : length);
                faultIs("take 1 1;" + part, 9, 1, length < letters ? 0 : length);
            }
            noFault(order);
        }
    }

    private static void causeOfRanges() {
        about("Texts", "with the reason 2 it is which of its numbers it is, from 0, the first one that is out of its "
                + "range");
        for (String word : WORDS) {
            faultIs(word + " 64 0;", 0, 2, 0);
            faultIs(word + " 64 41;", 0, 2, 0);
            faultIs(word + " 64 40;", 0, 2, 0);
            faultIs(word + " 63 41;", 0, 2, 1);
            faultIs(word + " 63 0;", 0, 2, 1);
        }
        faultIs("cut 50;cut 51;", 7, 2, 0);
    }

    // ---- Promise 26

    private static void playOfNothing() {
        about("Promise 26, play", "They are one change, also if there are none");
        Run x = new Run();
        due("play", x.play(), 0);
        due("states", x.count(9), 1);
        due("undo", x.undo(), 0);
        Run y = busy();
        y.clearText();
        undone(y, "play", y::play, 0);
        String before = View.ofState(y);
        for (int i = 0; i < 5; i++) {
            due("play", y.play(), 0);
        }
        CHECKS.that("orders that are none change something", View.ofState(y).equals(before));
        for (int left = 3; left >= 0; left--) {
            due("undo of nothing", y.undo(), left);
        }
        CHECKS.that("undo of nothing changes something", View.ofState(y).equals(before));
        due("the oldest ones were dropped", y.undo(), NOT_POSSIBLE);
    }

    private static void played(String text, int branches, int history) {
        Run x = new Run();
        write(x, text);
        due("play of '" + text + "'", x.play(), branches);
        due("history behind '" + text + "'", x.count(5), history);
        due("branches by '" + text + "'", x.count(6), branches);
        due("states behind '" + text + "'", x.count(9), 1);
        due("the length of '" + text + "'", x.count(10), text.length());
    }

    private static void playOfOne() {
        about("Texts", "so many branches that are taken .. so many that are not .. so many, taken and not by turns, "
                + "the first one taken .. all but the last one of so many are taken", "1, 2 and 3 of them");
        played("take 0 1;", 1, 1);
        played("take 0 2;", 2, 3);
        played("take 0 3;", 3, 7);
        played("take 0 1;skip 0 1;", 2, 2);
        played("take 0 1;skip 0 2;", 3, 4);
        played("take 0 1;skip 0 3;", 4, 8);
        played("flip 0 1;", 1, 1);
        played("flip 0 2;", 2, 2);
        played("flip 0 3;", 3, 5);
        played("flip 0 3;flip 0 3;", 6, 45);
        played("loop 0 1;", 1, 0);
        played("take 0 1;loop 0 1;", 2, 2);
        played("loop 0 2;", 2, 2);
        played("loop 0 3;", 3, 6);
        played("loop 0 3;loop 0 3;", 6, 54);
    }

    private static void playOfMost() {
        about("Texts", "times 1 to 40", "39 and 40 of them");
        played("take 0 40;", 40, 255);
        played("take 0 8;skip 0 40;", 48, 0);
        played("flip 63 40;", 40, 170);
        played("flip 63 39;", 39, 85);
        played("loop 63 40;", 40, 254);
        played("loop 63 39;loop 63 1;", 40, 252);
    }

    private static void playOfFullText() {
        about("Promise 26, play", "Returns how many branches there were");
        played("take 1 40;".repeat(8), 320, 255);
        played("skip 1 40;".repeat(7) + "flip 9 40;", 320, 170);
        played("cut 5;".repeat(12) + "cut 50;", 0, 0);
        played("cut 5;loop 7 8;", 8, 254);
        Run x = new Run();
        write(x, "take 1 40;".repeat(8));
        for (int i = 1; i <= 3; i++) {
            due("play, as the text stays", x.play(), 320);
            due("branches", x.count(6), 320 * i);
        }
    }

    private static void playIsOneChange() {
        about("Promise 26, play", "They are one change");
        Run x = busy();
        write(x, "take 5 9;cut 50;flip 7 8;skip 63 40;cut 0;loop 0 9;");
        undone(x, "play", x::play, 66);
        x.undo();
        undone(x, "play behind undo", x::play, 66);
        due("states", x.count(9), 2);
        due("play", x.play(), 66);
        due("states", x.count(9), 3);
        due("undo", x.undo(), 2);
        due("the text stays", x.count(10), 51);
    }

    private static void playOfCuts() {
        about("Texts", "or the word \"cut\" and a number (the cut of the house)");
        for (int cut = 0; cut <= 50; cut += 25) {
            Run x = rivals(100, 100);
            x.set(0, 50);
            write(x, "cut " + cut + ";");
            due("play", x.play(), 0);
            due("the cut", x.count(21), cut);
            due("the unit", x.count(20), 50);
            due("the share for creditors", x.count(22), 50);
            x.branch(0, 1);
            purses(x, cut / 2, 150 - cut / 2, 50);
        }
        Run y = rivals(500, 500);
        y.set(0, 50);
        write(y, "take 1 1;cut 50;take 1 1;cut 0;skip 1 1;cut 4;");
        due("play", y.play(), 3);
        purses(y, 5 + 25, 500 + 45 + 25 - 50, 500 - 50 - 50 + 50);
        due("the cut", y.count(21), 4);
    }

    private static void playWithFault() {
        about("Promise 26, play", "NOT_POSSIBLE if it has a fault");
        for (String text : new String[] {"x", ";", "take 1 5;x", "take 1 5;take 64 1;", "cut 7;cut 51;", "take 1 5",
                "cut 7;take 1 0;", "take 1 5; "}) {
            Run x = busy();
            write(x, text);
            refused(x, "play of '" + text + "'", x::play, NOT_POSSIBLE);
            due("the cut", x.count(21), 10);
            due("branches", x.count(6), 9);
        }
        Run y = busy();
        refused(y, "an order without an end", y::play, NOT_POSSIBLE);
        y.type(';');
        due("the same with its end", y.play(), 5);
        due("the cut", y.count(21), 7);
    }

    private static void playAsBranches() {
        about("Promise 26, play", "Does all orders of the text");
        Run x = busy();
        Run y = busy();
        write(x, "take 0 2;cut 33;skip 63 3;flip 37 5;cut 1;loop 9 4;");
        due("play", x.play(), 14);
        branches(y, 0, "11");
        y.set(1, 33);
        branches(y, 63, "000");
        branches(y, 37, "10101");
        y.set(1, 1);
        branches(y, 9, "1110");
        CHECKS.that("orders are not as branches one by one", View.ofState(x).equals(View.ofState(y)));
    }
}
