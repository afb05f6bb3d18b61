/** The boundary cases of what is kept by ID: promises 15 to 18, 25 and 26. */
public final class KeptEdgesTest {
    private static final int ID = 31002;

    public static void main(String[] args) {
        elevenTwelveThirteen();
        twelveInTwoFrames();
        noRoomAtAnyCaret();
        caretAtItsEnds();
        backAtItsEnds();
        keysTakeTheirTurn();
        lettersOfTheText();
        aFieldWithoutTheFocus();
        fortyNumbers();
        fortyTexts();
        fortyChecks();
        theFirstOnesStay();
        nothingIsNoNumber();
        aTreeBeyondForty();
        aSliderBeyondForty();
        idsThatNothingHas();
        aNumberAlone();
        sameIdSameKept();
        Checks.finish("KeptEdgesTest");
    }

    private static int frame(PanelFrames ui) {
        ui.begin();
        ui.window(0, 0, 0, 200, 200);
        int length = ui.field(1, 100);
        ui.close();
        ui.end();
        return length;
    }

    private static PanelFrames withFocus() {
        PanelFrames ui = new PanelFrames();
        ui.key(Checks.TAB, true);
        ui.key(Checks.TAB, false);
        frame(ui);
        return ui;
    }

    private static int type(PanelFrames ui, String letters) {
        for (int k = 0; k < letters.length(); k++) {
            ui.letter(letters.charAt(k));
        }
        return frame(ui);
    }

    private static int stroke(PanelFrames ui, int... keys) {
        for (int key : keys) {
            ui.key(key, true);
            ui.key(key, false);
        }
        return frame(ui);
    }

    private static PanelFrames withText(String letters) {
        PanelFrames ui = withFocus();
        Checks.same("typed", type(ui, letters), letters.length());
        return ui;
    }

    private static void isText(String what, PanelFrames ui, String letters, int caret) {
        for (int k = 0; k < 12; k++) {
            Checks.same(what + ", letter " + k, ui.text(ID, k), k < letters.length() ? letters.charAt(k) : -1);
        }
        Checks.same(what + ", caret", ui.text(ID, 12), caret);
    }

    /** "A text of at most 12 letters"; "each before the caret, as long as there are fewer than 12". */
    private static void elevenTwelveThirteen() {
        String letters = "abcdefghijklm";
        for (int count = 11; count <= 13; count++) {
            PanelFrames ui = withFocus();
            int due = Math.min(12, count);
            Checks.same(count + " letters", type(ui, letters.substring(0, count)), due);
            isText(count + " letters", ui, letters.substring(0, due), due);
        }
    }

    private static void twelveInTwoFrames() {
        for (int first = 10; first <= 12; first++) {
            PanelFrames ui = withText("abcdefghijkl".substring(0, first));
            Checks.same(first + " and 2", type(ui, "XY"), 12);
            isText(first + " and 2", ui, ("abcdefghijkl".substring(0, first) + "XY").substring(0, 12), 12);
            Checks.same("one more", type(ui, "Z"), 12);
        }
    }

    private static void noRoomAtAnyCaret() {
        PanelFrames ui = withText("abcdefghijkl");
        for (int caret = 12; caret >= 0; caret--) {
            Checks.same("a letter at caret " + caret, type(ui, "X"), 12);
            isText("at caret " + caret, ui, "abcdefghijkl", caret);
            stroke(ui, Checks.LEFT);
        }
    }

    /** "The caret is 0; with LEFT 1 less, if it isn't 0; with RIGHT 1 more, if there is a letter behind it." */
    private static void caretAtItsEnds() {
        int[] lengths = {1, 2, 11, 12};
        for (int length : lengths) {
            String letters = "abcdefghijkl".substring(0, length);
            PanelFrames ui = withText(letters);
            stroke(ui, Checks.RIGHT);
            isText("RIGHT at the end of " + length, ui, letters, length);
            stroke(ui, Checks.LEFT);
            isText("LEFT at the end of " + length, ui, letters, length - 1);
            stroke(ui, Checks.RIGHT);
            isText("RIGHT 1 before the end of " + length, ui, letters, length);
            stroke(ui, Checks.HOME);
            isText("HOME in " + length, ui, letters, 0);
            stroke(ui, Checks.HOME);
            stroke(ui, Checks.LEFT);
            isText("LEFT at 0 in " + length, ui, letters, 0);
            stroke(ui, Checks.RIGHT);
            isText("RIGHT at 0 in " + length, ui, letters, 1);
            stroke(ui, Checks.LEFT);
            isText("LEFT at 1 in " + length, ui, letters, 0);
        }
    }

    /** "With BACK the letter before the caret goes." */
    private static void backAtItsEnds() {
        int[] lengths = {1, 2, 12};
        for (int length : lengths) {
            String letters = "abcdefghijkl".substring(0, length);
            PanelFrames ui = withText(letters);
            stroke(ui, Checks.HOME);
            Checks.same("BACK at 0 of " + length, stroke(ui, Checks.BACK), length);
            isText("BACK at 0 of " + length, ui, letters, 0);
            stroke(ui, Checks.RIGHT);
            Checks.same("BACK at 1 of " + length, stroke(ui, Checks.BACK), length - 1);
            isText("BACK at 1 of " + length, ui, letters.substring(1), 0);
        }
        PanelFrames ui = withText("abcdefghijkl");
        Checks.same("BACK at 12", stroke(ui, Checks.BACK), 11);
        isText("BACK at 12", ui, "abcdefghijk", 11);
        for (int left = 10; left >= 0; left--) {
            Checks.same("BACK", stroke(ui, Checks.BACK), left);
        }
        Checks.same("BACK in an empty text", stroke(ui, Checks.BACK), 0);
        isText("an empty text", ui, "", 0);
        Checks.same("and a letter", type(ui, "z"), 1);
        isText("and a letter", ui, "z", 1);
    }

    private static void keysTakeTheirTurn() {
        PanelFrames ui = withText("abcdefghijkl");
        ui.letter('X');
        Checks.same("BACK makes room for one letter", stroke(ui, Checks.BACK), 12);
        isText("for one", ui, "abcdefghijkX", 12);
        ui.letter('Y');
        ui.letter('Z');
        Checks.same("but not for two", stroke(ui, Checks.BACK), 12);
        isText("not for two", ui, "abcdefghijkY", 12);
        ui.letter('0');
        Checks.same("HOME, then BACK: none goes", stroke(ui, Checks.BACK, Checks.HOME), 12);
        isText("HOME, then BACK", ui, "abcdefghijkY", 0);
        ui.letter('1');
        stroke(ui, Checks.BACK, Checks.RIGHT);
        isText("RIGHT, then BACK, then the letter", ui, "1bcdefghijkY", 1);
        stroke(ui, Checks.RIGHT, Checks.LEFT);
        isText("LEFT, then RIGHT", ui, "1bcdefghijkY", 1);
    }

    /** "A letter of the text that is kept for an ID; its caret for k 12; NONE if there is none." */
    private static void lettersOfTheText() {
        int[] lengths = {1, 11, 12};
        for (int length : lengths) {
            PanelFrames ui = withText("abcdefghijkl".substring(0, length));
            Checks.same("text -1 of " + length, ui.text(ID, -1), -1);
            Checks.same("the first of " + length, ui.text(ID, 0), 'a');
            Checks.same("the last of " + length, ui.text(ID, length - 1), 'a' + length - 1);
            Checks.same("12 of " + length, ui.text(ID, 12), length);
            Checks.same("13 of " + length, ui.text(ID, 13), -1);
            Checks.same("the least of " + length, ui.text(ID, Integer.MIN_VALUE), -1);
            Checks.same("the most of " + length, ui.text(ID, Integer.MAX_VALUE), -1);
            Checks.same("11 of " + length, ui.text(ID, 11), length == 12 ? 'l' : -1);
            if (length < 12) {
                Checks.same("behind the last of " + length, ui.text(ID, length), -1);
            }
            Checks.same("of the ID before", ui.text(ID - 1, 0), -1);
            Checks.same("of the ID behind", ui.text(ID + 1, 0), -1);
        }
    }

    private static void aFieldWithoutTheFocus() {
        PanelFrames ui = withText("ab");
        ui.letter('X');
        ui.key(Checks.BACK, true);
        ui.key(Checks.HOME, true);
        ui.begin();
        ui.window(0, 0, 0, 200, 200);
        Checks.same("another field gets nothing", ui.field(2, 100), 0);
        Checks.same("the one with the focus gets it all", ui.field(1, 100), 3);
        isText("HOME, BACK, then the letter", ui, "Xab", 1);
    }

    /** Sliders 0 .. count - 1, with the numbers 1 .. count, in window 2. */
    private static void sliders(PanelFrames ui, int count) {
        ui.begin();
        ui.window(2, 0, 0, 200, 200);
        for (int k = 0; k < count; k++) {
            Checks.same("slider " + k, ui.slider(k, 10, k + 1, k + 2), k + 1);
        }
        ui.close();
        ui.end();
    }

    /** "For at most 40 IDs, those that were first to have a number other than 0, or a letter." */
    private static void fortyNumbers() {
        for (int count = 39; count <= 41; count++) {
            PanelFrames ui = new PanelFrames();
            sliders(ui, count);
            Checks.same(count + " sliders", ui.look(12), Math.min(40, count));
            for (int k = 0; k < 42; k++) {
                int due = k < Math.min(40, count) ? k + 1 : 0;
                Checks.same(count + " sliders, the number of " + k, ui.kept(Checks.idIn(2, k)), due);
            }
        }
    }

    private static void fortyTexts() {
        for (int count = 39; count <= 41; count++) {
            PanelFrames ui = new PanelFrames();
            sliders(ui, count - 1);
            ui.key(Checks.TAB, true);
            frame(ui);
            Checks.same("the focus", ui.look(2), ID);
            Checks.same("a field behind " + (count - 1), type(ui, "ab"), count <= 40 ? 2 : 0);
            Checks.same("its letter", ui.text(ID, 0), count <= 40 ? 'a' : -1);
            Checks.same("its last letter", ui.text(ID, 1), count <= 40 ? 'b' : -1);
            Checks.same("so many are kept", ui.look(12), Math.min(40, count));
            Checks.same("and later", frame(ui), count <= 40 ? 2 : 0);
        }
    }

    private static int clicked(PanelFrames ui, boolean tree) {
        ui.key(Checks.TAB, true);
        ui.key(Checks.TAB, false);
        tellOne(ui, tree);
        ui.key(Checks.ENTER, true);
        ui.key(Checks.ENTER, false);
        return tellOne(ui, tree);
    }

    private static int tellOne(PanelFrames ui, boolean tree) {
        ui.begin();
        ui.window(0, 0, 0, 200, 200);
        int answer = tree ? (ui.tree(1, 20) ? 1 : 0) : ui.check(1);
        Checks.same("things open", ui.look(13), tree && answer == 1 ? 2 : 1);
        if (tree && answer == 1) {
            ui.close();
        }
        ui.close();
        ui.end();
        return answer;
    }

    /** "The number is always 0 (a check answers 0, a tree is not open)". */
    private static void fortyChecks() {
        for (int count = 39; count <= 41; count++) {
            PanelFrames ui = new PanelFrames();
            sliders(ui, count - 1);
            Checks.same("a check behind " + (count - 1), clicked(ui, false), count <= 40 ? 1 : 0);
            Checks.same("its number", ui.kept(ID), count <= 40 ? 1 : 0);
            Checks.same("and later", tellOne(ui, false), count <= 40 ? 1 : 0);
        }
    }

    private static void aTreeBeyondForty() {
        for (int count = 39; count <= 41; count++) {
            PanelFrames ui = new PanelFrames();
            sliders(ui, count - 1);
            Checks.same("a tree behind " + (count - 1), clicked(ui, true), count <= 40 ? 1 : 0);
            Checks.same("its number", ui.kept(ID), count <= 40 ? 1 : 0);
            Checks.same("and later", tellOne(ui, true), count <= 40 ? 1 : 0);
        }
    }

    /** Its number is 0 in each frame: brought between, or moved by a key from there, but never kept. */
    private static void aSliderBeyondForty() {
        PanelFrames ui = new PanelFrames();
        sliders(ui, 40);
        ui.begin();
        ui.window(0, 0, 0, 200, 200);
        Checks.same("0 is in its range", ui.slider(1, 20, -5, 5), 0);
        Checks.same("nothing is kept", ui.kept(ID), 0);
        ui.slider(1, 20, 3, 5);
        Checks.same("nor brought between", ui.kept(ID), 0);
        Checks.same("so it is 0 again", ui.slider(1, 20, -5, 5), 0);
    }

    /** Once among the 40, an ID stays so, with the number 0, too; those behind don't come up. */
    private static void theFirstOnesStay() {
        PanelFrames ui = new PanelFrames();
        sliders(ui, 40);
        ui.begin();
        ui.window(2, 0, 0, 200, 200);
        Checks.same("the first one is 0", ui.slider(0, 10, -1, 0), 0);
        Checks.same("kept", ui.kept(Checks.idIn(2, 0)), 0);
        ui.slider(40, 10, 7, 9);
        Checks.same("the 41st is not kept", ui.kept(Checks.idIn(2, 40)), 0);
        ui.slider(0, 10, 5, 9);
        Checks.same("the first one is", ui.kept(Checks.idIn(2, 0)), 5);
        ui.slider(39, 10, 500, 900);
        Checks.same("the 40th is", ui.kept(Checks.idIn(2, 39)), 500);
    }

    private static void nothingIsNoNumber() {
        PanelFrames ui = new PanelFrames();
        sliders(ui, 39);
        ui.begin();
        ui.window(0, 0, 0, 200, 200);
        for (int k = 0; k < 5; k++) {
            ui.check(100 + k);
            ui.slider(200 + k, 10, 0, 9);
            ui.field(300 + k, 10);
            ui.button(400 + k, 10);
            ui.tree(500 + k, 10);
        }
        Checks.same("a number of 0 and an empty text take no place", ui.look(12), 39);
        Checks.same("a number below 0 does", ui.slider(600, 10, -9, -1), -1);
        Checks.same("the 40th", ui.look(12), 40);
        Checks.same("kept", ui.kept(Checks.idIn(0, 600)), -1);
    }

    /** "A number, 0 at first, and a text with a CARET (0 at first)": who has the one has the other. */
    private static void aNumberAlone() {
        PanelFrames ui = new PanelFrames();
        sliders(ui, 2);
        Checks.same("its number", ui.kept(Checks.idIn(2, 1)), 2);
        Checks.same("its caret", ui.text(Checks.idIn(2, 1), 12), 0);
        Checks.same("no letter", ui.text(Checks.idIn(2, 1), 0), -1);
        PanelFrames text = withText("ab");
        Checks.same("its caret", text.text(ID, 12), 2);
        Checks.same("its number", text.kept(ID), 0);
    }

    private static void idsThatNothingHas() {
        PanelFrames ui = new PanelFrames();
        int[] ids = {0, 1, -1, 1000, 1008, ID, Integer.MIN_VALUE, Integer.MAX_VALUE};
        for (int id : ids) {
            Checks.same("kept(" + id + ")", ui.kept(id), 0);
            Checks.same("text(" + id + ", 0)", ui.text(id, 0), -1);
            Checks.same("text(" + id + ", 11)", ui.text(id, 11), -1);
        }
        sliders(ui, 1);
        Checks.same("of the one", ui.kept(Checks.idIn(2, 0)), 1);
        Checks.same("of the ID before it", ui.kept(Checks.idIn(2, 0) - 1), 0);
        Checks.same("of the ID behind it", ui.kept(Checks.idIn(2, 0) + 1), 0);
        Checks.same("of 0", ui.kept(0), 0);
    }

    /** "What has the same ID is the same in all that is kept by IDs": scope 0 and a tree with label 0. */
    private static void sameIdSameKept() {
        PanelFrames ui = Checks.inWindow();
        ui.scope(0);
        ui.slider(5, 10, 3, 9);
        ui.close();
        ui.slider(0, 10, 1, 9);
        Checks.yes("a tree with the scope's ID", ui.tree(0, 10));
        Checks.same("in it the label has the same ID", ui.check(5), 3);
        ui.close();
        Checks.same("outside it hasn't", ui.check(5), 0);
        Checks.same("two are kept", ui.look(12), 2);
    }
}
