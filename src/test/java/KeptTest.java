/** Promises 16, 17, 25 and 26: the numbers and texts that are kept by ID. */
public final class KeptTest {
    public static void main(String[] args) {
        nothingKept();
        typing();
        atMostTwelve();
        caret();
        backspace();
        allKeysInOneFrame();
        insertingInTheMiddle();
        twoTexts();
        sameIdSameKept();
        firstToHave();
        forOthersNothingIsKept();
        fieldWithoutRoom();
        Checks.finish("KeptTest");
    }

    private static void nothingKept() {
        PanelFrames ui = new PanelFrames();
        Checks.same("kept", ui.kept(31002), 0);
        Checks.same("kept for 0", ui.kept(0), 0);
        Checks.same("kept for the least", ui.kept(Integer.MIN_VALUE), 0);
        Checks.same("no letter", ui.text(31002, 0), -1);
        Checks.same("no letter for 0", ui.text(0, 0), -1);
        Checks.same("no letter -1", ui.text(31002, -1), -1);
        Checks.same("no letter 13", ui.text(31002, 13), -1);
        Checks.same("nothing is kept", ui.look(12), 0);
    }

    /** Field 1 in window 0. */
    private static final int ID = 31002;

    private static int frame(PanelFrames ui) {
        ui.begin();
        ui.window(0, 0, 0, 200, 200);
        int length = ui.field(1, 100);
        ui.close();
        ui.end();
        return length;
    }

    private static int type(PanelFrames ui, String letters) {
        for (char letter : letters.toCharArray()) {
            ui.letter(letter);
        }
        return frame(ui);
    }

    private static int stroke(PanelFrames ui, int... keys) {
        for (int key : keys) {
            ui.key(key, true);
            ui.key(key, false);
        }
        return frame(ui);
    }

    private static PanelFrames focused() {
        PanelFrames ui = new PanelFrames();
        stroke(ui, Checks.TAB);
        return ui;
    }

    private static void isText(String what, PanelFrames ui, String letters, int caret) {
        for (int k = 0; k < 12; k++) {
            Checks.same(what + ": letter " + k, ui.text(ID, k), k < letters.length() ? letters.charAt(k) : -1);
        }
        Checks.same(what + ": caret", ui.text(ID, 12), caret);
        Checks.same(what + ": none before", ui.text(ID, -1), -1);
        Checks.same(what + ": none behind", ui.text(ID, 13), -1);
    }

    private static void typing() {
        PanelFrames ui = focused();
        Checks.same("a focus alone keeps nothing", ui.look(12), 0);
        Checks.same("two letters", type(ui, "hi"), 2);
        isText("two letters", ui, "hi", 2);
        Checks.same("one ID has something", ui.look(12), 1);
        Checks.same("two more", type(ui, " ~"), 4);
        isText("two more", ui, "hi ~", 4);
        Checks.same("no more", frame(ui), 4);
        Checks.same("its number is 0", ui.kept(ID), 0);
    }

    private static void atMostTwelve() {
        PanelFrames ui = focused();
        Checks.same("eleven", type(ui, "abcdefghijk"), 11);
        Checks.same("three more: one fits", type(ui, "lmn"), 12);
        isText("twelve", ui, "abcdefghijkl", 12);
        stroke(ui, Checks.HOME);
        Checks.same("none fits at the beginning either", type(ui, "z"), 12);
        isText("still twelve", ui, "abcdefghijkl", 0);
    }

    private static void caret() {
        PanelFrames ui = focused();
        stroke(ui, Checks.LEFT);
        stroke(ui, Checks.RIGHT);
        stroke(ui, Checks.HOME);
        Checks.same("without a text", frame(ui), 0);
        Checks.same("nothing is kept by that", ui.look(12), 0);
        type(ui, "abc");
        stroke(ui, Checks.RIGHT);
        isText("no letter behind", ui, "abc", 3);
        stroke(ui, Checks.LEFT);
        isText("LEFT", ui, "abc", 2);
        stroke(ui, Checks.LEFT);
        stroke(ui, Checks.LEFT);
        isText("LEFT to 0", ui, "abc", 0);
        stroke(ui, Checks.LEFT);
        isText("LEFT at 0", ui, "abc", 0);
        stroke(ui, Checks.RIGHT);
        isText("RIGHT", ui, "abc", 1);
        stroke(ui, Checks.RIGHT);
        stroke(ui, Checks.HOME);
        isText("HOME", ui, "abc", 0);
    }

    private static void backspace() {
        PanelFrames ui = focused();
        Checks.same("BACK without a text", stroke(ui, Checks.BACK), 0);
        type(ui, "abcd");
        Checks.same("BACK at the end", stroke(ui, Checks.BACK), 3);
        isText("BACK at the end", ui, "abc", 3);
        stroke(ui, Checks.LEFT);
        Checks.same("BACK in the middle", stroke(ui, Checks.BACK), 2);
        isText("BACK in the middle", ui, "ac", 1);
        stroke(ui, Checks.HOME);
        Checks.same("BACK at the beginning", stroke(ui, Checks.BACK), 2);
        isText("BACK at the beginning", ui, "ac", 0);
        stroke(ui, Checks.RIGHT);
        stroke(ui, Checks.BACK);
        stroke(ui, Checks.RIGHT);
        Checks.same("all gone", stroke(ui, Checks.BACK), 0);
        isText("all gone", ui, "", 0);
    }

    private static void allKeysInOneFrame() {
        PanelFrames ui = focused();
        type(ui, "abcd");
        ui.letter('x');
        stroke(ui, Checks.BACK, Checks.RIGHT, Checks.LEFT);
        isText("LEFT, RIGHT, BACK, then letters", ui, "abcx", 4);
        ui.letter('y');
        stroke(ui, Checks.BACK, Checks.RIGHT, Checks.HOME);
        isText("HOME, RIGHT, BACK, then letters", ui, "ybcx", 1);
        ui.letter('z');
        stroke(ui, Checks.LEFT, Checks.HOME);
        isText("HOME, LEFT, then letters", ui, "zybcx", 1);
    }

    private static void insertingInTheMiddle() {
        PanelFrames ui = focused();
        type(ui, "ad");
        stroke(ui, Checks.LEFT);
        type(ui, "bc");
        isText("before the caret", ui, "abcd", 3);
        type(ui, "123456789");
        isText("twelve", ui, "abc12345678d", 11);
    }

    private static void sameIdSameKept() {
        PanelFrames ui = focused();
        type(ui, "abc");
        ui.begin();
        ui.window(0, 0, 0, 200, 200);
        Checks.same("told twice", ui.field(1, 50), 3);
        Checks.same("told twice", ui.field(1, 60), 3);
        Checks.same("a slider with its ID", ui.slider(1, 50, 4, 9), 4);
        Checks.same("a check with its ID", ui.check(1), 4);
        Checks.yes("a tree with its ID", ui.tree(1, 50));
        ui.close();
        ui.close();
        ui.end();
        Checks.same("one ID has something", ui.look(12), 1);
        Checks.same("kept", ui.kept(ID), 4);
        isText("the text stays", ui, "abc", 3);
        ui.begin();
        ui.window(1, 0, 0, 200, 200);
        Checks.same("another window, another ID", ui.field(1, 50), 0);
        ui.close();
        ui.end();
    }

    /** Sliders 0 .. n - 1, each with a number of its own, in window 2. */
    private static void sliders(PanelFrames ui, int n) {
        ui.begin();
        ui.window(2, 0, 0, 200, 200);
        for (int k = 0; k < n; k++) {
            ui.slider(k, 10, k + 1, 999);
        }
        ui.close();
        ui.end();
    }

    private static void firstToHave() {
        PanelFrames ui = new PanelFrames();
        sliders(ui, 39);
        Checks.same("39 are kept", ui.look(12), 39);
        ui.begin();
        ui.window(2, 0, 0, 200, 200);
        Checks.same("a number that is 0", ui.slider(700, 10, 0, 9), 0);
        Checks.same("needs no room", ui.look(12), 39);
        ui.slider(39, 10, 40, 999);
        Checks.same("40 are kept", ui.look(12), 40);
        ui.slider(40, 10, 41, 999);
        Checks.same("no more than 40", ui.look(12), 40);
        ui.close();
        ui.end();
        for (int k = 0; k < 40; k++) {
            Checks.same("kept " + k, ui.kept(Checks.idIn(2, k)), k + 1);
        }
        Checks.same("not kept", ui.kept(Checks.idIn(2, 40)), 0);
        sliders(ui, 40);
        Checks.same("those stay", ui.kept(Checks.idIn(2, 39)), 40);
    }

    private static void forOthersNothingIsKept() {
        PanelFrames ui = new PanelFrames();
        sliders(ui, 40);
        ui.point(10, 20);
        for (int k = 0; k < 3; k++) {
            ui.begin();
            ui.window(3, 0, 0, 200, 200);
            Checks.same("a check answers 0", ui.check(101), 0);
            ui.close();
            ui.end();
            ui.press(k % 2 == 0);
        }
        ui.begin();
        ui.window(3, 0, 0, 200, 200);
        ui.tree(102, 50);
        ui.close();
        ui.end();
        Checks.same("it is active", ui.look(0), Checks.idIn(3, 102));
        ui.press(false);
        ui.begin();
        ui.window(3, 0, 0, 200, 200);
        Checks.no("a tree is not open", ui.tree(102, 50));
        Checks.same("it needs no closing", ui.look(13), 1);
        ui.close();
        ui.end();
        Checks.same("nothing is kept of it", ui.kept(Checks.idIn(3, 102)), 0);
        Checks.same("40 are kept", ui.look(12), 40);
    }

    private static void fieldWithoutRoom() {
        PanelFrames ui = new PanelFrames();
        sliders(ui, 40);
        stroke(ui, Checks.TAB);
        Checks.same("it has the focus", ui.look(2), ID);
        Checks.same("there is no text", type(ui, "abc"), 0);
        Checks.same("no letter", ui.text(ID, 0), -1);
        Checks.same("40 are kept", ui.look(12), 40);
    }

    private static void twoTexts() {
        PanelFrames ui = new PanelFrames();
        String[] texts = {"abcdefghijkl", "mnopqrstuvwx", "yz"};
        for (int round = 0; round < 3; round++) {
            ui.key(Checks.TAB, true);
            ui.key(Checks.TAB, false);
            threeFields(ui);
            for (char letter : texts[round].toCharArray()) {
                ui.letter(letter);
            }
            threeFields(ui);
        }
        ui.key(Checks.TAB, true);
        ui.key(Checks.TAB, false);
        threeFields(ui);
        Checks.same("the first has the focus again", ui.look(2), Checks.idIn(0, 1));
        ui.key(Checks.LEFT, true);
        ui.key(Checks.BACK, true);
        threeFields(ui);
        ui.letter('1');
        threeFields(ui);
        texts[0] = "abcdefghij1l";
        for (int field = 0; field < 3; field++) {
            for (int k = 0; k < texts[field].length(); k++) {
                Checks.same("field " + field + ", letter " + k,
                    ui.text(Checks.idIn(0, 1 + field), k), texts[field].charAt(k));
            }
        }
        Checks.same("three are kept", ui.look(12), 3);
    }

    private static void threeFields(PanelFrames ui) {
        ui.begin();
        ui.window(0, 0, 0, 200, 200);
        for (int label = 1; label <= 3; label++) {
            ui.field(label, 100);
        }
        ui.close();
        ui.end();
    }
}
