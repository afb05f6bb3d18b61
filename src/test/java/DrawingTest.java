/** Promises 27 to 30: the drawing's commands, indices and vertices. */
public final class DrawingTest {
    public static void main(String[] args) {
        emptyDrawing();
        oneWindow();
        windowOverTheEdge();
        windowBeyondTheScreen();
        buttonAndDigits();
        digitsAtTheClip();
        itemsOutsideTheClip();
        fieldsLetters();
        checkAndTreeAndSlider();
        childrenAndTheirClips();
        commandsJoin();
        sixtyFourVertices();
        sixtyFourVerticesAcrossTextures();
        windowsInTheirOrder();
        eachWindowHasItsOwnList();
        popupAtLast();
        wrongArguments();
        manyQuads();
        Checks.finish("DrawingTest");
    }

    private static void emptyDrawing() {
        PanelFrames ui = new PanelFrames();
        ui.begin();
        Checks.same("an empty frame", ui.end(), 0);
        for (int what = 0; what < 3; what++) {
            Checks.same("drawn(" + what + ")", ui.drawn(what), 0);
        }
        Checks.same("command", ui.command(0, 0), -1);
        Checks.same("index", ui.index(0), -1);
        Checks.same("vertex", ui.vertex(0, 0), -10000);
    }

    private static void oneWindow() {
        PanelFrames ui = new PanelFrames();
        ui.begin();
        ui.window(0, 10, 20, 100, 110);
        Checks.same("nothing is drawn before the end", ui.drawn(0), 0);
        ui.close();
        Checks.same("one command", ui.end(), 1);
        Checks.same("drawn(0)", ui.drawn(0), 1);
        Checks.same("drawn(1)", ui.drawn(1), 12);
        Checks.same("drawn(2)", ui.drawn(2), 8);
        Checks.command("the window", ui, 0, 10, 20, 110, 130, 0, 0, 0, 12);
        Checks.quad("rectangle", ui, 0, 10, 20, 110, 130, 1);
        Checks.quad("title", ui, 1, 10, 20, 110, 32, 2);
        int[] due = {0, 1, 2, 0, 2, 3, 4, 5, 6, 4, 6, 7};
        for (int k = 0; k < due.length; k++) {
            Checks.same("index(" + k + ")", ui.index(k), due[k]);
        }
        Checks.same("index(12)", ui.index(12), -1);
        ui.begin();
        Checks.same("the drawing stays in a frame", ui.drawn(2), 8);
        ui.end();
        Checks.same("until that ends", ui.drawn(2), 0);
    }

    private static void windowOverTheEdge() {
        PanelFrames ui = new PanelFrames();
        ui.begin();
        ui.window(0, -30, -5, 100, 50);
        ui.button(1, 60);
        ui.close();
        ui.window(1, 960, 970, 100, 50);
        ui.button(1, 60);
        ui.close();
        Checks.same("commands", ui.end(), 5);
        Checks.command("the rectangle on the screen", ui, 0, 0, 0, 70, 45, 0, 0, 0, 12);
        Checks.quad("the whole rectangle", ui, 0, -30, -5, 70, 45, 1);
        Checks.quad("the whole title", ui, 1, -30, -5, 70, 7, 2);
        Checks.command("without the title", ui, 1, 0, 7, 70, 45, 0, 0, 12, 6);
        Checks.quad("the button", ui, 2, -26, 11, 34, 23, 3);
        Checks.command("the second", ui, 2, 960, 970, 1000, 1000, 0, 12, 18, 12);
        Checks.command("its button", ui, 3, 960, 982, 1000, 1000, 0, 12, 30, 6);
        Checks.command("its digit", ui, 4, 960, 982, 1000, 1000, 2, 12, 36, 6);
    }

    private static void windowBeyondTheScreen() {
        PanelFrames ui = new PanelFrames();
        ui.begin();
        ui.window(0, -100, 0, 100, 50);
        ui.button(1, 60);
        ui.close();
        Checks.same("left of the screen", ui.end(), 0);
        ui.begin();
        ui.window(1, 0, -12, 100, 50);
        ui.close();
        Checks.same("the title above the screen", ui.end(), 1);
        Checks.same("the title isn't drawn", ui.drawn(2), 4);
        Checks.command("the clip", ui, 0, 0, 0, 100, 38, 0, 0, 0, 6);
    }

    private static void buttonAndDigits() {
        PanelFrames ui = new PanelFrames();
        ui.begin();
        ui.window(0, 10, 20, 100, 110);
        ui.button(407, 60);
        ui.close();
        Checks.same("commands", ui.end(), 5);
        Checks.same("vertices", ui.drawn(2), 24);
        Checks.same("indices", ui.drawn(1), 36);
        Checks.command("the button", ui, 1, 10, 32, 110, 130, 0, 0, 12, 6);
        Checks.quad("the button", ui, 2, 14, 36, 74, 48, 3);
        Checks.command("4", ui, 2, 10, 32, 110, 130, 5, 0, 18, 6);
        Checks.quad("4", ui, 3, 16, 38, 22, 46, 6);
        Checks.command("0", ui, 3, 10, 32, 110, 130, 1, 0, 24, 6);
        Checks.quad("0", ui, 4, 22, 38, 28, 46, 6);
        Checks.command("7", ui, 4, 10, 32, 110, 130, 8, 0, 30, 6);
        Checks.quad("7", ui, 5, 28, 38, 34, 46, 6);
        Checks.same("index(30)", ui.index(30), 20);
        Checks.same("index(35)", ui.index(35), 23);
        Checks.same("index(36)", ui.index(36), -1);
        labelIsDrawn(0, 1);
        labelIsDrawn(9, 10);
        labelIsDrawn(10, 2, 1);
        labelIsDrawn(99, 10);
        labelIsDrawn(100, 2, 1);
        labelIsDrawn(909, 10, 1, 10);
    }

    private static void labelIsDrawn(int label, int... textures) {
        PanelFrames ui = new PanelFrames();
        ui.begin();
        ui.window(0, 10, 20, 100, 110);
        ui.button(label, 60);
        ui.close();
        ui.end();
        Checks.same("label " + label + ": commands", ui.drawn(0), 2 + textures.length);
        for (int k = 0; k < textures.length; k++) {
            Checks.same("label " + label + ": texture " + k, ui.command(2 + k, 4), textures[k]);
        }
        int digits = label >= 100 ? 3 : label >= 10 ? 2 : 1;
        Checks.same("label " + label + ": vertices", ui.drawn(2), 4 * (3 + digits));
    }

    private static void digitsAtTheClip() {
        PanelFrames ui = new PanelFrames();
        ui.begin();
        ui.window(0, 0, 0, 40, 60);
        ui.check(1);
        ui.near();
        ui.button(123, 2);
        Checks.latest("a narrow button", ui, 20, 16, 22, 28);
        ui.near();
        ui.button(456, 30);
        Checks.latest("a button over the edge", ui, 26, 16, 56, 28);
        ui.close();
        ui.end();
        Checks.same("2, 1, 1 and 3, 1 and 3 without one", ui.drawn(2), 4 * (2 + 1 + 4 + 3));
        Checks.quad("the button over the edge", ui, 7, 26, 16, 56, 28, 3);
        Checks.quad("4", ui, 8, 28, 18, 34, 26, 6);
        Checks.quad("5", ui, 9, 34, 18, 40, 26, 6);
    }

    private static void itemsOutsideTheClip() {
        PanelFrames ui = new PanelFrames();
        ui.begin();
        ui.window(0, 0, 0, 100, 30);
        ui.check(1);
        ui.check(2);
        ui.check(3);
        Checks.latest("below the window", ui, 4, 48, 16, 60);
        ui.close();
        Checks.same("commands", ui.end(), 2);
        Checks.same("one check alone meets the clip", ui.drawn(2), 12);
    }

    private static void fieldsLetters() {
        PanelFrames ui = new PanelFrames();
        for (int k = 0; k < 2; k++) {
            ui.begin();
            ui.window(0, 10, 20, 100, 110);
            ui.field(407, 60);
            ui.close();
            ui.end();
            if (k == 0) {
                Checks.same("no letters, no digits", ui.drawn(2), 12);
                ui.key(Checks.TAB, true);
                ui.begin();
                ui.window(0, 10, 20, 100, 110);
                ui.field(407, 60);
                ui.close();
                ui.end();
                ui.letter('a');
                ui.letter('a');
                ui.letter('~');
            }
        }
        Checks.same("vertices", ui.drawn(2), 24);
        Checks.same("commands", ui.drawn(0), 4);
        Checks.command("a, a", ui, 2, 10, 32, 110, 130, 'a', 0, 18, 12);
        Checks.quad("a", ui, 3, 16, 38, 22, 46, 6);
        Checks.quad("a", ui, 4, 22, 38, 28, 46, 6);
        Checks.command("~", ui, 3, 10, 32, 110, 130, '~', 0, 30, 6);
        Checks.quad("~", ui, 5, 28, 38, 34, 46, 6);
    }

    private static void checkAndTreeAndSlider() {
        PanelFrames ui = new PanelFrames();
        ui.begin();
        ui.window(0, 0, 0, 100, 110);
        ui.check(8);
        ui.tree(5, 20);
        ui.slider(6, 30, 0, 9);
        ui.close();
        Checks.same("commands", ui.end(), 5);
        Checks.same("a check has no digits, the others have", ui.drawn(2), 4 * 7);
        Checks.quad("check", ui, 2, 4, 16, 16, 28, 3);
        Checks.quad("tree", ui, 3, 4, 32, 24, 44, 3);
        Checks.quad("its digit", ui, 4, 6, 34, 12, 42, 6);
        Checks.quad("slider", ui, 5, 4, 48, 34, 60, 3);
        Checks.quad("its digit", ui, 6, 6, 50, 12, 58, 6);
        Checks.same("its texture", ui.command(4, 4), 7);
    }

    private static void childrenAndTheirClips() {
        PanelFrames ui = new PanelFrames();
        ui.begin();
        ui.window(0, 0, 0, 100, 60);
        ui.child(3, 50, 40);
        ui.check(1);
        ui.check(2);
        ui.check(3);
        ui.close();
        ui.near();
        ui.check(4);
        ui.child(5, 20, 20);
        ui.check(5);
        ui.close();
        ui.close();
        Checks.same("commands", ui.end(), 4);
        Checks.command("a child has the clip around it", ui, 1, 0, 12, 100, 60, 0, 0, 12, 6);
        Checks.quad("the child", ui, 2, 4, 16, 54, 56, 3);
        Checks.command("what is in it has its visible part", ui, 2, 4, 16, 54, 56, 0, 0, 18, 18);
        Checks.quad("the third check", ui, 5, 6, 50, 18, 62, 3);
        Checks.command("behind it", ui, 3, 0, 12, 100, 60, 0, 0, 36, 6);
        Checks.quad("the check behind it", ui, 6, 58, 16, 70, 28, 3);
        Checks.same("the last child and its check aren't visible", ui.drawn(2), 28);
    }

    private static void commandsJoin() {
        PanelFrames ui = new PanelFrames();
        ui.begin();
        ui.window(0, 0, 0, 300, 200);
        ui.check(1);
        ui.check(2);
        ui.button(33, 20);
        ui.button(3, 20);
        ui.close();
        Checks.same("commands", ui.end(), 5);
        Checks.same("two checks and a button", ui.command(1, 7), 18);
        Checks.same("two digits", ui.command(2, 7), 12);
        Checks.same("their texture", ui.command(2, 4), 4);
        Checks.same("a button", ui.command(3, 4), 0);
        Checks.same("only the last command is joined", ui.command(4, 4), 4);
        Checks.same("its first index", ui.command(4, 6), 48);
    }

    private static void sixtyFourVertices() {
        PanelFrames ui = new PanelFrames();
        ui.begin();
        ui.window(0, 0, 0, 400, 100);
        for (int k = 0; k < 20; k++) {
            ui.near();
            ui.check(k);
        }
        ui.close();
        Checks.same("commands", ui.end(), 3);
        Checks.same("vertices", ui.drawn(2), 88);
        Checks.same("indices", ui.drawn(1), 132);
        Checks.command("14 checks", ui, 1, 0, 12, 400, 100, 0, 0, 12, 84);
        Checks.command("6 checks", ui, 2, 0, 12, 400, 100, 0, 64, 96, 36);
        Checks.same("the last before", ui.index(90), 60);
        Checks.same("the last of all before", ui.index(95), 63);
        Checks.same("the first behind", ui.index(96), 0);
        Checks.same("the second quad behind", ui.index(102), 4);
        Checks.same("the last", ui.index(131), 23);
    }

    private static void sixtyFourVerticesAcrossTextures() {
        PanelFrames ui = new PanelFrames();
        ui.begin();
        ui.window(0, 0, 0, 400, 100);
        for (int k = 0; k < 13; k++) {
            ui.near();
            ui.check(k);
        }
        ui.near();
        ui.button(12, 20);
        ui.close();
        Checks.same("commands", ui.end(), 4);
        Checks.command("checks and the button: 16 quads", ui, 1, 0, 12, 400, 100, 0, 0, 12, 84);
        Checks.command("1: another texture, and 64 lie behind", ui, 2, 0, 12, 400, 100, 2, 64, 96, 6);
        Checks.command("2: less than 64 lie behind 64", ui, 3, 0, 12, 400, 100, 3, 64, 102, 6);
        Checks.same("index of 1", ui.index(96), 0);
        Checks.same("index of 2", ui.index(102), 4);
    }

    private static void windowsInTheirOrder() {
        PanelFrames ui = new PanelFrames();
        twoWindows(ui);
        Checks.quad("0 is behind", ui, 0, 0, 0, 100, 100, 1);
        Checks.quad("1 is before", ui, 4, 50, 50, 150, 150, 1);
        Checks.same("commands", ui.drawn(0), 4);
        Checks.command("1, counted from the first of all", ui, 3, 50, 50, 150, 150, 0, 16, 24, 12);
        Checks.same("its indices are its own", ui.index(24), 0);
        Checks.same("and its second quad's", ui.index(30), 4);
        ui.point(10, 50);
        ui.press(true);
        twoWindows(ui);
        Checks.quad("1 is behind", ui, 0, 50, 50, 150, 150, 1);
        Checks.quad("0 is before", ui, 2, 0, 0, 100, 100, 1);
        Checks.command("0's window", ui, 1, 0, 0, 100, 100, 0, 8, 12, 12);
        Checks.command("0's button", ui, 2, 0, 12, 100, 100, 0, 8, 24, 6);
        Checks.command("0's digit", ui, 3, 0, 12, 100, 100, 8, 8, 30, 6);
        Checks.same("its indices", ui.index(24), 8);
    }

    private static void twoWindows(PanelFrames ui) {
        ui.begin();
        ui.window(1, 50, 50, 100, 100);
        ui.close();
        ui.window(0, 0, 0, 100, 100);
        ui.button(7, 30);
        ui.close();
        ui.end();
    }

    private static void popupAtLast() {
        PanelFrames ui = new PanelFrames();
        ui.point(30, 40);
        ui.begin();
        ui.open(2);
        ui.popup(2, 50, 60);
        ui.check(1);
        ui.close();
        ui.window(7, 0, 0, 100, 100);
        ui.close();
        Checks.same("commands", ui.end(), 2);
        Checks.quad("the window", ui, 0, 0, 0, 100, 100, 1);
        Checks.quad("the popup", ui, 2, 30, 40, 80, 100, 1);
        Checks.quad("its check", ui, 3, 34, 44, 46, 56, 3);
        Checks.command("its clip is the same", ui, 1, 30, 40, 80, 100, 0, 8, 12, 12);
        Checks.same("its indices", ui.index(12), 0);
    }

    private static void wrongArguments() {
        PanelFrames ui = new PanelFrames();
        ui.begin();
        ui.window(0, 0, 0, 100, 100);
        ui.close();
        ui.end();
        int[] wrong = {-1, Integer.MIN_VALUE, Integer.MAX_VALUE, 1 << 30};
        for (int k : wrong) {
            Checks.same("drawn", ui.drawn(k), -1);
            Checks.same("command", ui.command(k, 0), -1);
            Checks.same("command's what", ui.command(0, k), -1);
            Checks.same("index", ui.index(k), -1);
            Checks.same("vertex", ui.vertex(k, 0), -10000);
            Checks.same("vertex' what", ui.vertex(0, k), -10000);
        }
        Checks.same("drawn(3)", ui.drawn(3), -1);
        Checks.same("command(1, 0)", ui.command(1, 0), -1);
        Checks.same("command(0, 8)", ui.command(0, 8), -1);
        Checks.same("vertex(0, 3)", ui.vertex(0, 3), -10000);
        Checks.same("vertex(8, 0)", ui.vertex(8, 0), -10000);
        Checks.same("vertex(7, 1)", ui.vertex(7, 1), 12);
    }

    private static void manyQuads() {
        PanelFrames ui = new PanelFrames();
        ui.begin();
        ui.window(0, 0, 0, 400, 400);
        ui.child(1, 200, 200);
        ui.close();
        for (int k = 0; k < 240; k++) {
            if (k % 20 != 0) {
                ui.near();
            }
            ui.button(111, 10);
        }
        ui.close();
        ui.end();
        Checks.same("vertices", ui.drawn(2), 4 * (3 + 4 * 240));
        Checks.same("indices", ui.drawn(1), 6 * (3 + 4 * 240));
        Checks.same("the last vertex", ui.vertex(4 * (3 + 4 * 240) - 1, 2), 6);
    }

    private static void eachWindowHasItsOwnList() {
        PanelFrames ui = new PanelFrames();
        ui.begin();
        ui.window(0, 10, 10, 100, 100);
        ui.close();
        ui.window(1, 10, 10, 100, 100);
        ui.close();
        Checks.same("the same clip, but not the same list", ui.end(), 2);
        Checks.command("the second", ui, 1, 10, 10, 110, 110, 0, 8, 12, 12);
        Checks.same("its indices", ui.index(12), 0);
        ui.begin();
        ui.window(2, 0, 0, 400, 100);
        for (int k = 0; k < 20; k++) {
            ui.near();
            ui.check(k);
        }
        ui.close();
        ui.window(3, 0, 0, 400, 100);
        ui.check(1);
        ui.close();
        Checks.same("commands", ui.end(), 5);
        Checks.command("the last of the first list", ui, 2, 0, 12, 400, 100, 0, 64, 96, 36);
        Checks.command("the first of the second", ui, 3, 0, 0, 400, 100, 0, 88, 132, 12);
        Checks.command("and its last", ui, 4, 0, 12, 400, 100, 0, 88, 144, 6);
        Checks.same("its indices begin anew", ui.index(132), 0);
        Checks.same("and go on", ui.index(144), 8);
    }
}
