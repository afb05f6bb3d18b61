/** The boundary cases of the drawing, and of look and place: promises 23, 24 and 27 to 30. */
public final class DrawingEdgesTest {
    public static void main(String[] args) {
        whatsOfLook();
        whatsOfPlace();
        whatsOfDrawn();
        commandsAtTheirEnds();
        indicesAtTheirEnds();
        verticesAtTheirEnds();
        emptyDrawing();
        windowAtTheLeftSide();
        windowAtTheUpperSide();
        windowAtTheRightSide();
        windowAtTheLowerSide();
        titleAboveTheScreen();
        insideBelowTheScreen();
        itemsAtTheLowerSide();
        itemsAtTheRightSide();
        itemsAboveTheClip();
        digitsAtTheRightSide();
        digitsAtTheLowerSide();
        digitsOfLabels();
        lettersOfAField();
        childrenAtTheClip();
        sameClipAndTexture();
        sixtyFourOfOneTexture();
        sixtyFourAcrossTextures();
        sixtyFourAcrossClips();
        threeTimesSixtyFour();
        manyCommands();
        offsetsOfTheNextList();
        eightWindowsAndThePopup();
        drawingOfTheLastFrame();
        Checks.finish("DrawingEdgesTest");
    }

    private static void frame(PanelFrames ui, int x, int y, int width, int height) {
        ui.begin();
        ui.window(0, x, y, width, height);
        ui.close();
        ui.end();
    }

    /** "NONE for another what": 0 .. 14 answer, their neighbours don't. */
    private static void whatsOfLook() {
        PanelFrames ui = new PanelFrames();
        int[] others = {-1, 15, 16, Integer.MIN_VALUE, Integer.MAX_VALUE};
        for (int what : others) {
            Checks.same("look(" + what + ")", ui.look(what), -1);
        }
        Checks.same("the first", ui.look(0), 0);
        Checks.same("the last", ui.look(14), 0);
        ui.begin();
        Checks.same("the last in a frame", ui.look(14), 1);
        Checks.same("behind the last in a frame", ui.look(15), -1);
    }

    /** "Of a window (0 .. 8): what 0 .. 8; NONE for another what or window." */
    private static void whatsOfPlace() {
        PanelFrames ui = Checks.inFrame();
        ui.open(1);
        ui.popup(1, 50, 60);
        ui.close();
        ui.window(0, 10, 20, 50, 60);
        ui.close();
        int[] windows = {-1, 0, 7, 8, 9, Integer.MIN_VALUE, Integer.MAX_VALUE};
        int[] whats = {-1, 0, 8, 9, Integer.MIN_VALUE, Integer.MAX_VALUE};
        for (int window : windows) {
            for (int what : whats) {
                boolean there = window >= 0 && window <= 8 && what >= 0 && what <= 8;
                boolean told = window == 0 || window == 8;
                int due = !there ? -1 : !told ? 0 : what == 8 ? 1 : window == 0 ? 10 : 0;
                Checks.same("place(" + window + ", " + what + ")", ui.place(window, what), due);
            }
        }
    }

    private static void whatsOfDrawn() {
        PanelFrames ui = new PanelFrames();
        frame(ui, 0, 0, 100, 100);
        int[] due = {-1, 1, 12, 8, -1};
        for (int what = -1; what < 4; what++) {
            Checks.same("drawn(" + what + ")", ui.drawn(what), due[what + 1]);
        }
        Checks.same("drawn(least)", ui.drawn(Integer.MIN_VALUE), -1);
        Checks.same("drawn(most)", ui.drawn(Integer.MAX_VALUE), -1);
    }

    private static PanelFrames withButton() {
        PanelFrames ui = Checks.inFrame();
        ui.window(0, 10, 20, 100, 110);
        ui.button(4, 60);
        ui.close();
        Checks.same("commands", ui.end(), 3);
        return ui;
    }

    /** "What 0 .. 3 its clip, 4 texture, 5 vertex offset, 6 its first index, 7 how many; NONE". */
    private static void commandsAtTheirEnds() {
        PanelFrames ui = withButton();
        Checks.command("the first", ui, 0, 10, 20, 110, 130, 0, 0, 0, 12);
        Checks.command("the last", ui, 2, 10, 32, 110, 130, 5, 0, 18, 6);
        int[] ks = {-1, 3, Integer.MIN_VALUE, Integer.MAX_VALUE};
        int[] whats = {-1, 8, Integer.MIN_VALUE, Integer.MAX_VALUE};
        for (int k : ks) {
            for (int what = -1; what < 9; what++) {
                Checks.same("command(" + k + ", " + what + ")", ui.command(k, what), -1);
            }
        }
        for (int what : whats) {
            Checks.same("command(0, " + what + ")", ui.command(0, what), -1);
            Checks.same("command(2, " + what + ")", ui.command(2, what), -1);
        }
    }

    private static void indicesAtTheirEnds() {
        PanelFrames ui = withButton();
        Checks.same("how many", ui.drawn(1), 24);
        int[] due = {0, 1, 2, 0, 2, 3};
        for (int k = 0; k < 24; k++) {
            Checks.same("index(" + k + ")", ui.index(k), k / 6 * 4 + due[k % 6]);
        }
        int[] others = {-1, -6, 24, 25, 29, 30, Integer.MIN_VALUE, Integer.MAX_VALUE};
        for (int k : others) {
            Checks.same("index(" + k + ")", ui.index(k), -1);
        }
    }

    private static void verticesAtTheirEnds() {
        PanelFrames ui = withButton();
        Checks.same("how many", ui.drawn(2), 16);
        Checks.quad("the first", ui, 0, 10, 20, 110, 130, 1);
        Checks.quad("the last", ui, 3, 16, 38, 22, 46, 6);
        int[] others = {-1, -4, 16, 17, 19, 20, Integer.MIN_VALUE, Integer.MAX_VALUE};
        for (int k : others) {
            for (int what = 0; what < 3; what++) {
                Checks.same("vertex(" + k + ", " + what + ")", ui.vertex(k, what), -10000);
            }
        }
        int[] whats = {-1, 3, Integer.MIN_VALUE, Integer.MAX_VALUE};
        for (int what : whats) {
            Checks.same("vertex(0, " + what + ")", ui.vertex(0, what), -10000);
            Checks.same("vertex(15, " + what + ")", ui.vertex(15, what), -10000);
        }
    }

    /** "No events, no frame yet; an empty drawing." */
    private static void emptyDrawing() {
        PanelFrames ui = new PanelFrames();
        for (int turn = 0; turn < 2; turn++) {
            for (int what = 0; what < 3; what++) {
                Checks.same("drawn(" + what + ")", ui.drawn(what), 0);
            }
            Checks.same("command(0, 0)", ui.command(0, 0), -1);
            Checks.same("index(0)", ui.index(0), -1);
            Checks.same("vertex(0, 0)", ui.vertex(0, 0), -10000);
            ui.begin();
            Checks.same("a frame without a window", ui.end(), 0);
        }
    }

    private static PanelFrames drawn(int x, int y, int width, int height) {
        PanelFrames ui = new PanelFrames();
        frame(ui, x, y, width, height);
        return ui;
    }

    /** "What doesn't meet the clip isn't drawn"; "with what its rectangle has of the screen as clip". */
    private static void windowAtTheLeftSide() {
        Checks.same("it ends at 0", drawn(-100, 50, 100, 50).drawn(2), 0);
        PanelFrames ui = drawn(-100, 50, 101, 50);
        Checks.command("it ends at 1", ui, 0, 0, 50, 1, 100, 0, 0, 0, 12);
        Checks.quad("whole", ui, 0, -100, 50, 1, 100, 1);
        Checks.command("it begins at -1", drawn(-1, 50, 40, 50), 0, 0, 50, 39, 100);
        Checks.command("it begins at 0", drawn(0, 50, 40, 50), 0, 0, 50, 40, 100);
        Checks.command("it begins at 1", drawn(1, 50, 40, 50), 0, 1, 50, 41, 100);
    }

    private static void windowAtTheUpperSide() {
        Checks.same("it ends at 0", drawn(50, -100, 50, 100).drawn(2), 0);
        PanelFrames ui = drawn(50, -100, 50, 101);
        Checks.command("it ends at 1, its title above", ui, 0, 50, 0, 100, 1, 0, 0, 0, 6);
        Checks.quad("whole", ui, 0, 50, -100, 100, 1, 1);
        Checks.command("it begins at -1", drawn(50, -1, 50, 40), 0, 50, 0, 100, 39);
        Checks.command("it begins at 0", drawn(50, 0, 50, 40), 0, 50, 0, 100, 40);
        Checks.command("it begins at 1", drawn(50, 1, 50, 40), 0, 50, 1, 100, 41);
    }

    private static void windowAtTheRightSide() {
        PanelFrames ui = drawn(999, 50, 400, 50);
        Checks.command("it begins at 999", ui, 0, 999, 50, 1000, 100, 0, 0, 0, 12);
        Checks.quad("whole", ui, 0, 999, 50, 1399, 100, 1);
        Checks.command("it ends at 999", drawn(959, 50, 40, 50), 0, 959, 50, 999, 100);
        Checks.command("it ends at 1000", drawn(960, 50, 40, 50), 0, 960, 50, 1000, 100);
        Checks.command("it ends at 1001", drawn(961, 50, 40, 50), 0, 961, 50, 1000, 100);
    }

    private static void windowAtTheLowerSide() {
        PanelFrames ui = drawn(50, 999, 50, 400);
        Checks.command("it begins at 999", ui, 0, 50, 999, 100, 1000, 0, 0, 0, 12);
        Checks.quad("whole", ui, 0, 50, 999, 100, 1399, 1);
        Checks.quad("the whole title", ui, 1, 50, 999, 100, 1011, 2);
        Checks.command("it ends at 999", drawn(50, 969, 50, 30), 0, 50, 969, 100, 999);
        Checks.command("it ends at 1000", drawn(50, 970, 50, 30), 0, 50, 970, 100, 1000);
        Checks.command("it ends at 1001", drawn(50, 971, 50, 30), 0, 50, 971, 100, 1000);
    }

    private static void titleAboveTheScreen() {
        Checks.same("its last row is on the screen", drawn(50, -11, 50, 50).drawn(2), 8);
        Checks.same("its last row isn't", drawn(50, -12, 50, 50).drawn(2), 4);
        Checks.same("far above", drawn(50, -13, 50, 50).drawn(2), 4);
    }

    private static int verticesOfItem(int x, int y, int width, int height) {
        PanelFrames ui = Checks.inFrame();
        ui.window(0, x, y, width, height);
        ui.check(1);
        ui.close();
        ui.end();
        return ui.drawn(2);
    }

    /** The clip of the items is "met with the screen (0, 0, 1000, 1000)": a check at 16 below the top. */
    private static void insideBelowTheScreen() {
        Checks.same("the check's first row is on the screen", verticesOfItem(50, 983, 50, 50), 12);
        Checks.same("it isn't", verticesOfItem(50, 984, 50, 50), 8);
        Checks.same("nothing inside is on the screen", verticesOfItem(50, 988, 50, 50), 8);
        Checks.same("the check's first column is on the screen", verticesOfItem(995, 50, 50, 50), 12);
        Checks.same("the first column isn't", verticesOfItem(996, 50, 50, 50), 8);
        Checks.same("the check's last column is on the screen", verticesOfItem(-15, 50, 50, 50), 12);
        Checks.same("the last column isn't", verticesOfItem(-16, 50, 50, 50), 8);
        Checks.same("the check's last row is on the screen", verticesOfItem(50, -27, 50, 80), 8);
        Checks.same("the last row isn't", verticesOfItem(50, -28, 50, 80), 4);
    }

    private static int quadsBelow(int child) {
        PanelFrames ui = Checks.inFrame();
        ui.window(0, 10, 20, 100, 50);
        ui.child(1, 10, child);
        ui.close();
        ui.check(2);
        ui.close();
        ui.end();
        return ui.drawn(2) / 4;
    }

    /** The window ends at 70, its first item begins at 36: a check at 40 and the child's height. */
    private static void itemsAtTheLowerSide() {
        Checks.same("two rows in the clip", quadsBelow(28), 4);
        Checks.same("one row in the clip", quadsBelow(29), 4);
        Checks.same("right below it", quadsBelow(30), 3);
        Checks.same("further below", quadsBelow(31), 3);
    }

    private static int quadsBeside(int width) {
        PanelFrames ui = Checks.inFrame();
        ui.window(0, 10, 20, 60, 50);
        ui.child(1, width, 10);
        ui.close();
        ui.near();
        ui.check(2);
        ui.close();
        ui.end();
        return ui.drawn(2) / 4;
    }

    /** The window ends at 70, its first item begins at 14: a check at 18 and the child's width. */
    private static void itemsAtTheRightSide() {
        Checks.same("two columns in the clip", quadsBeside(50), 4);
        Checks.same("one column in the clip", quadsBeside(51), 4);
        Checks.same("right beside it", quadsBeside(52), 3);
        Checks.same("further beside", quadsBeside(53), 3);
    }

    private static int quadsScrolledBy(int scroll) {
        PanelFrames ui = new PanelFrames();
        ui.point(90, 60);
        for (int turn = 0; turn < 2; turn++) {
            ui.begin();
            ui.window(0, 10, 20, 100, 50);
            ui.check(1);
            ui.child(2, 10, 38 + scroll - 16);
            ui.close();
            ui.close();
            ui.end();
            ui.wheel(9);
        }
        Checks.same("the scroll", ui.place(0, 4), scroll);
        return ui.drawn(2) / 4;
    }

    /** The clip begins at 32, an item without a scroll at 36 and ends at 48. */
    private static void itemsAboveTheClip() {
        Checks.same("its last row in the clip", quadsScrolledBy(15), 4);
        Checks.same("right above it", quadsScrolledBy(16), 3);
        Checks.same("further above", quadsScrolledBy(17), 3);
    }

    private static int digitsBeside(int width) {
        PanelFrames ui = Checks.inFrame();
        ui.window(0, 10, 20, 60, 50);
        ui.child(1, width, 10);
        ui.close();
        ui.near();
        ui.button(123, 100);
        ui.close();
        ui.end();
        return ui.drawn(2) / 4 - 4;
    }

    /** The window ends at 70; digits begin at 20, 26, 32 and the child's width. */
    private static void digitsAtTheRightSide() {
        Checks.same("the third's first column", digitsBeside(37), 3);
        Checks.same("not the third", digitsBeside(38), 2);
        Checks.same("the second's first column", digitsBeside(43), 2);
        Checks.same("not the second", digitsBeside(44), 1);
        Checks.same("the first's first column", digitsBeside(49), 1);
        Checks.same("none", digitsBeside(50), 0);
    }

    private static int digitsBelow(int child) {
        PanelFrames ui = Checks.inFrame();
        ui.window(0, 10, 20, 100, 50);
        ui.child(1, 10, child);
        ui.close();
        ui.button(5, 50);
        ui.close();
        ui.end();
        return ui.drawn(2) / 4 - 4;
    }

    /** The window ends at 70; a digit begins 2 below its item's top, at 42 and the child's height. */
    private static void digitsAtTheLowerSide() {
        Checks.same("its first row", digitsBelow(27), 1);
        Checks.same("not its first row", digitsBelow(28), 0);
        Checks.same("the item's first row alone", digitsBelow(29), 0);
    }

    /** "The digits of the label, from the first one, texture 1 and the digit more". */
    private static void digitsOfLabels() {
        int[] labels = {0, 1, 8, 9, 10, 11, 19, 20, 90, 98, 99, 100, 101, 109, 110, 198, 199, 200, 890, 899, 900,
            989, 990, 998, 999};
        for (int label : labels) {
            PanelFrames ui = Checks.inFrame();
            ui.window(0, 10, 20, 100, 110);
            ui.button(label, 60);
            ui.close();
            ui.end();
            String digits = Integer.toString(label);
            Checks.same("label " + label + ": vertices", ui.drawn(2), 12 + 4 * digits.length());
            for (int k = 0; k < digits.length(); k++) {
                int index = 18 + 6 * k;
                Checks.same("label " + label + ", digit " + k, textureAt(ui, index), 1 + digits.charAt(k) - '0');
                int left = 16 + 6 * k;
                Checks.quad("label " + label + ", digit " + k, ui, 3 + k, left, 38, left + 6, 46, 6);
            }
        }
    }

    /** The texture of the command that an index belongs to. */
    private static int textureAt(PanelFrames ui, int index) {
        for (int k = 0; k < ui.drawn(0); k++) {
            if (index >= ui.command(k, 6) && index < ui.command(k, 6) + ui.command(k, 7)) {
                return ui.command(k, 4);
            }
        }
        return -1;
    }

    /** "A field has its letters so, instead (texture: the letter)": none, one, twelve of them. */
    private static void lettersOfAField() {
        int[] counts = {0, 1, 11, 12, 13};
        for (int count : counts) {
            PanelFrames ui = new PanelFrames();
            for (int turn = 0; turn < 2; turn++) {
                ui.key(Checks.TAB, turn == 0);
                for (int k = 0; k < count && turn == 1; k++) {
                    ui.letter(126 - k);
                }
                ui.begin();
                ui.window(0, 10, 20, 100, 110);
                ui.field(407, 80);
                ui.close();
                ui.end();
            }
            int due = Math.min(12, count);
            Checks.same(count + " letters: vertices", ui.drawn(2), 12 + 4 * due);
            for (int k = 0; k < due; k++) {
                Checks.same("letter " + k, ui.command(2 + k, 4), 126 - k);
                Checks.quad("letter " + k, ui, 3 + k, 16 + 6 * k, 38, 22 + 6 * k, 46, 6);
            }
        }
    }

    /** "Its clip is its visible part": nothing of what is in a child that isn't visible is drawn. */
    private static void childrenAtTheClip() {
        for (int height = 28; height <= 32; height++) {
            PanelFrames ui = Checks.inFrame();
            ui.window(0, 10, 20, 100, 50);
            ui.child(1, 10, height);
            ui.close();
            ui.child(2, 40, 40);
            ui.check(3);
            ui.close();
            ui.close();
            ui.end();
            int top = 40 + height;
            boolean childMeets = top < 70;
            boolean checkMeets = top + 2 < 70;
            Checks.same("a child at " + top, ui.drawn(2) / 4, 3 + (childMeets ? 1 : 0) + (checkMeets ? 1 : 0));
            if (checkMeets) {
                Checks.command("what is in it", ui, ui.drawn(0) - 1, 14, top, 54, 70, 0);
            }
        }
    }

    /** "The last COMMAND of its list, if that has this clip and texture": a child with a clip like its window's. */
    private static void sameClipAndTexture() {
        PanelFrames ui = Checks.inFrame();
        ui.window(0, 10, 20, 100, 110);
        ui.check(1);
        ui.child(2, 20, 20);
        ui.close();
        ui.check(3);
        ui.close();
        Checks.same("the window's clip, then all with another", ui.end(), 2);
        ui.begin();
        ui.window(0, 10, 20, 100, 110);
        ui.child(2, 20, 20);
        ui.check(1);
        ui.close();
        ui.check(3);
        ui.check(4);
        ui.close();
        Checks.same("there, the child's clip, and back", ui.end(), 4);
        Checks.command("in the child", ui, 2, 14, 36, 34, 56, 0, 0, 18, 6);
        Checks.command("behind it", ui, 3, 10, 32, 110, 130, 0, 0, 24, 12);
        ui.begin();
        ui.window(0, 10, 20, 100, 110);
        ui.button(11, 20);
        ui.button(1, 20);
        ui.close();
        Checks.same("an item between two digits", ui.end(), 5);
    }

    private static PanelFrames withChecks(int checks) {
        PanelFrames ui = Checks.inFrame();
        ui.window(0, 0, 0, 400, 100);
        for (int k = 0; k < checks; k++) {
            ui.near();
            ui.check(k);
        }
        ui.close();
        ui.end();
        Checks.same("vertices", ui.drawn(2), 8 + 4 * checks);
        return ui;
    }

    /** "And less than 64 vertices lie behind its vertex offset; else how many there are." */
    private static void sixtyFourOfOneTexture() {
        PanelFrames ui = withChecks(13);
        Checks.same("60 vertices: commands", ui.drawn(0), 2);
        Checks.command("60 vertices", ui, 1, 0, 12, 400, 100, 0, 0, 12, 78);
        ui = withChecks(14);
        Checks.same("64 vertices: commands", ui.drawn(0), 2);
        Checks.command("64 vertices", ui, 1, 0, 12, 400, 100, 0, 0, 12, 84);
        Checks.same("the last index", ui.index(95), 63);
        ui = withChecks(15);
        Checks.same("68 vertices: commands", ui.drawn(0), 3);
        Checks.command("the first 64", ui, 1, 0, 12, 400, 100, 0, 0, 12, 84);
        Checks.command("4 more", ui, 2, 0, 12, 400, 100, 0, 64, 96, 6);
        Checks.same("the first index of these", ui.index(96), 0);
        Checks.same("the last index of these", ui.index(101), 3);
        ui = withChecks(16);
        Checks.command("8 more", ui, 2, 0, 12, 400, 100, 0, 64, 96, 12);
        Checks.same("the first index of the second", ui.index(102), 4);
    }

    /** "Whose vertex offset is that of the last, if less than 64 lie behind that." */
    private static void sixtyFourAcrossTextures() {
        for (int checks = 11; checks <= 14; checks++) {
            PanelFrames ui = Checks.inFrame();
            ui.window(0, 0, 0, 400, 100);
            for (int k = 0; k < checks; k++) {
                ui.near();
                ui.check(k);
            }
            ui.near();
            ui.button(8, 10);
            ui.close();
            ui.end();
            int digit = 8 + 4 * checks + 4;
            int last = ui.drawn(0) - 1;
            int offset = digit < 64 ? 0 : 64;
            Checks.same(checks + " checks: the digit's texture", ui.command(last, 4), 9);
            Checks.same(checks + " checks: the digit's offset", ui.command(last, 5), offset);
            Checks.same(checks + " checks: its first index", ui.command(last, 6), digit / 4 * 6);
            Checks.same(checks + " checks: its index", ui.index(digit / 4 * 6), digit - offset);
        }
    }

    private static void sixtyFourAcrossClips() {
        for (int checks = 11; checks <= 14; checks++) {
            PanelFrames ui = Checks.inFrame();
            ui.window(0, 0, 0, 400, 100);
            for (int k = 0; k < checks; k++) {
                ui.near();
                ui.check(k);
            }
            ui.near();
            ui.child(1, 20, 20);
            ui.check(1);
            ui.close();
            ui.close();
            ui.end();
            int inside = 8 + 4 * checks + 4;
            int last = ui.drawn(0) - 1;
            int offset = inside < 64 ? 0 : 64;
            Checks.same(checks + " checks: the clip", ui.command(last, 1), 16);
            Checks.same(checks + " checks: the offset", ui.command(last, 5), offset);
            Checks.same(checks + " checks: the index", ui.index(inside / 4 * 6), inside - offset);
        }
    }

    private static void threeTimesSixtyFour() {
        for (int quads = 31; quads <= 34; quads++) {
            PanelFrames ui = Checks.inFrame();
            ui.window(0, 0, 0, 400, 100);
            for (int k = 2; k < quads; k++) {
                if (k != 22) {
                    ui.near();
                }
                ui.check(k);
            }
            ui.close();
            ui.end();
            int last = ui.drawn(0) - 1;
            Checks.same(quads + " quads: commands", ui.drawn(0), quads <= 32 ? 3 : 4);
            Checks.same(quads + " quads: the last offset", ui.command(last, 5), quads <= 32 ? 64 : 128);
            Checks.same(quads + " quads: the last index", ui.index(6 * quads - 1), (4 * quads - 1) % 64);
        }
    }

    /** The document sets no bound on commands: each button has one, and its digit another one. */
    private static void manyCommands() {
        int[] counts = {15, 16, 17, 31, 32, 33, 60};
        for (int count : counts) {
            PanelFrames ui = Checks.inFrame();
            ui.window(0, 0, 0, 400, 400);
            for (int k = 0; k < count; k++) {
                if (k % 20 != 0) {
                    ui.near();
                }
                ui.button(k % 10, 10);
            }
            ui.close();
            Checks.same(count + " buttons: commands", ui.end(), 1 + 2 * count);
            for (int k = 0; k < count; k++) {
                int button = 1 + 2 * k;
                Checks.same("button " + k, ui.command(button, 4), 0);
                Checks.same("button " + k + ", how many", ui.command(button, 7), 6);
                Checks.same("digit " + k, ui.command(button + 1, 4), 1 + k % 10);
                Checks.same("digit " + k + ", first index", ui.command(button + 1, 6), 12 + 12 * k + 6);
                Checks.same("digit " + k + ", how many", ui.command(button + 1, 7), 6);
            }
            Checks.same("the last offset", ui.command(2 * count, 5), (8 * count + 4) / 64 * 64);
            Checks.same("none behind it", ui.command(2 * count + 1, 7), -1);
        }
    }

    /** "Counted from the first of all": the next window's list begins anew, whatever the first has. */
    private static void offsetsOfTheNextList() {
        for (int checks = 13; checks <= 15; checks++) {
            PanelFrames ui = Checks.inFrame();
            ui.window(0, 0, 0, 400, 100);
            for (int k = 0; k < checks; k++) {
                ui.near();
                ui.check(k);
            }
            ui.close();
            ui.window(1, 0, 200, 400, 100);
            ui.check(1);
            ui.close();
            ui.end();
            int first = ui.drawn(0) - 2;
            int before = 2 + checks;
            Checks.command("behind " + before + " quads", ui, first, 0, 200, 400, 300, 0, 4 * before, 6 * before, 12);
            Checks.same("its first index", ui.index(6 * before), 0);
            Checks.command("its check", ui, first + 1, 0, 212, 400, 300, 0, 4 * before, 6 * before + 12, 6);
            Checks.same("its check's index", ui.index(6 * before + 12), 8);
        }
    }

    /** "The windows told in it, in their order, the popup's at last." */
    private static void eightWindowsAndThePopup() {
        PanelFrames ui = Checks.inFrame();
        ui.open(1);
        ui.popup(1, 50, 60);
        ui.close();
        for (int window = 7; window >= 0; window--) {
            ui.window(window, 100 * window, 50, 60, 70);
            ui.close();
        }
        Checks.same("a command for each", ui.end(), 9);
        for (int window = 0; window < 8; window++) {
            Checks.command("window " + window, ui, window, 100 * window, 50, 100 * window + 60, 120, 0,
                8 * window, 12 * window, 12);
        }
        Checks.command("the popup", ui, 8, 0, 0, 50, 60, 0, 64, 96, 6);
    }

    private static void drawingOfTheLastFrame() {
        PanelFrames ui = withButton();
        ui.begin();
        ui.window(0, 10, 20, 100, 110);
        Checks.same("while a frame is on", ui.drawn(0), 3);
        Checks.refusedState("end with something open", ui::end);
        Checks.same("behind a broken one", ui.drawn(0), 3);
        Checks.quad("whole", ui, 2, 14, 36, 74, 48, 3);
        ui.begin();
        Checks.same("the next that ends", ui.end(), 0);
        Checks.same("is the drawing", ui.drawn(2), 0);
        Checks.same("with nothing behind", ui.vertex(0, 0), -10000);
        Checks.same("no command", ui.command(0, 4), -1);
    }
}
