/** The boundary cases of the events and of what a frame takes of them: promises 1 to 8. */
public final class EventEdgesTest {
    private static final int POINT = 0;
    private static final int PRESS = 1;
    private static final int RELEASE = 2;
    private static final int WHEEL = 3;
    private static final int DOWN = 4;
    private static final int UP = 5;
    private static final int LETTER = 6;
    private static final int KINDS = 7;

    public static void main(String[] args) {
        valuesOfEvents();
        bothPlacesMustFit();
        mouseGoesToTheEdges();
        lettersAtTheEdges();
        sixtyFourWait();
        wrongEventsInAFullRow();
        roomForAsManyAsWereTaken();
        refusedEventsAreGone();
        whatWaitsBehindAPress();
        whatWaitsBehindARelease();
        nothingStopsBehindAPoint();
        whatIsNothingIsTakenToo();
        allBehindTheOneThatWaits();
        theMouseAtFirst();
        keysAreUpAtFirst();
        aKeyDownAndUpInOneFrame();
        linesUpToTheirSum();
        linesThatCancelOut();
        lettersOfAFrame();
        furtherLettersGo();
        Checks.finish("EventEdgesTest");
    }

    private static boolean add(PanelFrames ui, int kind) {
        switch (kind) {
            case POINT: return ui.point(500, 600);
            case PRESS: return ui.press(true);
            case RELEASE: return ui.press(false);
            case WHEEL: return ui.wheel(1);
            case DOWN: return ui.key(Checks.HOME, true);
            case UP: return ui.key(Checks.HOME, false);
            default: return ui.letter('x');
        }
    }

    /** "The mouse is at 0 .. 999 of each"; "lines, -9 .. 9"; keys 0 .. 5; letters 32 .. 126. */
    private static void valuesOfEvents() {
        Checks.eventRange("point, x", 0, 999, (ui, value) -> ui.point(value, 500));
        Checks.eventRange("point, y", 0, 999, (ui, value) -> ui.point(500, value));
        Checks.eventRange("wheel", -9, 9, (ui, value) -> ui.wheel(value));
        Checks.eventRange("key down", 0, 5, (ui, value) -> ui.key(value, true));
        Checks.eventRange("key up", 0, 5, (ui, value) -> ui.key(value, false));
        Checks.eventRange("letter", 32, 126, (ui, value) -> ui.letter(value));
    }

    private static void bothPlacesMustFit() {
        int[] edges = {-1, 0, 999, 1000};
        for (int x : edges) {
            for (int y : edges) {
                PanelFrames ui = new PanelFrames();
                boolean fits = x >= 0 && x <= 999 && y >= 0 && y <= 999;
                Checks.same("point(" + x + ", " + y + ")", ui.point(x, y) ? 1 : 0, fits ? 1 : 0);
            }
        }
    }

    private static void isMouse(String what, PanelFrames ui, int x, int y) {
        ui.dismiss();
        ui.open(1);
        ui.popup(1, 40, 30);
        Checks.same(what + ", x", ui.place(8, 0), x);
        Checks.same(what + ", y", ui.place(8, 1), y);
        ui.close();
    }

    private static void mouseGoesToTheEdges() {
        PanelFrames ui = new PanelFrames();
        int[] places = {0, 1, 998, 999};
        for (int place : places) {
            ui.point(place, 999 - place);
            ui.dismiss();
            ui.begin();
            isMouse("at " + place, ui, place, 999 - place);
            ui.end();
        }
    }

    private static int fieldFrame(PanelFrames ui) {
        ui.begin();
        ui.window(0, 0, 0, 200, 100);
        int length = ui.field(1, 100);
        ui.close();
        ui.end();
        return length;
    }

    private static PanelFrames withFocusedField() {
        PanelFrames ui = new PanelFrames();
        ui.key(Checks.TAB, true);
        ui.key(Checks.TAB, false);
        fieldFrame(ui);
        return ui;
    }

    private static void lettersAtTheEdges() {
        PanelFrames ui = withFocusedField();
        int[] letters = {32, 33, 125, 126};
        for (int k = 0; k < letters.length; k++) {
            ui.letter(letters[k]);
            Checks.same("letter " + letters[k] + " comes", fieldFrame(ui), k + 1);
            Checks.same("letter " + letters[k], ui.text(Checks.idIn(0, 1), k), letters[k]);
        }
    }

    /** "EVENTS wait in a row, at most 64"; "false if 64 wait": the 64th, and one step to each side. */
    private static void sixtyFourWait() {
        for (int kind = 0; kind < KINDS; kind++) {
            PanelFrames ui = new PanelFrames();
            for (int k = 0; k < 62; k++) {
                add(ui, k % 2 == 0 ? WHEEL : LETTER);
            }
            Checks.yes("kind " + kind + ", the 63rd", add(ui, kind));
            Checks.yes("kind " + kind + ", the 64th", add(ui, kind));
            Checks.same("kind " + kind + ": 64 wait", ui.look(11), 64);
            Checks.no("kind " + kind + ", the 65th", add(ui, kind));
            Checks.no("kind " + kind + ", the 66th", add(ui, kind));
            Checks.same("kind " + kind + ": 64 wait yet", ui.look(11), 64);
        }
    }

    private static void wrongEventsInAFullRow() {
        PanelFrames ui = new PanelFrames();
        for (int k = 0; k < 64; k++) {
            ui.wheel(0);
        }
        Checks.no("a wrong point", ui.point(-1, 0));
        Checks.no("a wrong wheel", ui.wheel(10));
        Checks.no("a wrong key", ui.key(6, true));
        Checks.no("a wrong letter", ui.letter(127));
        Checks.same("64 wait", ui.look(11), 64);
        Checks.same("64 are taken", ui.begin(), 64);
        Checks.same("none waits", ui.look(11), 0);
    }

    private static void roomForAsManyAsWereTaken() {
        PanelFrames ui = new PanelFrames();
        ui.press(true);
        ui.letter('a');
        for (int k = 0; k < 62; k++) {
            ui.point(k, k);
        }
        Checks.no("full", ui.letter('b'));
        Checks.same("two are taken", ui.begin(), 2);
        Checks.same("62 wait", ui.look(11), 62);
        Checks.yes("room for a first one", ui.letter('c'));
        Checks.yes("and a second one", ui.press(false));
        Checks.no("but no third one", ui.letter('d'));
        ui.end();
        Checks.same("the points, the letter and the release", ui.begin(), 64);
        Checks.same("released", ui.look(10), 0);
        isMouse("the last point", ui, 61, 61);
        ui.end();
    }

    private static void refusedEventsAreGone() {
        PanelFrames ui = new PanelFrames();
        for (int k = 0; k < 64; k++) {
            ui.point(7, 8);
        }
        ui.press(true);
        ui.point(9, 9);
        Checks.same("64 are taken", ui.begin(), 64);
        Checks.same("not pressed", ui.look(10), 0);
        isMouse("not moved", ui, 7, 8);
        ui.end();
        Checks.same("and they don't come later", ui.begin(), 0);
    }

    private static boolean waits(int kind) {
        return kind == POINT || kind == PRESS || kind == RELEASE;
    }

    /** "Up to the first that is a POINT, PRESS or RELEASE when a PRESS or RELEASE was taken already". */
    private static void whatWaitsBehindAPress() {
        for (int kind = 0; kind < KINDS; kind++) {
            PanelFrames ui = new PanelFrames();
            ui.press(true);
            add(ui, kind);
            Checks.same("a press, then " + kind, ui.begin(), waits(kind) ? 1 : 2);
            Checks.same("pressed, then " + kind, ui.look(10), 1);
            Checks.same("behind a press " + kind + " waits", ui.look(11), waits(kind) ? 1 : 0);
            ui.end();
            Checks.same("it is taken then: " + kind, ui.begin(), waits(kind) ? 1 : 0);
        }
    }

    private static void whatWaitsBehindARelease() {
        for (int kind = 0; kind < KINDS; kind++) {
            PanelFrames ui = new PanelFrames();
            ui.press(true);
            ui.begin();
            ui.end();
            ui.press(false);
            add(ui, kind);
            Checks.same("a release, then " + kind, ui.begin(), waits(kind) ? 1 : 2);
            Checks.same("released, then " + kind, ui.look(10), 0);
            Checks.same("behind a release " + kind + " waits", ui.look(11), waits(kind) ? 1 : 0);
            ui.end();
            Checks.same("it is taken then: " + kind, ui.begin(), waits(kind) ? 1 : 0);
        }
    }

    private static void nothingStopsBehindAPoint() {
        int[] before = {POINT, WHEEL, DOWN, UP, LETTER};
        for (int first : before) {
            for (int kind = 0; kind < KINDS; kind++) {
                PanelFrames ui = new PanelFrames();
                add(ui, first);
                add(ui, kind);
                Checks.same(first + ", then " + kind, ui.begin(), 2);
            }
        }
    }

    /** "This frame took such an event that wasn't nothing": one that is nothing is taken as well. */
    private static void whatIsNothingIsTakenToo() {
        for (int kind = 0; kind < KINDS; kind++) {
            PanelFrames ui = new PanelFrames();
            ui.press(false);
            add(ui, kind);
            Checks.same("a release that is nothing, then " + kind, ui.begin(), waits(kind) ? 1 : 2);
            PanelFrames pressed = new PanelFrames();
            pressed.press(true);
            pressed.begin();
            pressed.end();
            pressed.press(true);
            add(pressed, kind);
            Checks.same("a press that is nothing, then " + kind, pressed.begin(), waits(kind) ? 1 : 2);
        }
        PanelFrames ui = new PanelFrames();
        ui.key(Checks.HOME, false);
        ui.key(Checks.HOME, false);
        Checks.same("keys that are so already", ui.begin(), 2);
    }

    private static void allBehindTheOneThatWaits() {
        PanelFrames ui = new PanelFrames();
        ui.point(3, 4);
        ui.press(true);
        ui.wheel(1);
        ui.key(Checks.LEFT, true);
        ui.letter('a');
        ui.point(5, 6);
        ui.letter('b');
        ui.wheel(1);
        ui.key(Checks.LEFT, false);
        Checks.same("up to the second point", ui.begin(), 5);
        Checks.same("it waits, and all behind it", ui.look(11), 4);
        isMouse("the first point", ui, 3, 4);
        ui.end();
        ui.dismiss();
        Checks.same("the rest", ui.begin(), 4);
        isMouse("the second point", ui, 5, 6);
    }

    /** "The mouse is at 0, 0 at first, not pressed": so a release is nothing, and nothing is clicked. */
    private static void theMouseAtFirst() {
        PanelFrames ui = new PanelFrames();
        ui.begin();
        isMouse("at first", ui, 0, 0);
        Checks.same("not pressed", ui.look(10), 0);
        ui.end();
        ui.press(false);
        ui.dismiss();
        Checks.same("a release is taken", ui.begin(), 1);
        Checks.same("and is nothing", ui.look(10), 0);
        ui.end();
    }

    private static int sliderFrame(PanelFrames ui) {
        ui.begin();
        ui.window(0, 0, 0, 200, 100);
        int value = ui.slider(1, 100, 0, 50);
        ui.close();
        ui.end();
        return value;
    }

    /** "All keys are up": a key that goes up at first is nothing, one that goes down isn't. */
    private static void keysAreUpAtFirst() {
        PanelFrames ui = new PanelFrames();
        ui.key(Checks.TAB, false);
        sliderFrame(ui);
        Checks.same("TAB goes up: nothing", ui.look(2), 0);
        ui.key(Checks.TAB, true);
        sliderFrame(ui);
        Checks.same("TAB goes down", ui.look(2), Checks.idIn(0, 1));
        ui.key(Checks.ENTER, false);
        ui.key(Checks.RIGHT, false);
        Checks.same("RIGHT goes up: nothing", sliderFrame(ui), 0);
        Checks.same("ENTER goes up: nothing", ui.look(3), 0);
        ui.key(Checks.RIGHT, true);
        Checks.same("RIGHT goes down", sliderFrame(ui), 1);
    }

    private static void aKeyDownAndUpInOneFrame() {
        PanelFrames ui = new PanelFrames();
        ui.key(Checks.TAB, true);
        sliderFrame(ui);
        ui.key(Checks.RIGHT, true);
        ui.key(Checks.RIGHT, false);
        Checks.same("down and up: DOWN HERE", sliderFrame(ui), 1);
        ui.key(Checks.RIGHT, true);
        Checks.same("it was up, so it goes down", sliderFrame(ui), 2);
        ui.key(Checks.RIGHT, false);
        ui.key(Checks.RIGHT, true);
        Checks.same("up and down: DOWN HERE", sliderFrame(ui), 3);
        ui.key(Checks.RIGHT, true);
        ui.key(Checks.RIGHT, false);
        Checks.same("down already, and up: not DOWN HERE", sliderFrame(ui), 3);
    }

    /** Window 0 with HIGH 636 and VIEW 50, hovered beside its items: a scroll of at most 586. */
    private static int scrollFrame(PanelFrames ui) {
        ui.begin();
        ui.window(0, 0, 0, 200, 62);
        int scroll = ui.place(0, 4);
        for (int k = 0; k < 40; k++) {
            ui.check(k);
        }
        ui.close();
        ui.end();
        return scroll;
    }

    /** "Lines of the wheel are added up." */
    private static void linesUpToTheirSum() {
        PanelFrames ui = new PanelFrames();
        ui.point(150, 30);
        scrollFrame(ui);
        for (int k = 0; k < 6; k++) {
            ui.wheel(9);
        }
        ui.wheel(4);
        Checks.same("58 lines", scrollFrame(ui), 580);
        ui.wheel(-9);
        ui.wheel(-9);
        Checks.same("18 lines back", scrollFrame(ui), 400);
        ui.wheel(9);
        ui.wheel(9);
        ui.wheel(1);
        Checks.same("59 lines in all: HIGH less VIEW", scrollFrame(ui), 586);
        for (int k = 0; k < 64; k++) {
            ui.wheel(-9);
        }
        Checks.same("576 lines back: 0", scrollFrame(ui), 0);
    }

    private static void linesThatCancelOut() {
        PanelFrames ui = new PanelFrames();
        ui.point(150, 30);
        scrollFrame(ui);
        ui.wheel(-9);
        ui.wheel(9);
        Checks.same("first below 0: the sum counts, not the way", scrollFrame(ui), 0);
        ui.wheel(-9);
        ui.wheel(9);
        ui.wheel(1);
        Checks.same("1 line in all", scrollFrame(ui), 10);
    }

    /** A text takes 12, and a frame has at most 16 letters: all of them are taken, none is left. */
    private static void lettersOfAFrame() {
        int[] counts = {1, 11, 12, 13, 15, 16, 17, 64};
        for (int count : counts) {
            PanelFrames ui = withFocusedField();
            for (int k = 0; k < count; k++) {
                ui.letter('!' + k);
            }
            ui.begin();
            Checks.same(count + " letters: none waits", ui.look(11), 0);
            ui.window(0, 0, 0, 200, 100);
            Checks.same(count + " letters", ui.field(1, 100), Math.min(count, 12));
            ui.close();
            ui.end();
            for (int k = 0; k < 12; k++) {
                Checks.same(count + " letters: " + k, ui.text(Checks.idIn(0, 1), k), k < count ? '!' + k : -1);
            }
        }
    }

    /** "Further ones go": they don't come in the next frame, when there is room for them again. */
    private static void furtherLettersGo() {
        int[] counts = {12, 13, 16, 17, 40};
        for (int count : counts) {
            PanelFrames ui = withFocusedField();
            for (int k = 0; k < count; k++) {
                ui.letter('!' + k);
            }
            fieldFrame(ui);
            ui.key(Checks.BACK, true);
            Checks.same(count + " letters, one went back", fieldFrame(ui), 11);
            Checks.same(count + " letters, no other comes", fieldFrame(ui), 11);
        }
    }
}
