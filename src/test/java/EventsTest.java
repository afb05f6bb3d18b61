/** Promises 1 to 7: a new object, the events, and what a frame takes of them. */
public final class EventsTest {
    public static void main(String[] args) {
        newObject();
        points();
        pressesStopTheTaking();
        releaseWaitsBehindAPress();
        pressThatIsNothing();
        releaseThatIsNothing();
        wheels();
        keys();
        keyThatIsSoAlready();
        letters();
        fullRow();
        rowIsUsedAgain();
        Checks.finish("EventsTest");
    }

    private static void newObject() {
        PanelFrames ui = new PanelFrames();
        Checks.same("NONE", PanelFrames.NONE, -1);
        for (int what = 0; what < 4; what++) {
            Checks.same("new: look(" + what + ")", ui.look(what), 0);
            Checks.same("new: look(" + (5 + what) + ")", ui.look(5 + what), 0);
        }
        Checks.same("new: look(4)", ui.look(4), -1);
        Checks.same("new: look(9)", ui.look(9), -1);
        for (int what = 10; what < 15; what++) {
            Checks.same("new: look(" + what + ")", ui.look(what), 0);
        }
        for (int what = 0; what < 3; what++) {
            Checks.same("new: drawn(" + what + ")", ui.drawn(what), 0);
        }
        Checks.same("new: command", ui.command(0, 0), -1);
        Checks.same("new: index", ui.index(0), -1);
        Checks.same("new: vertex", ui.vertex(0, 0), -10000);
        Checks.refusedState("new: end", ui::end);
        Checks.same("new: begin", ui.begin(), 0);
    }

    private static int[] mouse(PanelFrames ui) {
        ui.open(1);
        ui.popup(1, 40, 30);
        int[] at = {ui.place(8, 0), ui.place(8, 1)};
        ui.close();
        return at;
    }

    private static void mouseIs(String what, PanelFrames ui, int x, int y) {
        int[] at = mouse(ui);
        Checks.same(what + ", x", at[0], x);
        Checks.same(what + ", y", at[1], y);
    }

    private static void points() {
        PanelFrames ui = new PanelFrames();
        ui.begin();
        mouseIs("the mouse at first", ui, 0, 0);
        ui.end();
        Checks.no("point(-1, 5)", ui.point(-1, 5));
        Checks.no("point(5, -1)", ui.point(5, -1));
        Checks.no("point(1000, 5)", ui.point(1000, 5));
        Checks.no("point(5, 1000)", ui.point(5, 1000));
        Checks.no("point(MIN, MAX)", ui.point(Integer.MIN_VALUE, Integer.MAX_VALUE));
        Checks.same("wrong points don't wait", ui.look(11), 0);
        Checks.yes("point(0, 0)", ui.point(0, 0));
        Checks.yes("point(0, 999)", ui.point(0, 999));
        Checks.yes("point(999, 0)", ui.point(999, 0));
        Checks.same("points wait", ui.look(11), 3);
        Checks.same("points are all taken", ui.begin(), 3);
        Checks.same("no more wait", ui.look(11), 0);
        mouseIs("the last point counts", ui, 999, 0);
        Checks.yes("point in a frame", ui.point(7, 8));
        Checks.same("it waits", ui.look(11), 1);
        ui.end();
        ui.dismiss();
        Checks.same("it is taken", ui.begin(), 1);
        mouseIs("the mouse moved", ui, 7, 8);
        ui.end();
    }

    private static void pressesStopTheTaking() {
        PanelFrames ui = new PanelFrames();
        ui.point(5, 6);
        Checks.yes("press(true)", ui.press(true));
        ui.key(Checks.TAB, true);
        ui.wheel(1);
        ui.letter('a');
        ui.point(50, 60);
        ui.letter('b');
        Checks.yes("press(false)", ui.press(false));
        ui.press(true);
        Checks.same("all up to the point behind the press", ui.begin(), 5);
        Checks.same("the rest waits", ui.look(11), 4);
        Checks.same("pressed", ui.look(10), 1);
        mouseIs("the point waits", ui, 5, 6);
        ui.end();
        ui.dismiss();
        Checks.same("point, letter, release", ui.begin(), 3);
        Checks.same("released", ui.look(10), 0);
        mouseIs("the point is taken", ui, 50, 60);
        ui.end();
        Checks.same("press", ui.begin(), 1);
        Checks.same("pressed again", ui.look(10), 1);
        ui.end();
        ui.press(false);
        ui.press(true);
        Checks.same("the press waits behind a release", ui.begin(), 1);
        Checks.same("one waits", ui.look(11), 1);
    }

    private static boolean frameWithButton(PanelFrames ui) {
        ui.begin();
        ui.window(0, 0, 0, 100, 100);
        boolean clicked = ui.button(1, 40);
        ui.close();
        ui.end();
        return clicked;
    }

    private static void pressThatIsNothing() {
        PanelFrames ui = new PanelFrames();
        frameWithButton(ui);
        ui.point(500, 500);
        ui.press(true);
        frameWithButton(ui);
        ui.point(10, 20);
        ui.press(true);
        frameWithButton(ui);
        Checks.same("it is hovered", ui.look(1), Checks.idIn(0, 1));
        Checks.same("a press of what is pressed is nothing", ui.look(0), 0);
        ui.press(false);
        frameWithButton(ui);
        ui.press(true);
        frameWithButton(ui);
        Checks.same("a press is something", ui.look(0), Checks.idIn(0, 1));
    }

    private static void releaseThatIsNothing() {
        PanelFrames ui = new PanelFrames();
        frameWithButton(ui);
        ui.point(10, 20);
        ui.press(false);
        Checks.no("a release of what isn't pressed", frameWithButton(ui));
        ui.press(true);
        Checks.no("pressed", frameWithButton(ui));
        ui.press(false);
        Checks.yes("released", frameWithButton(ui));
        ui.press(false);
        Checks.no("released again", frameWithButton(ui));
    }

    private static void frameWithTallWindow(PanelFrames ui) {
        ui.begin();
        ui.window(0, 0, 0, 100, 112);
        ui.child(1, 50, 200);
        ui.close();
        ui.near();
        ui.child(2, 10, 190);
        ui.close();
        ui.close();
        ui.end();
    }

    private static void wheels() {
        PanelFrames ui = new PanelFrames();
        Checks.no("wheel(-10)", ui.wheel(-10));
        Checks.no("wheel(10)", ui.wheel(10));
        Checks.same("wrong wheels don't wait", ui.look(11), 0);
        ui.point(90, 50);
        frameWithTallWindow(ui);
        Checks.yes("wheel(9)", ui.wheel(9));
        Checks.yes("wheel(-9)", ui.wheel(-9));
        Checks.yes("wheel(0)", ui.wheel(0));
        Checks.yes("wheel(3)", ui.wheel(3));
        frameWithTallWindow(ui);
        Checks.same("lines are added up", ui.place(0, 4), 30);
        frameWithTallWindow(ui);
        Checks.same("they count in one frame alone", ui.place(0, 4), 30);
        ui.wheel(-1);
        frameWithTallWindow(ui);
        Checks.same("and back", ui.place(0, 4), 20);
    }

    private static void keys() {
        PanelFrames ui = new PanelFrames();
        Checks.no("key(-1)", ui.key(-1, true));
        Checks.no("key(6)", ui.key(6, false));
        Checks.same("wrong keys don't wait", ui.look(11), 0);
        for (int key = 0; key < 6; key++) {
            Checks.yes("key down", ui.key(key, true));
            Checks.yes("key up", ui.key(key, false));
        }
        Checks.same("keys wait", ui.look(11), 12);
        Checks.same("keys are taken", ui.begin(), 12);
    }

    private static int frameWithSlider(PanelFrames ui) {
        ui.begin();
        ui.window(0, 0, 0, 100, 100);
        int value = ui.slider(1, 40, 0, 50);
        ui.close();
        ui.end();
        return value;
    }

    private static void keyThatIsSoAlready() {
        PanelFrames ui = new PanelFrames();
        ui.key(Checks.TAB, true);
        frameWithSlider(ui);
        Checks.same("TAB gave the focus", ui.look(2), Checks.idIn(0, 1));
        ui.key(Checks.RIGHT, true);
        Checks.same("RIGHT goes down", frameWithSlider(ui), 1);
        Checks.same("it is down, but not here", frameWithSlider(ui), 1);
        ui.key(Checks.RIGHT, true);
        Checks.same("it is down already", frameWithSlider(ui), 1);
        ui.key(Checks.RIGHT, false);
        Checks.same("it goes up", frameWithSlider(ui), 1);
        ui.key(Checks.RIGHT, false);
        Checks.same("it is up already", frameWithSlider(ui), 1);
        ui.key(Checks.RIGHT, true);
        Checks.same("it goes down again", frameWithSlider(ui), 2);
        ui.key(Checks.RIGHT, false);
        ui.key(Checks.RIGHT, true);
        ui.key(Checks.RIGHT, false);
        ui.key(Checks.RIGHT, true);
        Checks.same("twice in a frame counts once", frameWithSlider(ui), 3);
    }

    private static int frameWithField(PanelFrames ui) {
        ui.begin();
        ui.window(0, 0, 0, 100, 100);
        int length = ui.field(1, 90);
        ui.close();
        ui.end();
        return length;
    }

    private static void letters() {
        PanelFrames ui = new PanelFrames();
        Checks.no("letter(31)", ui.letter(31));
        Checks.no("letter(127)", ui.letter(127));
        Checks.same("wrong letters don't wait", ui.look(11), 0);
        ui.key(Checks.TAB, true);
        frameWithField(ui);
        Checks.yes("letter(32)", ui.letter(32));
        Checks.yes("letter(126)", ui.letter(126));
        Checks.same("letters come", frameWithField(ui), 2);
        Checks.same("the first", ui.text(Checks.idIn(0, 1), 0), 32);
        Checks.same("the second", ui.text(Checks.idIn(0, 1), 1), 126);
        Checks.same("they come once", frameWithField(ui), 2);
        for (int k = 0; k < 20; k++) {
            ui.letter('a' + k);
        }
        ui.begin();
        Checks.same("all letters are taken", ui.look(11), 0);
        ui.window(0, 0, 0, 100, 100);
        Checks.same("as many as there is room for", ui.field(1, 90), 12);
        ui.close();
        ui.end();
        Checks.same("no letter is left for the next frame", frameWithField(ui), 12);
        Checks.same("the last one", ui.text(Checks.idIn(0, 1), 11), 'a' + 9);
    }

    private static void fullRow() {
        PanelFrames ui = new PanelFrames();
        for (int k = 0; k < 64; k++) {
            Checks.yes("event " + k, ui.point(k, 2 * k));
        }
        Checks.no("point beyond 64", ui.point(1, 1));
        Checks.no("press beyond 64", ui.press(true));
        Checks.no("release beyond 64", ui.press(false));
        Checks.no("wheel beyond 64", ui.wheel(1));
        Checks.no("key beyond 64", ui.key(1, true));
        Checks.no("letter beyond 64", ui.letter('a'));
        Checks.same("64 wait", ui.look(11), 64);
        Checks.same("64 are taken", ui.begin(), 64);
        mouseIs("the last one taken", ui, 63, 126);
        ui.end();
    }

    private static void rowIsUsedAgain() {
        PanelFrames ui = new PanelFrames();
        for (int round = 0; round < 3; round++) {
            for (int k = 0; k < 41; k++) {
                ui.point(10 * round, k);
            }
            ui.dismiss();
            Checks.same("41 are taken", ui.begin(), 41);
            mouseIs("in their order", ui, 10 * round, 40);
            ui.end();
        }
    }

    private static void releaseWaitsBehindAPress() {
        PanelFrames ui = new PanelFrames();
        ui.press(true);
        ui.press(false);
        ui.press(true);
        Checks.same("the press alone", ui.begin(), 1);
        Checks.same("two wait", ui.look(11), 2);
        Checks.same("pressed", ui.look(10), 1);
        ui.end();
        Checks.same("the release alone", ui.begin(), 1);
        Checks.same("released", ui.look(10), 0);
        ui.end();
        Checks.same("the second press", ui.begin(), 1);
        Checks.same("pressed again", ui.look(10), 1);
        ui.end();
    }
}
