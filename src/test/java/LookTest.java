/** Promises 23 and 24: look and place. */
public final class LookTest {
    public static void main(String[] args) {
        otherWhats();
        lookInAFrame();
        latestItem();
        placeBeforeItWasTold();
        placeOfATold();
        toldInTheLatest();
        lookingChangesNothing();
        Checks.finish("LookTest");
    }

    private static void otherWhats() {
        PanelFrames ui = new PanelFrames();
        int[] others = {-1, 15, 100, Integer.MIN_VALUE, Integer.MAX_VALUE};
        for (int what : others) {
            Checks.same("look(" + what + ")", ui.look(what), -1);
        }
        int[] otherParts = {-1, 9, Integer.MIN_VALUE, Integer.MAX_VALUE};
        for (int what : otherParts) {
            Checks.same("place(0, " + what + ")", ui.place(0, what), -1);
            Checks.same("place(8, " + what + ")", ui.place(8, what), -1);
        }
        for (int what = 0; what < 9; what++) {
            Checks.same("place(-1, " + what + ")", ui.place(-1, what), -1);
            Checks.same("place(9, " + what + ")", ui.place(9, what), -1);
        }
        Checks.same("place(MAX, 0)", ui.place(Integer.MAX_VALUE, 0), -1);
    }

    private static void tell(PanelFrames ui) {
        ui.window(4, 100, 200, 150, 160);
        ui.slider(1, 50, 3, 9);
        ui.close();
    }

    private static void lookInAFrame() {
        PanelFrames ui = new PanelFrames();
        int id = Checks.idIn(4, 1);
        ui.point(110, 220);
        ui.begin();
        tell(ui);
        ui.end();
        ui.press(true);
        ui.key(Checks.ENTER, true);
        ui.point(5, 5);
        ui.begin();
        Checks.same("nothing is active yet", ui.look(0), 0);
        Checks.same("no item yet", ui.look(1), 0);
        Checks.same("the hovered window", ui.look(4), 4);
        ui.open(77);
        tell(ui);
        Checks.same("active", ui.look(0), id);
        Checks.same("hovered", ui.look(1), id);
        Checks.same("focus", ui.look(2), id);
        Checks.same("held", ui.look(3), id);
        Checks.same("the popup's label", ui.look(9), 77);
        Checks.same("pressed", ui.look(10), 1);
        Checks.same("one waits", ui.look(11), 1);
        Checks.same("one ID is kept", ui.look(12), 1);
        Checks.same("nothing open", ui.look(13), 0);
        Checks.same("a frame is on", ui.look(14), 1);
        ui.end();
        Checks.same("no frame is on", ui.look(14), 0);
        Checks.same("active yet", ui.look(0), id);
        Checks.same("focus yet", ui.look(2), id);
        Checks.same("held yet", ui.look(3), id);
    }

    private static void latestItem() {
        PanelFrames ui = new PanelFrames();
        ui.begin();
        Checks.latest("before any", ui, 0, 0, 0, 0);
        ui.window(0, -50, -60, 100, 100);
        Checks.latest("a window is no item", ui, 0, 0, 0, 0);
        ui.button(1, 30);
        Checks.latest("beyond the screen", ui, -46, -44, -16, -32);
        ui.close();
        Checks.latest("closing a window changes nothing", ui, -46, -44, -16, -32);
        ui.end();
    }

    private static void placeBeforeItWasTold() {
        PanelFrames ui = new PanelFrames();
        for (int window = 0; window < 9; window++) {
            for (int what = 0; what < 9; what++) {
                Checks.same("place(" + window + ", " + what + ")", ui.place(window, what), what == 7 ? window : 0);
            }
        }
    }

    private static void placeOfATold() {
        PanelFrames ui = new PanelFrames();
        ui.begin();
        ui.window(5, -100, 999, 150, 160);
        int[] due = {-100, 999, 150, 160, 0, 0, 0, 5, 1};
        for (int what = 0; what < 9; what++) {
            Checks.same("place(5, " + what + ")", ui.place(5, what), due[what]);
        }
        ui.button(1, 30);
        Checks.same("HIGH before it is closed", ui.place(5, 5), 0);
        ui.close();
        Checks.same("HIGH when it is closed", ui.place(5, 5), 12);
        ui.end();
    }

    private static void toldInTheLatest() {
        PanelFrames ui = new PanelFrames();
        ui.begin();
        ui.window(5, 0, 0, 150, 160);
        ui.close();
        ui.end();
        Checks.same("in no frame: in the latest one", ui.place(5, 8), 1);
        ui.begin();
        Checks.same("not yet in this one", ui.place(5, 8), 0);
        ui.end();
        Checks.same("not in the latest one", ui.place(5, 8), 0);
        Checks.same("it has its width", ui.place(5, 2), 150);
    }

    private static void lookingChangesNothing() {
        PanelFrames ui = new PanelFrames();
        ui.point(110, 220);
        ui.begin();
        ui.window(4, 100, 200, 150, 160);
        for (int what = -2; what < 17; what++) {
            int first = ui.look(what);
            Checks.same("look twice", ui.look(what), first);
            ui.place(4, what);
            ui.drawn(what);
            ui.command(0, what);
            ui.vertex(0, what);
            ui.index(what);
            ui.kept(what);
            ui.text(what, what);
        }
        Checks.same("the frame is on", ui.look(14), 1);
        Checks.same("the window is open", ui.look(13), 1);
        ui.close();
        Checks.same("it ends", ui.end(), 1);
    }
}
