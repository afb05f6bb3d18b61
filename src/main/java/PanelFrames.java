import java.util.Arrays;

/** An immediate-mode interface: windows and items are told anew in each frame, and answer at once. */
public final class PanelFrames {
    public static final int NONE = -1;

    private static final int NO_VERTEX = -10000;

    private static final int SCREEN = 1000;
    private static final int LAST_LABEL = 999;
    private static final int FIRST_PLACE = -100;
    private static final int LAST_PLACE = 999;

    private static final int WINDOW_ID = 1000;
    private static final int WINDOWS = 8;
    private static final int POPUP = 8;

    private static final int ROW = 12;
    private static final int GAP = 4;
    private static final int CHILD_EDGE = 2;
    private static final int TREE_INDENT = 10;
    private static final int LINE = 10;

    private static final int TAB = 0;
    private static final int ENTER = 1;
    private static final int LEFT = 2;
    private static final int RIGHT = 3;
    private static final int BACK = 4;
    private static final int HOME = 5;
    private static final int KEYS = 6;

    private static final int OPEN_WINDOW = 0;
    private static final int OPEN_CHILD = 1;
    private static final int OPEN_TREE = 2;
    private static final int OPEN_SCOPE = 3;
    private static final int OPEN_GROUP = 4;

    private static final int COLOUR_WINDOW = 1;
    private static final int COLOUR_TITLE = 2;
    private static final int COLOUR_ITEM = 3;
    private static final int COLOUR_HOVERED = 4;
    private static final int COLOUR_ACTIVE = 5;
    private static final int COLOUR_GLYPH = 6;

    private static final int[] CORNERS = {0, 1, 2, 0, 2, 3};

    private final Input input;
    private final Desk desk;
    private final Kids kids;
    private final Pile pile;
    private final Attention attention;
    private final Store store;
    private final Sketch sketch;
    private final Sketch shown;
    private final Box latest;
    private final Box glyph;
    private boolean frameOn;
    private boolean nearNext;

    public PanelFrames() {
        input = new Input();
        desk = new Desk();
        kids = new Kids();
        pile = new Pile();
        attention = new Attention();
        store = new Store();
        sketch = new Sketch();
        shown = new Sketch();
        latest = new Box();
        glyph = new Box();
    }

    public boolean point(int x, int y) {
        return isWithin(x, 0, SCREEN - 1) && isWithin(y, 0, SCREEN - 1)
            && input.row.add(EventRow.POINT, x, y);
    }

    public boolean press(boolean down) {
        return input.row.add(down ? EventRow.PRESS : EventRow.RELEASE, 0, 0);
    }

    public boolean wheel(int lines) {
        return isWithin(lines, -9, 9) && input.row.add(EventRow.WHEEL, lines, 0);
    }

    public boolean key(int key, boolean down) {
        return isWithin(key, 0, KEYS - 1)
            && input.row.add(down ? EventRow.KEY_DOWN : EventRow.KEY_UP, key, 0);
    }

    public boolean letter(int letter) {
        return isWithin(letter, 32, 126) && input.row.add(EventRow.LETTER, letter, 0);
    }

    public int begin() throws IllegalStateException {
        requireState(!frameOn);
        int taken = input.takeEvents();
        desk.findHovered(input);
        moveActiveWindow();
        kids.findWheelKid(desk.hovered, input);
        desk.forgetTold();
        kids.told = 0;
        pile.clear();
        attention.startFrame();
        sketch.clear();
        nearNext = false;
        frameOn = true;
        return taken;
    }

    public int end() throws IllegalStateException {
        requireState(frameOn && pile.count == 0);
        attention.finishFrame(input);
        desk.closeUntoldPopup();
        composeDrawing();
        frameOn = false;
        return shown.commands;
    }

    public boolean window(int window, int x, int y, int width, int height)
            throws IllegalArgumentException, IllegalStateException {
        requireArgument(isWithin(window, 0, WINDOWS - 1)
            && isWithin(x, FIRST_PLACE, LAST_PLACE) && isWithin(y, FIRST_PLACE, LAST_PLACE)
            && isWindowSize(width, height));
        Pane pane = desk.paneOf(window);
        requireState(frameOn && pile.count == 0 && !pane.told);
        if (!pane.known) {
            pane.moveTo(x, y);
        }
        tellPane(window, pane, width, height);
        return !pane.collapsed;
    }

    public boolean open(int label) throws IllegalArgumentException, IllegalStateException {
        requireArgument(isLabel(label));
        requireState(frameOn);
        return desk.openPopup(label, input);
    }

    public boolean popup(int label, int width, int height)
            throws IllegalArgumentException, IllegalStateException {
        requireArgument(isLabel(label) && isWindowSize(width, height));
        Pane pane = desk.paneOf(POPUP);
        requireState(frameOn && pile.count == 0 && !pane.told);
        if (desk.popupLabel != label) {
            return false;
        }
        tellPane(POPUP, pane, width, height);
        return true;
    }

    public boolean dismiss() {
        boolean wasOpen = desk.popupLabel != NONE;
        desk.popupLabel = NONE;
        return wasOpen;
    }

    public int close() throws IllegalStateException {
        requireState(frameOn && pile.count > 0);
        int kind = pile.topKind();
        Area area = pile.area();
        pile.drop(kind);
        if (kind == OPEN_WINDOW) {
            closePane(area);
        } else if (kind == OPEN_CHILD) {
            kids.setHigh(area.number, area.high());
        } else if (kind == OPEN_TREE) {
            area.indent -= TREE_INDENT;
        } else if (kind == OPEN_GROUP) {
            latest.set(area.firstX, area.firstY, area.widest, area.lowest);
            pile.area().addItem(latest);
        }
        return kind;
    }

    public boolean button(int label, int width)
            throws IllegalArgumentException, IllegalStateException {
        requireItem(isLabel(label) && isWithin(width, 1, 200));
        int id = pile.idOf(label);
        boolean clicked = tellBehaving(id, width);
        drawItem(id);
        drawLabel(label);
        return clicked;
    }

    public int check(int label) throws IllegalArgumentException, IllegalStateException {
        requireItem(isLabel(label));
        int id = pile.idOf(label);
        if (tellBehaving(id, ROW)) {
            store.toggle(id);
        }
        drawItem(id);
        return store.numberOf(id);
    }

    public int slider(int label, int width, int low, int high)
            throws IllegalArgumentException, IllegalStateException {
        requireItem(isLabel(label) && isWithin(width, 2, 200)
            && isWithin(low, -1000, 1000) && isWithin(high, -1000, 1000) && low < high);
        int id = pile.idOf(label);
        tellBehaving(id, width);
        int value = slide(id, low, high);
        store.setNumber(id, value);
        drawItem(id);
        drawLabel(label);
        return value;
    }

    public int field(int label, int width)
            throws IllegalArgumentException, IllegalStateException {
        requireItem(isLabel(label) && isWithin(width, 1, 200));
        int id = pile.idOf(label);
        tellBehaving(id, width);
        if (attention.focus == id) {
            store.edit(id, input);
        }
        drawItem(id);
        int length = store.lengthOf(id);
        for (int k = 0; k < length; k++) {
            drawGlyph(k, store.letterOf(id, k));
        }
        return length;
    }

    public boolean tree(int label, int width)
            throws IllegalArgumentException, IllegalStateException {
        requireItem(isLabel(label) && isWithin(width, 1, 200));
        int id = pile.idOf(label);
        if (tellBehaving(id, width)) {
            store.toggle(id);
        }
        drawItem(id);
        drawLabel(label);
        if (store.numberOf(id) == 0) {
            return false;
        }
        requireState(pile.hasRoom());
        pile.put(OPEN_TREE, id);
        pile.area().indent += TREE_INDENT;
        return true;
    }

    public void child(int label, int width, int height)
            throws IllegalArgumentException, IllegalStateException {
        requireItem(isLabel(label) && isWithin(width, 1, 200) && isWithin(height, 1, 200));
        requireState(pile.hasRoom() && kids.hasRoom());
        int id = pile.idOf(label);
        layItem(width, height);
        attention.noteTold(id);
        drawItem(id);
        int number = kids.tell(desk.telling, input.lines, height);
        Area outer = pile.area();
        pile.put(OPEN_CHILD, id);
        Area inner = pile.area();
        inner.start(latest.left + CHILD_EDGE, latest.top + CHILD_EDGE - kids.scrollOf(number), number);
        inner.clip.setMeeting(latest, outer.clip);
        kids.clipOf(number).setLike(inner.clip);
    }

    public void scope(int label) throws IllegalArgumentException, IllegalStateException {
        requireItem(isLabel(label));
        requireState(pile.hasRoom());
        pile.put(OPEN_SCOPE, pile.idOf(label));
    }

    public void group() throws IllegalStateException {
        requireState(isWindowOpen() && pile.hasRoom());
        Area outer = pile.area();
        outer.placeCursor(nearNext);
        nearNext = false;
        pile.put(OPEN_GROUP, pile.topId());
        Area inner = pile.area();
        inner.start(outer.cursorX, outer.cursorY, 0);
        inner.clip.setLike(outer.clip);
    }

    public void near() throws IllegalStateException {
        requireState(isWindowOpen());
        nearNext = true;
    }

    public int look(int what) {
        switch (what) {
            case 0: return attention.active;
            case 1: return attention.hoveredItem;
            case 2: return attention.focus;
            case 3: return attention.held;
            case 4: return desk.hovered;
            case 5: return latest.left;
            case 6: return latest.top;
            case 7: return latest.right;
            case 8: return latest.bottom;
            case 9: return desk.popupLabel;
            case 10: return oneIf(input.pressed);
            case 11: return input.row.count;
            case 12: return store.count;
            case 13: return pile.count;
            case 14: return oneIf(frameOn);
            default: return NONE;
        }
    }

    public int place(int window, int what) {
        if (!isWithin(window, 0, POPUP) || !isWithin(what, 0, 8)) {
            return NONE;
        }
        if (what == 7) {
            return desk.placeInOrder(window);
        }
        Pane pane = desk.paneOf(window);
        return pane.known ? pane.answer(what) : 0;
    }

    public int kept(int id) {
        return store.numberOf(id);
    }

    public int text(int id, int k) {
        return k == Store.LETTERS ? store.caretOf(id) : store.letterOf(id, k);
    }

    public int drawn(int what) {
        switch (what) {
            case 0: return shown.commands;
            case 1: return shown.quads * 6;
            case 2: return shown.quads * 4;
            default: return NONE;
        }
    }

    public int command(int k, int what) {
        return shown.commandPart(k, what);
    }

    public int index(int k) {
        return k < 0 ? NONE : shown.indexAt(k / 6, k % 6);
    }

    public int vertex(int k, int what) {
        return k < 0 ? NO_VERTEX : shown.vertexPart(k / 4, k % 4, what);
    }

    private static boolean isWithin(int value, int low, int high) {
        return value >= low && value <= high;
    }

    private static boolean isLabel(int label) {
        return isWithin(label, 0, LAST_LABEL);
    }

    private static boolean isWindowSize(int width, int height) {
        return isWithin(width, 40, 400) && isWithin(height, 30, 400);
    }

    private static int bring(int value, int low, int high) {
        return Math.max(low, Math.min(value, high));
    }

    private static int oneIf(boolean yes) {
        return yes ? 1 : 0;
    }

    private void requireArgument(boolean fits) {
        if (!fits) {
            throw new IllegalArgumentException("an argument is outside what the document allows");
        }
    }

    private void requireState(boolean fits) {
        if (!fits) {
            breakFrame();
            throw new IllegalStateException("this call is not allowed here; a frame that was on is broken");
        }
    }

    private void requireItem(boolean argumentsFit) {
        requireArgument(argumentsFit);
        requireState(isWindowOpen());
    }

    // Whatever is open lies in a window, so the pile tells it.
    private boolean isWindowOpen() {
        return frameOn && pile.count > 0;
    }

    private void breakFrame() {
        if (!frameOn) {
            return;
        }
        frameOn = false;
        attention.forgetAll();
        desk.forgetAll();
        kids.told = 0;
        pile.clear();
    }

    private void moveActiveWindow() {
        int number = attention.active - WINDOW_ID;
        if (isWithin(number, 0, POPUP) && input.pressed && !input.pressedHere) {
            Pane pane = desk.paneOf(number);
            pane.moveTo(pane.left + input.movedX, pane.top + input.movedY);
        }
    }

    private void tellPane(int number, Pane pane, int width, int height) {
        int id = WINDOW_ID + number;
        boolean hovered = desk.hovered == number;
        pane.tell(width, height, hovered && kids.wheelKid == NONE ? input.lines : 0);
        if (hovered && input.pressedHere && attention.active == 0 && pane.hasInTitle(input)) {
            attention.active = id;
        }
        if (attention.active == id && input.releasedHere) {
            attention.active = 0;
            if (input.isWherePressed()) {
                pane.collapsed = !pane.collapsed;
            }
        }
        attention.noteTold(id);
        desk.telling = number;
        pile.put(OPEN_WINDOW, id);
        Area area = pile.area();
        area.start(pane.left + GAP, pane.top + pane.title + GAP - pane.scroll, 0);
        drawPane(pane, area.clip);
        pane.setInside(area.clip);
    }

    // The clip of the two quads is not the one of the items, so it stands in the box only meanwhile.
    private void drawPane(Pane pane, Box clip) {
        sketch.startList();
        pane.firstQuad = sketch.quads;
        pane.firstCommand = sketch.commands;
        pane.setOutside(clip);
        glyph.set(pane.left, pane.top, pane.left + pane.width, pane.top + pane.heightNow());
        sketch.draw(glyph, COLOUR_WINDOW, 0, clip);
        if (pane.title > 0) {
            glyph.bottom = pane.top + pane.title;
            sketch.draw(glyph, COLOUR_TITLE, 0, clip);
        }
    }

    private void closePane(Area area) {
        Pane pane = desk.paneOf(desk.telling);
        pane.high = area.high();
        pane.endQuad = sketch.quads;
        pane.endCommand = sketch.commands;
        desk.telling = NONE;
    }

    private void composeDrawing() {
        shown.clear();
        for (int k = 0; k < WINDOWS; k++) {
            showPane(desk.paneOf(desk.windowAt(k)));
        }
        showPane(desk.paneOf(POPUP));
    }

    private void showPane(Pane pane) {
        if (pane.told) {
            shown.append(sketch, pane);
        }
    }

    private void layItem(int width, int height) {
        Area area = pile.area();
        area.placeCursor(nearNext);
        nearNext = false;
        latest.set(area.cursorX, area.cursorY, area.cursorX + width, area.cursorY + height);
        area.addItem(latest);
    }

    private boolean tellBehaving(int id, int width) {
        layItem(width, ROW);
        boolean over = desk.telling == desk.hovered
            && latest.has(input.mouseX, input.mouseY)
            && pile.area().clip.has(input.mouseX, input.mouseY);
        return attention.behave(id, over, input);
    }

    private int slide(int id, int low, int high) {
        int value = bring(store.numberOf(id), low, high);
        int span = latest.right - latest.left - 1;
        if (attention.active == id && input.pressed && span > 0) {
            value = bring(low + (input.mouseX - latest.left) * (high - low) / span, low, high);
        }
        if (attention.focus == id) {
            if (input.isDownHere(LEFT) && value > low) {
                value--;
            }
            if (input.isDownHere(RIGHT) && value < high) {
                value++;
            }
        }
        return value;
    }

    private void drawItem(int id) {
        int colour = attention.active == id ? COLOUR_ACTIVE
            : attention.hoveredItem == id ? COLOUR_HOVERED : COLOUR_ITEM;
        sketch.draw(latest, colour, 0, pile.area().clip);
    }

    private void drawLabel(int label) {
        int at = 0;
        if (label >= 100) {
            drawGlyph(at, 1 + label / 100);
            at++;
        }
        if (label >= 10) {
            drawGlyph(at, 1 + label / 10 % 10);
            at++;
        }
        drawGlyph(at, 1 + label % 10);
    }

    private void drawGlyph(int k, int texture) {
        int left = latest.left + 2 + 6 * k;
        int top = latest.top + 2;
        glyph.set(left, top, left + 6, top + 8);
        sketch.draw(glyph, COLOUR_GLYPH, texture, pile.area().clip);
    }

    /** A rectangle. */
    private static final class Box {
        int left;
        int top;
        int right;
        int bottom;

        void set(int newLeft, int newTop, int newRight, int newBottom) {
            left = newLeft;
            top = newTop;
            right = newRight;
            bottom = newBottom;
        }

        void setLike(Box other) {
            set(other.left, other.top, other.right, other.bottom);
        }

        boolean has(int x, int y) {
            return left <= x && x < right && top <= y && y < bottom;
        }

        boolean meets(Box other) {
            return Math.max(left, other.left) < Math.min(right, other.right)
                && Math.max(top, other.top) < Math.min(bottom, other.bottom);
        }

        void setMeeting(Box one, Box other) {
            set(Math.max(one.left, other.left), Math.max(one.top, other.top),
                Math.min(one.right, other.right), Math.min(one.bottom, other.bottom));
        }

        void cutToScreen() {
            set(Math.max(left, 0), Math.max(top, 0), Math.min(right, SCREEN), Math.min(bottom, SCREEN));
        }
    }

    /** The events that wait, in a ring. */
    private static final class EventRow {
        static final int POINT = 0;
        static final int PRESS = 1;
        static final int RELEASE = 2;
        static final int WHEEL = 3;
        static final int KEY_DOWN = 4;
        static final int KEY_UP = 5;
        static final int LETTER = 6;
        static final int ROOM = 64;

        final int[] kinds = new int[ROOM];
        final int[] firsts = new int[ROOM];
        final int[] seconds = new int[ROOM];
        int start;
        int count;

        boolean add(int kind, int first, int second) {
            if (count >= ROOM) {
                return false;
            }
            int at = (start + count) & (ROOM - 1);
            kinds[at] = kind;
            firsts[at] = first;
            seconds[at] = second;
            count++;
            return true;
        }

        int nextKind() {
            return kinds[start & (ROOM - 1)];
        }

        int nextFirst() {
            return firsts[start & (ROOM - 1)];
        }

        int nextSecond() {
            return seconds[start & (ROOM - 1)];
        }

        void drop() {
            if (count > 0) {
                start = (start + 1) & (ROOM - 1);
                count--;
            }
        }
    }

    /** The mouse and the keys, and what the frame took of them. */
    private static final class Input {
        static final int FRAME_LETTERS = 16;

        final EventRow row = new EventRow();
        final boolean[] keysDown = new boolean[KEYS];
        final boolean[] downHere = new boolean[KEYS];
        final boolean[] upHere = new boolean[KEYS];
        final int[] letters = new int[FRAME_LETTERS];
        int letterCount;
        int lines;
        int mouseX;
        int mouseY;
        int movedX;
        int movedY;
        int pressX;
        int pressY;
        boolean pressed;
        boolean pressedHere;
        boolean releasedHere;

        int takeEvents() {
            int fromX = mouseX;
            int fromY = mouseY;
            int waiting = row.count;
            int taken = 0;
            boolean turned = false;
            forgetFrame();
            while (taken < waiting) {
                int kind = row.nextKind();
                if (turned && kind <= EventRow.RELEASE) {
                    break;
                }
                turned |= kind == EventRow.PRESS || kind == EventRow.RELEASE;
                take(kind, row.nextFirst(), row.nextSecond());
                row.drop();
                taken++;
            }
            movedX = mouseX - fromX;
            movedY = mouseY - fromY;
            return taken;
        }

        void forgetFrame() {
            letterCount = 0;
            lines = 0;
            pressedHere = false;
            releasedHere = false;
            for (int k = 0; k < KEYS; k++) {
                downHere[k] = false;
                upHere[k] = false;
            }
        }

        void take(int kind, int first, int second) {
            switch (kind) {
                case EventRow.POINT:
                    mouseX = first;
                    mouseY = second;
                    break;
                case EventRow.PRESS:
                    takePress();
                    break;
                case EventRow.RELEASE:
                    releasedHere |= pressed;
                    pressed = false;
                    break;
                case EventRow.WHEEL:
                    lines += first;
                    break;
                case EventRow.KEY_DOWN:
                    takeKey(first, true, downHere);
                    break;
                case EventRow.KEY_UP:
                    takeKey(first, false, upHere);
                    break;
                default:
                    takeLetter(first);
                    break;
            }
        }

        void takePress() {
            if (!pressed) {
                pressed = true;
                pressedHere = true;
                pressX = mouseX;
                pressY = mouseY;
            }
        }

        void takeKey(int key, boolean down, boolean[] here) {
            if (isWithin(key, 0, KEYS - 1) && keysDown[key] != down) {
                keysDown[key] = down;
                here[key] = true;
            }
        }

        void takeLetter(int letter) {
            if (letterCount < FRAME_LETTERS) {
                letters[letterCount] = letter;
                letterCount++;
            }
        }

        boolean isDownHere(int key) {
            return isWithin(key, 0, KEYS - 1) && downHere[key];
        }

        boolean isUpHere(int key) {
            return isWithin(key, 0, KEYS - 1) && upHere[key];
        }

        boolean isWherePressed() {
            return mouseX == pressX && mouseY == pressY;
        }
    }

    /** A window, or the popup. */
    private static final class Pane {
        final int title;
        int left;
        int top;
        int width;
        int height;
        int scroll;
        int high;
        boolean collapsed;
        boolean known;
        boolean told;
        int firstQuad;
        int endQuad;
        int firstCommand;
        int endCommand;

        Pane(int titleHeight) {
            title = titleHeight;
        }

        void moveTo(int x, int y) {
            left = x;
            top = y;
        }

        void tell(int newWidth, int newHeight, int lines) {
            width = newWidth;
            height = newHeight;
            known = true;
            told = true;
            scroll = bring(scroll + LINE * lines, 0, Math.max(0, high - (height - title)));
        }

        int heightNow() {
            return collapsed ? ROW : height;
        }

        boolean hasMouse(Input input) {
            return isWithin(input.mouseX, left, left + width - 1)
                && isWithin(input.mouseY, top, top + heightNow() - 1);
        }

        boolean hasInTitle(Input input) {
            return hasMouse(input) && input.mouseY < top + title;
        }

        void setOutside(Box clip) {
            clip.set(left, top, left + width, top + heightNow());
            clip.cutToScreen();
        }

        void setInside(Box clip) {
            clip.set(left, top + title, left + width, top + heightNow());
            clip.cutToScreen();
        }

        int answer(int what) {
            switch (what) {
                case 0: return left;
                case 1: return top;
                case 2: return width;
                case 3: return height;
                case 4: return scroll;
                case 5: return high;
                case 6: return oneIf(collapsed);
                default: return oneIf(told);
            }
        }
    }

    /** All windows, their order, and the popup. */
    private static final class Desk {
        final Pane[] panes = new Pane[WINDOWS];
        final Pane popupPane = new Pane(0);
        final int[] order = new int[WINDOWS];
        int hovered = NONE;
        int telling = NONE;
        int popupLabel = NONE;
        boolean openedHere;

        Desk() {
            for (int k = 0; k < WINDOWS; k++) {
                panes[k] = new Pane(ROW);
                order[k] = k;
            }
        }

        Pane paneOf(int number) {
            Pane pane = isWithin(number, 0, WINDOWS - 1) ? panes[number] : popupPane;
            return pane == null ? popupPane : pane;
        }

        int windowAt(int place) {
            return isWithin(place, 0, WINDOWS - 1) ? order[place] : POPUP;
        }

        int placeInOrder(int number) {
            for (int k = 0; k < WINDOWS; k++) {
                if (order[k] == number) {
                    return k;
                }
            }
            return POPUP;
        }

        void bringToFront(int number) {
            for (int k = placeInOrder(number); k < WINDOWS - 1; k++) {
                order[k] = order[k + 1];
            }
            order[WINDOWS - 1] = number;
        }

        void findHovered(Input input) {
            if (popupLabel != NONE && popupPane.told) {
                boolean has = popupPane.hasMouse(input);
                hovered = has ? POPUP : NONE;
                if (!has && input.pressedHere) {
                    popupLabel = NONE;
                }
                return;
            }
            hovered = frontWindowUnder(input);
            if (hovered != NONE && input.pressedHere) {
                bringToFront(hovered);
            }
        }

        int frontWindowUnder(Input input) {
            for (int k = WINDOWS - 1; k >= 0; k--) {
                Pane pane = paneOf(order[k]);
                if (pane.told && pane.hasMouse(input)) {
                    return order[k];
                }
            }
            return NONE;
        }

        boolean openPopup(int label, Input input) {
            if (popupPane.told) {
                return false;
            }
            popupLabel = label;
            openedHere = true;
            popupPane.moveTo(input.mouseX, input.mouseY);
            return true;
        }

        void closeUntoldPopup() {
            if (!popupPane.told && !openedHere) {
                popupLabel = NONE;
            }
        }

        void forgetTold() {
            for (int k = 0; k <= POPUP; k++) {
                paneOf(k).told = false;
            }
            telling = NONE;
            openedHere = false;
        }

        void forgetAll() {
            forgetTold();
            hovered = NONE;
            popupLabel = NONE;
        }
    }

    /** The children, by the order in which they are told in a frame. */
    private static final class Kids {
        static final int ROOM = 8;

        final int[] scrolls = new int[ROOM];
        final int[] highs = new int[ROOM];
        final int[] windows = new int[ROOM];
        final Box[] clips = new Box[ROOM];
        final Box spareClip = new Box();
        int told;
        int wheelKid = NONE;

        Kids() {
            for (int k = 0; k < ROOM; k++) {
                clips[k] = new Box();
            }
        }

        boolean hasRoom() {
            return told < ROOM;
        }

        void findWheelKid(int window, Input input) {
            wheelKid = NONE;
            for (int k = 0; k < told && k < ROOM; k++) {
                if (windows[k] == window && clipOf(k).has(input.mouseX, input.mouseY)) {
                    wheelKid = k;
                }
            }
        }

        int tell(int window, int lines, int view) {
            int number = bring(told, 0, ROOM - 1);
            int scroll = scrolls[number] + (number == wheelKid ? LINE * lines : 0);
            scrolls[number] = bring(scroll, 0, Math.max(0, highs[number] - view));
            windows[number] = window;
            told++;
            return number;
        }

        int scrollOf(int number) {
            return isWithin(number, 0, ROOM - 1) ? scrolls[number] : 0;
        }

        Box clipOf(int number) {
            Box clip = isWithin(number, 0, ROOM - 1) ? clips[number] : spareClip;
            return clip == null ? spareClip : clip;
        }

        void setHigh(int number, int high) {
            if (isWithin(number, 0, ROOM - 1)) {
                highs[number] = high;
            }
        }
    }

    /** Where items come to lie in a window, a child or a group. */
    private static final class Area {
        final Box clip = new Box();
        int firstX;
        int firstY;
        int indent;
        int cursorX;
        int cursorY;
        int lineBottom;
        int lastRight;
        int lowest;
        int widest;
        boolean hasItem;
        int number;

        void start(int x, int y, int kidNumber) {
            firstX = x;
            firstY = y;
            indent = 0;
            lowest = y;
            widest = x;
            hasItem = false;
            number = kidNumber;
        }

        void placeCursor(boolean near) {
            // In one line the cursor's height stays the line's top.
            if (near && hasItem) {
                cursorX = lastRight + GAP;
                return;
            }
            cursorX = firstX + indent;
            cursorY = hasItem ? lineBottom + GAP : firstY;
            lineBottom = cursorY;
        }

        void addItem(Box item) {
            lastRight = item.right;
            lineBottom = Math.max(lineBottom, item.bottom);
            lowest = Math.max(lowest, item.bottom);
            widest = Math.max(widest, item.right);
            hasItem = true;
        }

        int high() {
            return lowest - firstY;
        }
    }

    /** The things that are open, with their IDs, and the areas of those that have one. */
    private static final class Pile {
        static final int ROOM = 40;

        final int[] kinds = new int[ROOM];
        final int[] ids = new int[ROOM];
        final Area[] areas = new Area[ROOM];
        final Area spareArea = new Area();
        int count;
        int areaCount;

        Pile() {
            for (int k = 0; k < ROOM; k++) {
                areas[k] = new Area();
            }
        }

        void clear() {
            count = 0;
            areaCount = 0;
        }

        boolean hasRoom() {
            return count < ROOM;
        }

        static boolean hasArea(int kind) {
            return kind != OPEN_TREE && kind != OPEN_SCOPE;
        }

        void put(int kind, int id) {
            if (count >= ROOM) {
                return;
            }
            kinds[count] = kind;
            ids[count] = id;
            count++;
            if (hasArea(kind)) {
                areaCount++;
            }
        }

        void drop(int kind) {
            if (count > 0) {
                count--;
            }
            if (hasArea(kind) && areaCount > 0) {
                areaCount--;
            }
        }

        int topKind() {
            return isWithin(count, 1, ROOM) ? kinds[count - 1] : OPEN_WINDOW;
        }

        int topId() {
            return isWithin(count, 1, ROOM) ? ids[count - 1] : 0;
        }

        Area area() {
            Area area = isWithin(areaCount, 1, ROOM) ? areas[areaCount - 1] : spareArea;
            return area == null ? spareArea : area;
        }

        int idOf(int label) {
            int id = 31 * topId() + 1 + label;
            return id == 0 ? 1 : id;
        }
    }

    /** What is active, hovered, held, and has the focus; 0 is none. */
    private static final class Attention {
        int active;
        int hoveredItem;
        int focus;
        int held;
        int firstItem;
        boolean activeTold;
        boolean focusTold;
        boolean focusBehaved;
        boolean tabGiven;

        void startFrame() {
            hoveredItem = 0;
            firstItem = 0;
            activeTold = false;
            focusTold = false;
            focusBehaved = false;
            tabGiven = false;
        }

        void forgetAll() {
            startFrame();
            active = 0;
            giveFocus(0);
        }

        void giveFocus(int id) {
            if (focus != id) {
                focus = id;
                held = 0;
            }
        }

        // Asked for behind what an item did: what it got by that counts as told, too.
        void noteTold(int id) {
            activeTold |= active == id;
            focusTold |= focus == id;
        }

        boolean behave(int id, boolean over, Input input) {
            boolean hovered = over && hoveredItem == 0 && (active == 0 || active == id);
            if (hovered) {
                hoveredItem = id;
            }
            if (firstItem == 0) {
                firstItem = id;
            }
            takeTab(id, input);
            if (hovered && input.pressedHere && active == 0) {
                active = id;
                giveFocus(id);
            }
            boolean clicked = false;
            if (active == id && input.releasedHere) {
                active = 0;
                clicked = hovered;
            }
            clicked |= takeEnter(id, input);
            focusBehaved |= focus == id;
            noteTold(id);
            return clicked;
        }

        void takeTab(int id, Input input) {
            if (input.isDownHere(TAB) && focusBehaved && !tabGiven && focus != id) {
                giveFocus(id);
                tabGiven = true;
            }
        }

        boolean takeEnter(int id, Input input) {
            if (focus != id) {
                return false;
            }
            if (input.isDownHere(ENTER)) {
                held = id;
            }
            if (held != id || !input.isUpHere(ENTER)) {
                return false;
            }
            held = 0;
            return true;
        }

        void finishFrame(Input input) {
            if (input.isDownHere(TAB) && !tabGiven) {
                giveFocus(firstItem);
                focusTold = true;
            }
            if (!activeTold) {
                active = 0;
            }
            if (!focusTold) {
                giveFocus(0);
            }
        }
    }

    /** The numbers and texts that are kept by ID. */
    private static final class Store {
        static final int ROOM = 40;
        static final int LETTERS = 12;

        final int[] ids = new int[ROOM];
        final int[] numbers = new int[ROOM];
        final int[] lengths = new int[ROOM];
        final int[] carets = new int[ROOM];
        final int[] letters = new int[ROOM * LETTERS];
        int count;

        int find(int id) {
            for (int k = 0; k < count && k < ROOM; k++) {
                if (ids[k] == id) {
                    return k;
                }
            }
            return NONE;
        }

        int claim(int id) {
            int slot = find(id);
            if (slot != NONE || count >= ROOM) {
                return slot;
            }
            ids[count] = id;
            count++;
            return count - 1;
        }

        static boolean isSlot(int slot) {
            return isWithin(slot, 0, ROOM - 1);
        }

        int numberOf(int id) {
            int slot = find(id);
            return isSlot(slot) ? numbers[slot] : 0;
        }

        void setNumber(int id, int number) {
            int slot = number == 0 ? find(id) : claim(id);
            if (isSlot(slot)) {
                numbers[slot] = number;
            }
        }

        void toggle(int id) {
            setNumber(id, numberOf(id) == 0 ? 1 : 0);
        }

        int lengthOf(int id) {
            int slot = find(id);
            return isSlot(slot) ? lengths[slot] : 0;
        }

        int caretOf(int id) {
            int slot = find(id);
            return isSlot(slot) ? carets[slot] : NONE;
        }

        int letterOf(int id, int k) {
            int slot = find(id);
            if (!isSlot(slot) || !isWithin(k, 0, Math.min(lengths[slot], LETTERS) - 1)) {
                return NONE;
            }
            return letters[slot * LETTERS + k];
        }

        void edit(int id, Input input) {
            int slot = input.letterCount > 0 ? claim(id) : find(id);
            if (!isSlot(slot)) {
                return;
            }
            moveCaret(slot, input);
            if (input.isDownHere(BACK)) {
                takeLetterBack(slot);
            }
            for (int k = 0; k < input.letterCount && k < input.letters.length; k++) {
                insert(slot, input.letters[k]);
            }
        }

        void moveCaret(int slot, Input input) {
            if (input.isDownHere(HOME)) {
                carets[slot] = 0;
            }
            if (input.isDownHere(LEFT) && carets[slot] > 0) {
                carets[slot]--;
            }
            if (input.isDownHere(RIGHT) && carets[slot] < lengths[slot]) {
                carets[slot]++;
            }
        }

        void takeLetterBack(int slot) {
            int caret = carets[slot];
            int length = lengths[slot];
            if (!isWithin(length, 1, LETTERS) || !isWithin(caret, 1, length)) {
                return;
            }
            int at = slot * LETTERS + caret;
            System.arraycopy(letters, at, letters, at - 1, length - caret);
            lengths[slot]--;
            carets[slot]--;
        }

        void insert(int slot, int letter) {
            int caret = carets[slot];
            int length = lengths[slot];
            if (!isWithin(length, 0, LETTERS - 1) || !isWithin(caret, 0, length)) {
                return;
            }
            int at = slot * LETTERS + caret;
            System.arraycopy(letters, at, letters, at + 1, length - caret);
            letters[at] = letter;
            lengths[slot]++;
            carets[slot]++;
        }
    }

    /** Quads and commands: of the frame that is told, or of the drawing. */
    private static final class Sketch {
        static final int QUAD = 6;
        static final int COMMAND = 8;
        static final int TEXTURE = 4;
        static final int OFFSET = 5;
        static final int FIRST = 6;
        static final int COUNT = 7;
        static final int NEAR_VERTICES = 64;
        // More than 512 calls can draw, so that a run without end does not fill the room.
        static final int MOST_QUADS = 8192;

        int[] quadRow = new int[32 * QUAD];
        int[] commandRow = new int[32 * COMMAND];
        int quads;
        int commands;
        int listQuad;
        int listCommand;

        void clear() {
            quads = 0;
            commands = 0;
            startList();
        }

        void startList() {
            listQuad = quads;
            listCommand = commands;
        }

        void draw(Box box, int colour, int texture, Box clip) {
            if (!box.meets(clip) || quads >= MOST_QUADS) {
                return;
            }
            int before = (quads - listQuad) * 4;
            int offset = offsetFor(before);
            if (!fitsLast(offset, texture, clip)) {
                addCommand(offset, texture, clip);
            }
            addToLast();
            addQuad(box, colour, before - offset);
        }

        int lastPart(int what) {
            return commands > listCommand ? partAt((commands - 1) * COMMAND + what) : NONE;
        }

        int partAt(int at) {
            return isWithin(at, 0, commandRow.length - 1) ? commandRow[at] : NONE;
        }

        int offsetFor(int before) {
            int last = lastPart(OFFSET);
            return last != NONE && before - last < NEAR_VERTICES ? last : before;
        }

        boolean fitsLast(int offset, int texture, Box clip) {
            return lastPart(OFFSET) == offset && lastPart(TEXTURE) == texture
                && lastPart(0) == clip.left && lastPart(1) == clip.top
                && lastPart(2) == clip.right && lastPart(3) == clip.bottom;
        }

        void addCommand(int offset, int texture, Box clip) {
            commandRow = withRoom(commandRow, (commands + 1) * COMMAND);
            int at = commands * COMMAND;
            if (!isWithin(at, 0, commandRow.length - COMMAND)) {
                return;
            }
            commandRow[at] = clip.left;
            commandRow[at + 1] = clip.top;
            commandRow[at + 2] = clip.right;
            commandRow[at + 3] = clip.bottom;
            commandRow[at + TEXTURE] = texture;
            commandRow[at + OFFSET] = offset;
            commandRow[at + FIRST] = (quads - listQuad) * 6;
            commandRow[at + COUNT] = 0;
            commands++;
        }

        void addToLast() {
            int at = (commands - 1) * COMMAND + COUNT;
            if (isWithin(at, 0, commandRow.length - 1)) {
                commandRow[at] += 6;
            }
        }

        void addQuad(Box box, int colour, int base) {
            quadRow = withRoom(quadRow, (quads + 1) * QUAD);
            int at = quads * QUAD;
            if (!isWithin(at, 0, quadRow.length - QUAD)) {
                return;
            }
            quadRow[at] = box.left;
            quadRow[at + 1] = box.top;
            quadRow[at + 2] = box.right;
            quadRow[at + 3] = box.bottom;
            quadRow[at + 4] = colour;
            quadRow[at + 5] = base;
            quads++;
        }

        static int[] withRoom(int[] row, int length) {
            return length <= row.length ? row : Arrays.copyOf(row, Math.max(length, 2 * row.length));
        }

        void append(Sketch from, Pane pane) {
            int newQuads = pane.endQuad - pane.firstQuad;
            int newCommands = pane.endCommand - pane.firstCommand;
            if (!from.holds(pane) || newQuads < 0 || newCommands < 0) {
                return;
            }
            quadRow = withRoom(quadRow, (quads + newQuads) * QUAD);
            commandRow = withRoom(commandRow, (commands + newCommands) * COMMAND);
            System.arraycopy(from.quadRow, pane.firstQuad * QUAD, quadRow, quads * QUAD, newQuads * QUAD);
            System.arraycopy(from.commandRow, pane.firstCommand * COMMAND,
                commandRow, commands * COMMAND, newCommands * COMMAND);
            shiftCommands(newCommands);
            commands += newCommands;
            quads += newQuads;
        }

        boolean holds(Pane pane) {
            return pane.firstQuad >= 0 && pane.endQuad <= quads
                && pane.firstCommand >= 0 && pane.endCommand <= commands;
        }

        // A window counts from its own first vertex and index, the drawing from the first of all.
        void shiftCommands(int newCommands) {
            for (int k = commands; k < commands + newCommands; k++) {
                int at = k * COMMAND;
                if (isWithin(at, 0, commandRow.length - COMMAND)) {
                    commandRow[at + OFFSET] += quads * 4;
                    commandRow[at + FIRST] += quads * 6;
                }
            }
        }

        int commandPart(int k, int what) {
            if (!isWithin(k, 0, commands - 1) || !isWithin(what, 0, COMMAND - 1)) {
                return NONE;
            }
            return partAt(k * COMMAND + what);
        }

        int quadPart(int quad, int part, int otherwise) {
            int at = quad * QUAD + part;
            boolean there = isWithin(quad, 0, quads - 1) && isWithin(at, 0, quadRow.length - 1);
            return there ? quadRow[at] : otherwise;
        }

        int indexAt(int quad, int k) {
            int base = quadPart(quad, 5, NONE);
            return base == NONE || !isWithin(k, 0, CORNERS.length - 1) ? NONE : base + CORNERS[k];
        }

        int vertexPart(int quad, int corner, int what) {
            switch (what) {
                case 0: return quadPart(quad, corner == 1 || corner == 2 ? 2 : 0, NO_VERTEX);
                case 1: return quadPart(quad, corner >= 2 ? 3 : 1, NO_VERTEX);
                case 2: return quadPart(quad, 4, NO_VERTEX);
                default: return NO_VERTEX;
            }
        }
    }
}
