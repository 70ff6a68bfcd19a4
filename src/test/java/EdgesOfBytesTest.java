/** The edges that promises 9 to 12 name: write, fill, at, about. */
public final class EdgesOfBytesTest {
    private static final int[] NO_WHATS = {-1, 9, Scene.LEAST_INT, Scene.MOST_INT};

    public static void main(String[] args) {
        writePlaces();
        writeOfEverySize();
        writeHighestFirst();
        writeOthers();
        writeBesideOthers();
        fillPlaces();
        fillOfEverySize();
        fillLowestBits();
        fillNothing();
        fillOthers();
        atPlaces();
        atBytes();
        aboutWhats();
        aboutFoldersAbove();
        aboutNames();
        Check.end();
    }

    private static void bytes(Scene s, String what, int file, int... due) {
        for (int i = 0; i < due.length; i++) {
            int place = i;
            s.takes(what + ", byte " + i, due[i], x -> x.at(file, place));
        }
    }

    /** "IllegalArgumentException: the four places are not all within its SIZE." */
    private static void writePlaces() {
        Scene s = Scenes.files(3, 64).with(x -> x.find()).with(x -> x.days(1));
        int[] no = {-1, -2, -3, -4, 61, 62, 63, 64, Scene.LEAST_INT, Scene.LEAST_INT + 3, Scene.MOST_INT - 3,
            Scene.MOST_INT};
        for (int place : no) {
            s.refuses("not within: " + place, Scene.ILLEGAL, x -> x.write(1, place, -1));
        }
        s.takes("the first place", 0, x -> x.write(1, 0, 0x01020304));
        s.takes("the last place", 0, x -> x.write(1, 60, 0x05060708));
        s.tells("the first byte", 1, x -> x.at(1, 0)).tells("the last byte", 8, x -> x.at(1, 63));
        s.tells("its day", 1, x -> x.about(1, 5));
        s.tells("its group", -1, x -> x.groupOf(1));
        for (int place : no) {
            s.refuses("no file, not within: " + place, Scene.NO_SUCH, x -> x.write(3, place, -1));
        }
    }

    private static void writeOfEverySize() {
        for (int size = 0; size <= 64; size++) {
            int n = size;
            Scene s = Scenes.files(1, n);
            s.refuses("behind the last, of " + n, Scene.ILLEGAL, x -> x.write(0, n - 3, -1));
            s.refuses("at its end, of " + n, Scene.ILLEGAL, x -> x.write(0, n, -1));
            Object due = n < 4 ? Scene.ILLEGAL : (Object) 0;
            s.takes("at the last, of " + n, due, x -> x.write(0, n - 4, -1));
            s.takes("at the first, of " + n, due, x -> x.write(0, 0, -1));
        }
    }

    /** "Four bytes are written from a place on, the highest first" */
    private static void writeHighestFirst() {
        Scene s = Scenes.files(1, 6);
        s.with(x -> x.write(0, 1, 0x01020304));
        bytes(s, "in order", 0, 0, 1, 2, 3, 4, 0);
        s.with(x -> x.write(0, 1, Scene.LEAST_INT));
        bytes(s, "the least", 0, 0, 128, 0, 0, 0, 0);
        s.with(x -> x.write(0, 1, Scene.MOST_INT));
        bytes(s, "the greatest", 0, 0, 127, 255, 255, 255, 0);
        s.with(x -> x.write(0, 1, -1));
        bytes(s, "-1", 0, 0, 255, 255, 255, 255, 0);
        s.with(x -> x.write(0, 1, 0));
        bytes(s, "0", 0, 0, 0, 0, 0, 0, 0);
        s.with(x -> x.write(0, 1, 0x80FF7F01));
        bytes(s, "high bits", 0, 0, 0x80, 0xFF, 0x7F, 1, 0);
    }

    /** "how many other FILES have the BODY": none, and as many as can be. */
    private static void writeOthers() {
        Scene s = Scenes.names(60, 4);
        s.takes("59 others", 59, x -> x.write(59, 0, 7)).tells("through another name", 7, x -> x.at(0, 3));
        Scene one = Scenes.files(2, 4);
        one.takes("none", 0, x -> x.write(0, 0, 7)).tells("another body isn't written", 0, x -> x.at(1, 3));
    }

    /** At its ends: neither the BODY before nor the one behind is written. */
    private static void writeBesideOthers() {
        Scene s = Scenes.files(3, 64).with(x -> x.write(1, 0, -1)).with(x -> x.write(1, 60, -1));
        s.takes("all but those", 0, x -> x.fill(1, 4, 60, 255));
        for (int i = 0; i < 64; i++) {
            int place = i;
            s.takes("before, byte " + i, 0, x -> x.at(0, place));
            s.takes("it, byte " + i, 255, x -> x.at(1, place));
            s.takes("behind, byte " + i, 0, x -> x.at(2, place));
        }
    }

    /** "IllegalArgumentException: not 0 <= from <= to <= SIZE." */
    private static void fillPlaces() {
        Scene s = Scenes.files(3, 6).with(x -> x.find()).with(x -> x.days(1));
        int[][] no = {{-1, 3}, {-1, -1}, {-1, 0}, {4, 3}, {1, 0}, {6, 5}, {0, 7}, {6, 7}, {7, 7}, {7, 6}, {7, 8},
            {0, -1}, {Scene.LEAST_INT, 0}, {Scene.LEAST_INT, Scene.LEAST_INT}, {0, Scene.LEAST_INT},
            {0, Scene.MOST_INT}, {Scene.MOST_INT, Scene.MOST_INT}, {Scene.MOST_INT, 0},
            {Scene.LEAST_INT, Scene.MOST_INT}, {Scene.MOST_INT, Scene.LEAST_INT}};
        for (int[] places : no) {
            String told = places[0] + " to " + places[1];
            s.refuses("not so: " + told, Scene.ILLEGAL, x -> x.fill(1, places[0], places[1], 9));
            s.refuses("no file, not so: " + told, Scene.NO_SUCH, x -> x.fill(3, places[0], places[1], 9));
        }
        s.takes("the first place alone", 0, x -> x.fill(1, 0, 1, 9));
        bytes(s, "the first", 1, 9, 0, 0, 0, 0, 0);
        s.takes("the last place alone", 0, x -> x.fill(1, 5, 6, 8));
        bytes(s, "the last", 1, 9, 0, 0, 0, 0, 8);
        s.takes("all between", 0, x -> x.fill(1, 1, 5, 7));
        bytes(s, "between", 1, 9, 7, 7, 7, 7, 8);
        bytes(s, "before it", 0, 0, 0, 0, 0, 0, 0);
        bytes(s, "behind it", 2, 0, 0, 0, 0, 0, 0);
        s.tells("its day", 1, x -> x.about(1, 5)).tells("its group", -1, x -> x.groupOf(1));
    }

    private static void fillOfEverySize() {
        for (int size = 0; size <= 64; size++) {
            int n = size;
            Scene s = Scenes.files(1, n);
            s.refuses("over the end, of " + n, Scene.ILLEGAL, x -> x.fill(0, 0, n + 1, 1));
            s.takes("all, of " + n, 0, x -> x.fill(0, 0, n, 1));
            if (n > 0) {
                s.tells("the first, of " + n, 1, x -> x.at(0, 0)).tells("the last, of " + n, 1, x -> x.at(0, n - 1));
            }
        }
    }

    /** "A byte (its lowest 8 bits)" */
    private static void fillLowestBits() {
        int[] told = {0, 1, 127, 128, 255, 256, 257, 511, -1, -128, -129, -256, Scene.LEAST_INT, Scene.MOST_INT,
            0x12345678};
        int[] due = {0, 1, 127, 128, 255, 0, 1, 255, 255, 128, 127, 0, 0, 255, 0x78};
        Scene s = Scenes.files(1, 3);
        for (int i = 0; i < told.length; i++) {
            int b = told[i];
            s.takes("fill with " + b, 0, x -> x.fill(0, 1, 2, b));
            bytes(s, "filled with " + b, 0, 0, due[i], 0);
        }
    }

    /** "(from and to alike: nothing is written.)": neither DAY nor GROUP changes. */
    private static void fillNothing() {
        Scene s = Scenes.files(2, 6).with(x -> x.link(0, 0, 2)).with(x -> x.file(0, 3, 0, 0));
        s.with(x -> x.find()).with(x -> x.days(1));
        for (int i = 0; i <= 6; i++) {
            int place = i;
            s.refuses("nothing at " + i, 1, x -> x.fill(0, place, place, 9));
            s.refuses("nothing, of the second, at " + i, 0, x -> x.fill(1, place, place, 9));
        }
        s.refuses("nothing in an empty one", 0, x -> x.fill(3, 0, 0, 9));
        s.tells("in its group", 0, x -> x.groupOf(0)).tells("of its day", 0, x -> x.about(0, 5));
        s.takes("one byte as it was is written, too", 1, x -> x.fill(0, 5, 6, 0));
        s.tells("in no group", -1, x -> x.groupOf(0)).tells("of this day", 1, x -> x.about(0, 5));
    }

    private static void fillOthers() {
        Scene s = Scenes.names(60, 4);
        s.takes("59 others", 59, x -> x.fill(59, 3, 4, 7)).tells("through another name", 7, x -> x.at(0, 3));
        s.refuses("59 others, nothing", 59, x -> x.fill(59, 4, 4, 7));
    }

    /** "NoSuchElementException: also no such place." */
    private static void atPlaces() {
        int[] sizes = {0, 1, 8, 63, 64};
        for (int size : sizes) {
            Scene s = Scenes.files(3, size).with(x -> x.fill(0, 0, size, 1)).with(x -> x.fill(1, 0, size, 2));
            int[] no = {-1, size, 64, Scene.LEAST_INT, Scene.MOST_INT};
            for (int place : no) {
                s.refuses("no place " + place + " of " + size, Scene.NO_SUCH, x -> x.at(1, place));
            }
            if (size > 0) {
                s.tells("first of " + size, 2, x -> x.at(1, 0)).tells("last of " + size, 2, x -> x.at(1, size - 1));
            }
        }
    }

    /** "The byte at a place (0 to 255)." */
    private static void atBytes() {
        Scene s = Scenes.files(4, 64);
        for (int i = 0; i < 256; i += 4) {
            int b = i;
            s.with(x -> x.write(b / 64, b % 64, b << 24 | b + 1 << 16 | b + 2 << 8 | b + 3));
        }
        for (int i = 0; i < 256; i++) {
            int b = i;
            s.takes("byte " + b, b, x -> x.at(b / 64, b % 64));
        }
    }

    /** "NoSuchElementException: another what." */
    private static void aboutWhats() {
        Scene s = Scenes.files(2, 8);
        for (int what : NO_WHATS) {
            s.refuses("no what " + what, Scene.NO_SUCH, x -> x.about(1, what));
        }
        int[] due = {0, 1, 1, 8, 0, 0, 1, 0, 1};
        for (int i = 0; i < due.length; i++) {
            int what = i;
            s.tells("what " + i, due[i], x -> x.about(1, what));
        }
    }

    /** "8 FOLDERS above it (1 in FOLDER 0)" */
    private static void aboutFoldersAbove() {
        Scene s = Scenes.chain(16).with(x -> x.file(0, 1, 0, 0));
        for (int i = 0; i < 16; i++) {
            int folder = i;
            s.with(x -> x.move(0, folder, 2)).tells("in folder " + i, i + 1, x -> x.about(0, 8));
        }
        Scene flat = new Scene();
        for (int i = 1; i < 16; i++) {
            int name = i;
            flat.with(x -> x.folder(0, name));
        }
        flat.with(x -> x.file(15, 1, 0, 0)).tells("in the last of sixteen", 2, x -> x.about(0, 8));
    }

    /** "6 how many FILES have the BODY": one, and as many as can be. */
    private static void aboutNames() {
        Scene one = Scenes.files(60, 1);
        one.tells("one of sixty bodies", 1, x -> x.about(0, 6)).tells("the last", 1, x -> x.about(59, 6));
        Scene s = Scenes.names(60, 1);
        s.tells("sixty", 60, x -> x.about(0, 6)).with(x -> x.remove(0)).tells("59", 59, x -> x.about(59, 6));
    }
}
