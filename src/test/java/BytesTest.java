/** Promises 9 to 12: write, fill, at, about. */
public final class BytesTest {
    public static void main(String[] args) {
        write();
        fill();
        at();
        about();
        Check.end();
    }

    private static void bytes(String what, SameAgain x, int file, int... due) {
        for (int i = 0; i < due.length; i++) {
            int place = i;
            Check.due(what + ", byte " + i, due[i], () -> x.at(file, place));
        }
    }

    private static void write() {
        SameAgain x = new SameAgain();
        x.file(0, 1, 0, 9);
        x.file(0, 2, 0, 4);
        x.file(0, 3, 0, 3);
        x.file(0, 4, 0, 0);
        x.days(4);
        Check.due("write", 0, () -> x.write(0, 5, 0x81FF0203));
        bytes("written", x, 0, 0, 0, 0, 0, 0, 0x81, 0xFF, 2, 3);
        Check.due("write over it", 0, () -> x.write(0, 3, -2));
        bytes("written over", x, 0, 0, 0, 0, 255, 255, 255, 254, 2, 3);
        Check.due("day", 4, () -> x.about(0, 5));
        Check.due("the other's day", 0, () -> x.about(1, 5));
        x.link(0, 0, 5);
        x.link(0, 0, 6);
        Check.due("two others have it", 2, () -> x.write(5, 0, 0x01020304));
        bytes("through another name", x, 0, 1, 2, 3, 4, 255, 255, 254, 2, 3);
        x.remove(4);
        Check.due("one other has it", 1, () -> x.write(0, 0, 0));
        Check.due("all of it", 0, () -> x.write(1, 0, 7));
        Check.illegal("over the end", () -> x.write(0, 6, 1));
        Check.illegal("before the start", () -> x.write(0, -1, 1));
        Check.illegal("over the end", () -> x.write(1, 1, 1));
        Check.illegal("too small", () -> x.write(2, 0, 1));
        Check.illegal("too small", () -> x.write(2, -1, 1));
        Check.illegal("empty", () -> x.write(3, 0, 1));
        Check.illegal("empty", () -> x.write(3, -4, 1));
        Check.illegal("far over the end", () -> x.write(0, Integer.MAX_VALUE, 1));
        Check.illegal("far before the start", () -> x.write(0, Integer.MIN_VALUE, 1));
        Check.due("nothing came by those", 0, () -> x.about(2, 5));
        Check.noSuch("no file", () -> x.write(6, 0, 1));
        Check.noSuch("no file, no place", () -> x.write(-1, -1, 1));
    }

    private static void fill() {
        SameAgain x = new SameAgain();
        x.file(0, 1, 0, 6);
        x.link(0, 0, 2);
        x.days(2);
        Check.due("nothing", 1, () -> x.fill(0, 3, 3, 9));
        Check.due("nothing at the end", 1, () -> x.fill(0, 6, 6, 9));
        Check.due("not written", 0, () -> x.about(0, 5));
        Check.due("some", 1, () -> x.fill(0, 1, 3, 0x1F0));
        bytes("lowest bits", x, 1, 0, 0xF0, 0xF0, 0, 0, 0);
        Check.due("written", 2, () -> x.about(1, 5));
        x.remove(1);
        Check.due("all", 0, () -> x.fill(0, 0, 6, -1));
        bytes("all", x, 0, 255, 255, 255, 255, 255, 255);
        Check.illegal("from is after to", () -> x.fill(0, 3, 2, 1));
        Check.illegal("from before the start", () -> x.fill(0, -1, 2, 1));
        Check.illegal("to over the end", () -> x.fill(0, 0, 7, 1));
        Check.illegal("both over the end", () -> x.fill(0, 7, 7, 1));
        Check.illegal("far", () -> x.fill(0, Integer.MIN_VALUE, Integer.MAX_VALUE, 1));
        bytes("unchanged", x, 0, 255, 255, 255, 255, 255, 255);
        x.file(0, 3, 0, 0);
        Check.due("empty", 0, () -> x.fill(2, 0, 0, 1));
        Check.illegal("empty", () -> x.fill(2, 0, 1, 1));
        Check.noSuch("no file", () -> x.fill(1, 0, 1, 1));
        Check.noSuch("no file, no place", () -> x.fill(9, 5, 1, 1));
    }

    private static void at() {
        SameAgain x = new SameAgain();
        x.file(0, 1, 0, 64);
        x.file(0, 2, 0, 0);
        x.file(0, 3, 0, 64);
        x.write(0, 60, 0x7F80FF00);
        Check.due("127", 0x7F, () -> x.at(0, 60));
        Check.due("128", 0x80, () -> x.at(0, 61));
        Check.due("255", 255, () -> x.at(0, 62));
        Check.due("0", 0, () -> x.at(0, 63));
        Check.due("the next body's first", 0, () -> x.at(2, 0));
        Check.noSuch("over the end", () -> x.at(0, 64));
        Check.noSuch("before the start", () -> x.at(0, -1));
        Check.noSuch("before the start of the third", () -> x.at(2, -1));
        Check.noSuch("far", () -> x.at(0, Integer.MAX_VALUE));
        Check.noSuch("empty", () -> x.at(1, 0));
        Check.noSuch("no file", () -> x.at(3, 0));
        Check.noSuch("no file", () -> x.at(-1, 0));
    }

    private static void about() {
        SameAgain x = new SameAgain();
        x.folder(0, 8);
        x.folder(1, 9);
        x.file(0, 6, 1, 3);
        x.days(7);
        x.file(2, 11, 6, 12);
        x.link(1, 0, 12);
        x.hold(1, true);
        int[] first = {0, 6, 0, 3, 1, 0, 1, 0, 1};
        int[] second = {2, 11, 1, 12, 6, 7, 2, 1, 3};
        int[] third = {0, 12, 1, 12, 6, 7, 2, 0, 1};
        for (int i = 0; i < 9; i++) {
            int what = i;
            Check.due("first " + i, first[i], () -> x.about(0, what));
            Check.due("second " + i, second[i], () -> x.about(1, what));
            Check.due("third " + i, third[i], () -> x.about(2, what));
        }
        Check.noSuch("another what", () -> x.about(0, 9));
        Check.noSuch("another what", () -> x.about(0, -1));
        Check.noSuch("no file", () -> x.about(3, 0));
        Check.noSuch("no file", () -> x.about(-1, 0));
    }
}
