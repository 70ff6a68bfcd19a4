/** Promises 2 to 8: folder, file, copy, link, move, remove, hold. */
public final class FoldersAndFilesTest {
    public static void main(String[] args) {
        folder();
        file();
        fileLimits();
        copy();
        link();
        bodyLimits();
        move();
        remove();
        hold();
        Check.end();
    }

    private static void folder() {
        SameAgain x = new SameAgain();
        Check.due("folder", 1, () -> x.folder(0, 0));
        Check.due("greatest name", 2, () -> x.folder(0, 999));
        Check.due("same name elsewhere", 3, () -> x.folder(1, 0));
        Check.due("same name there", -1, () -> x.folder(0, 0));
        Check.due("name too small", -1, () -> x.folder(0, -1));
        Check.due("name too great", -1, () -> x.folder(0, 1000));
        Check.due("name far too small", -1, () -> x.folder(0, Integer.MIN_VALUE));
        Check.noSuch("folder in none", () -> x.folder(4, 1));
        Check.noSuch("folder in -1", () -> x.folder(-1, 1));
        Check.noSuch("no folder and no name", () -> x.folder(4, -1));
        Check.due("a file may have a folder's name", 0, () -> x.file(0, 0, 0, 1));
        Check.due("a folder may have a file's name", 1, () -> x.file(0, 7, 0, 1));
        Check.due("a folder may have a file's name", 4, () -> x.folder(0, 7));
        for (int i = 5; i < 16; i++) {
            int n = i;
            Check.due("folder " + i, i, () -> x.folder(n - 1, 7));
        }
        Check.due("a seventeenth", -1, () -> x.folder(0, 500));
        Check.noSuch("a seventeenth in none", () -> x.folder(16, 500));
        Check.due("sixteen", 16, () -> x.count(0));
        Check.due("deepest file", 2, () -> x.file(15, 1, 0, 1));
        Check.due("folders above it", 13, () -> x.about(2, 8));
    }

    private static void file() {
        SameAgain x = new SameAgain();
        x.folder(0, 1);
        x.days(3);
        Check.due("file", 0, () -> x.file(0, 0, 0, 0));
        Check.due("greatest of all", 1, () -> x.file(1, 999, 7, 64));
        Check.due("same name elsewhere", 2, () -> x.file(1, 0, 0, 1));
        Check.due("same name there", -1, () -> x.file(1, 0, 0, 1));
        Check.due("no name -1", -1, () -> x.file(0, -1, 0, 1));
        Check.due("no name 1000", -1, () -> x.file(0, 1000, 0, 1));
        Check.due("no owner -1", -1, () -> x.file(0, 5, -1, 1));
        Check.due("no owner 8", -1, () -> x.file(0, 5, 8, 1));
        Check.due("no size -1", -1, () -> x.file(0, 5, 0, -1));
        Check.due("no size 65", -1, () -> x.file(0, 5, 0, 65));
        Check.noSuch("no folder 2", () -> x.file(2, 5, 0, 1));
        Check.noSuch("no folder -1", () -> x.file(-1, 5, 0, 1));
        Check.noSuch("no folder, no name", () -> x.file(2, -5, 9, 99));
        Check.due("nothing came by those", 3, () -> x.count(7));
        Check.due("its folder", 1, () -> x.about(1, 0));
        Check.due("its name", 999, () -> x.about(1, 1));
        Check.due("its body", 1, () -> x.about(1, 2));
        Check.due("its size", 64, () -> x.about(1, 3));
        Check.due("its owner", 7, () -> x.about(1, 4));
        Check.due("its day", 3, () -> x.about(1, 5));
        Check.due("not held", 0, () -> x.about(1, 7));
        for (int place = 0; place < 64; place++) {
            int p = place;
            Check.due("byte 0 at first at " + p, 0, () -> x.at(1, p));
        }
    }

    private static void fileLimits() {
        SameAgain x = new SameAgain();
        for (int i = 0; i < 60; i++) {
            int n = i;
            Check.due("file " + i, i, () -> x.file(0, n, 0, 4));
        }
        x.remove(0);
        Check.due("60 were, though one is gone", -1, () -> x.file(0, 100, 0, 4));
        Check.due("no copy then", -1, () -> x.copy(1, 0, 100));
        Check.due("no link then", -1, () -> x.link(1, 0, 100));
        Check.due("a gone one's name is free", true, () -> x.move(1, 0, 0));
        Check.noSuch("no folder is told first", () -> x.file(1, 100, 0, 4));
        Check.due("bodies ever", 60, () -> x.count(7));
    }

    private static void copy() {
        SameAgain x = new SameAgain();
        x.folder(0, 1);
        x.file(0, 1, 5, 7);
        x.write(0, 3, 0xF1020384);
        x.hold(0, true);
        x.days(9);
        Check.due("copy", 1, () -> x.copy(0, 1, 1));
        int[] about = {1, 1, 1, 7, 5, 9, 1, 0, 2};
        for (int i = 0; i < about.length; i++) {
            int what = i;
            Check.due("copy's " + i, about[i], () -> x.about(1, what));
        }
        int[] bytes = {0, 0, 0, 0xF1, 2, 3, 0x84};
        for (int i = 0; i < bytes.length; i++) {
            int place = i;
            Check.due("copy's byte " + i, bytes[i], () -> x.at(1, place));
        }
        Check.due("written alone", 0, () -> x.fill(1, 0, 7, 1));
        Check.due("the other's byte", 0, () -> x.at(0, 0));
        Check.due("the other's day", 0, () -> x.about(0, 5));
        Check.due("name is there", -1, () -> x.copy(0, 1, 1));
        Check.due("no name", -1, () -> x.copy(0, 1, 1000));
        Check.due("no name", -1, () -> x.copy(0, 1, -1));
        Check.noSuch("no file", () -> x.copy(2, 1, 2));
        Check.noSuch("no file -1", () -> x.copy(-1, 1, 2));
        Check.noSuch("no folder", () -> x.copy(0, 2, 2));
        Check.due("of size 0", 2, () -> x.file(0, 2, 0, 0));
        Check.due("its copy", 3, () -> x.copy(2, 0, 3));
        Check.due("its size", 0, () -> x.about(3, 3));
    }

    private static void link() {
        SameAgain x = new SameAgain();
        x.folder(0, 1);
        x.file(0, 1, 5, 8);
        x.hold(0, true);
        x.days(2);
        Check.due("link", 1, () -> x.link(0, 1, 4));
        int[] about = {1, 4, 0, 8, 5, 0, 2, 0, 2};
        for (int i = 0; i < about.length; i++) {
            int what = i;
            Check.due("link's " + i, about[i], () -> x.about(1, what));
        }
        Check.due("one body", 1, () -> x.count(2));
        Check.due("two files", 2, () -> x.count(1));
        Check.due("bytes once", 8, () -> x.count(3));
        Check.due("name is there", -1, () -> x.link(0, 1, 4));
        Check.due("own name is there", -1, () -> x.link(0, 0, 1));
        Check.due("no name", -1, () -> x.link(0, 1, -1));
        Check.due("no name", -1, () -> x.link(0, 1, 1000));
        Check.noSuch("no file", () -> x.link(2, 1, 5));
        Check.noSuch("no folder", () -> x.link(0, 2, 5));
        Check.noSuch("no folder -1", () -> x.link(0, -1, 5));
    }

    /** Makes bodies without making files: two files are merged and unmerged again and again. */
    static void useUpBodies(SameAgain x, int file, int bodies) {
        while (x.count(7) < bodies) {
            x.find();
            if (x.merge(x.groupOf(file)) != 1 || x.unmerge() != 1) {
                throw new IllegalStateException("merging does not go on");
            }
        }
    }

    private static void bodyLimits() {
        SameAgain x = new SameAgain();
        x.file(0, 1, 0, 4);
        x.file(0, 2, 0, 4);
        useUpBodies(x, 0, 99);
        Check.due("the hundredth", 2, () -> x.file(0, 3, 0, 5));
        Check.due("its body", 99, () -> x.about(2, 2));
        Check.due("no more by file", -1, () -> x.file(0, 4, 0, 4));
        Check.due("no more by copy", -1, () -> x.copy(0, 0, 4));
        Check.due("a link still", 3, () -> x.link(0, 0, 4));
        Check.due("bodies ever", 100, () -> x.count(7));
        Check.due("bodies there", 3, () -> x.count(2));
        Check.due("the last body is found, too", 1, () -> x.find());
        Check.due("two of them are read", 2, () -> x.reads());
        Check.due("it is alone", -1, () -> x.groupOf(2));
    }

    private static void move() {
        SameAgain x = new SameAgain();
        x.folder(0, 1);
        x.file(0, 1, 0, 4);
        x.file(1, 2, 0, 4);
        Check.due("itself is there", false, () -> x.move(0, 0, 1));
        Check.due("another one is there", false, () -> x.move(0, 1, 2));
        Check.due("no name", false, () -> x.move(0, 1, -1));
        Check.due("no name", false, () -> x.move(0, 1, 1000));
        Check.due("unmoved", 0, () -> x.about(0, 0));
        Check.due("unmoved", 1, () -> x.about(0, 1));
        Check.due("another folder", true, () -> x.move(0, 1, 1));
        Check.due("its folder", 1, () -> x.about(0, 0));
        Check.due("its name", 1, () -> x.about(0, 1));
        Check.due("its body", 0, () -> x.about(0, 2));
        Check.due("another name", true, () -> x.move(0, 1, 999));
        Check.due("its name", 999, () -> x.about(0, 1));
        x.hold(0, true);
        Check.due("held, and moved", true, () -> x.move(0, 0, 2));
        Check.due("held still", 1, () -> x.about(0, 7));
        Check.noSuch("no file", () -> x.move(2, 0, 5));
        Check.noSuch("no folder", () -> x.move(0, 2, 5));
        Check.noSuch("no folder, no name", () -> x.move(0, 2, -5));
    }

    private static void remove() {
        SameAgain x = new SameAgain();
        x.file(0, 1, 0, 4);
        x.link(0, 0, 2);
        x.link(0, 0, 3);
        x.file(0, 4, 0, 4);
        Check.due("two still", 2, () -> x.remove(1));
        Check.noSuch("is gone", () -> x.remove(1));
        Check.noSuch("is gone", () -> x.about(1, 2));
        Check.noSuch("is gone", () -> x.hold(1, true));
        Check.noSuch("is gone", () -> x.write(1, 0, 1));
        Check.noSuch("is gone", () -> x.fill(1, 0, 1, 1));
        Check.noSuch("is gone", () -> x.at(1, 0));
        Check.noSuch("is gone", () -> x.groupOf(1));
        Check.noSuch("is gone", () -> x.near(0, 1));
        Check.noSuch("is gone", () -> x.near(1, 0));
        Check.noSuch("is gone", () -> x.nearest(1, 0));
        Check.noSuch("is gone", () -> x.copy(1, 0, 9));
        Check.noSuch("is gone", () -> x.link(1, 0, 9));
        Check.noSuch("is gone", () -> x.move(1, 0, 9));
        Check.due("its name is free, its number isn't", 4, () -> x.file(0, 2, 0, 4));
        x.hold(0, true);
        Check.due("held", -1, () -> x.remove(0));
        Check.due("and there", 2, () -> x.about(0, 6));
        x.hold(0, false);
        Check.due("one still", 1, () -> x.remove(0));
        Check.due("none still", 0, () -> x.remove(2));
        Check.due("bodies there", 2, () -> x.count(2));
        Check.due("bodies ever", 3, () -> x.count(7));
        Check.due("freed by merging alone", 0, () -> x.count(4));
        Check.noSuch("never was", () -> x.remove(5));
        Check.noSuch("never was", () -> x.remove(-1));
        Check.noSuch("never was", () -> x.remove(60));
    }

    private static void hold() {
        SameAgain x = new SameAgain();
        x.file(0, 1, 0, 4);
        x.link(0, 0, 2);
        Check.due("was not", false, () -> x.hold(0, true));
        Check.due("was", true, () -> x.hold(0, true));
        Check.due("held", 1, () -> x.about(0, 7));
        Check.due("the other name isn't", 0, () -> x.about(1, 7));
        Check.due("was still", true, () -> x.hold(0, false));
        Check.due("was not", false, () -> x.hold(0, false));
        Check.due("not held", 0, () -> x.about(0, 7));
        Check.noSuch("no file", () -> x.hold(2, true));
        Check.noSuch("no file -1", () -> x.hold(-1, false));
    }
}
