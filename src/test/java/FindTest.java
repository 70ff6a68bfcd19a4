/** Promises 13 to 16: find, reads, groupOf, member. */
public final class FindTest {
    public static void main(String[] args) {
        nothing();
        lengths();
        parting();
        numbering();
        standing();
        gone();
        Check.end();
    }

    private static void nothing() {
        SameAgain unfound = new SameAgain();
        unfound.file(0, 1, 0, 8);
        Check.due("nothing was found yet", -1, () -> unfound.groupOf(0));
        SameAgain x = new SameAgain();
        Check.due("none", 0, () -> x.find());
        Check.due("nothing read", 0, () -> x.reads());
        x.file(0, 1, 0, 0);
        x.file(0, 2, 0, 0);
        x.file(0, 3, 0, 8);
        x.file(0, 4, 0, 9);
        x.link(2, 0, 5);
        Check.due("empty, alone, linked", 0, () -> x.find());
        Check.due("nothing read", 0, () -> x.reads());
        Check.due("no group", -1, () -> x.groupOf(0));
        Check.due("no group", -1, () -> x.groupOf(2));
        Check.noSuch("no group", () -> x.member(0, -1));
        Check.noSuch("no group", () -> x.member(-1, -1));
    }

    private static void lengths() {
        int[] sizes = {1, 7, 8, 9, 16, 17, 63, 64};
        int[] blocks = {1, 1, 1, 2, 2, 3, 8, 8};
        for (int i = 0; i < sizes.length; i++) {
            SameAgain x = new SameAgain();
            x.file(0, 1, 0, sizes[i]);
            x.file(0, 2, 1, sizes[i]);
            Check.due("alike of size " + sizes[i], 1, () -> x.find());
            Check.due("reads of size " + sizes[i], 2 * blocks[i], () -> x.reads());
            x.fill(1, sizes[i] - 1, sizes[i], 1);
            Check.due("unlike at the end, of size " + sizes[i], 0, () -> x.find());
            Check.due("reads then, of size " + sizes[i], 2 * blocks[i], () -> x.reads());
            x.fill(1, 0, 1, 1);
            Check.due("unlike at the start, of size " + sizes[i], 0, () -> x.find());
            Check.due("one block each, of size " + sizes[i], 2, () -> x.reads());
        }
    }

    /** Seven of one size: parted 2, 2, 2, 1 by the first block; one pair by the second, one by the third. */
    private static void parting() {
        SameAgain x = new SameAgain();
        for (int i = 0; i < 7; i++) {
            x.file(0, i, 0, 20);
        }
        int[] first = {1, 2, 3, 1, 2, 3, 4};
        for (int i = 0; i < 7; i++) {
            x.fill(i, 7, 8, first[i]);
        }
        x.fill(3, 8, 9, 1);
        x.fill(4, 19, 20, 1);
        Check.due("one pair", 1, () -> x.find());
        Check.due("seven, six, four", 17, () -> x.reads());
        Check.due("first", 2, () -> x.member(0, 0));
        Check.due("second", 5, () -> x.member(0, 1));
        Check.due("how many", 2, () -> x.member(0, -1));
        Check.due("no group", -1, () -> x.groupOf(0));
        Check.due("no group", -1, () -> x.groupOf(4));
        Check.due("group", 0, () -> x.groupOf(5));
    }

    private static void numbering() {
        SameAgain x = new SameAgain();
        int[] sizes = {9, 30, 5, 30, 9, 5, 30};
        for (int i = 0; i < sizes.length; i++) {
            x.file(0, i, 0, sizes[i]);
        }
        x.fill(1, 0, 1, 1);
        x.link(4, 0, 20);
        Check.due("three", 3, () -> x.find());
        int[] groups = {0, -1, 1, 2, 0, 1, 2, 0};
        for (int i = 0; i < groups.length; i++) {
            int file = i;
            Check.due("group of " + i, groups[i], () -> x.groupOf(file));
        }
        Check.due("linked one, too", 3, () -> x.member(0, -1));
        Check.due("by number", 7, () -> x.member(0, 2));
        Check.noSuch("no fourth", () -> x.member(0, 3));
        Check.noSuch("no such", () -> x.member(0, -2));
        Check.noSuch("no such", () -> x.member(0, Integer.MIN_VALUE));
        Check.noSuch("no such", () -> x.member(0, Integer.MAX_VALUE));
        Check.noSuch("no such group", () -> x.member(3, -1));
        Check.noSuch("no such group", () -> x.member(3, 0));
        Check.noSuch("no file", () -> x.groupOf(8));
        Check.noSuch("no file", () -> x.groupOf(-1));
        // by bodies, not by files: the file of lesser number has the greater body
        SameAgain y = new SameAgain();
        y.file(0, 0, 0, 8);
        y.file(0, 1, 0, 4);
        y.file(0, 2, 0, 4);
        y.file(0, 3, 0, 8);
        y.find();
        y.merge(0);
        y.unmerge();
        y.remove(0);
        Check.due("two files of size 8 left alone", 1, () -> y.find());
        y.copy(3, 0, 9);
        Check.due("two groups", 2, () -> y.find());
        Check.due("least body first", 0, () -> y.groupOf(1));
        Check.due("then the greater", 1, () -> y.groupOf(3));
    }

    private static void standing() {
        SameAgain x = new SameAgain();
        for (int i = 0; i < 4; i++) {
            x.file(0, i, 0, 8);
        }
        x.find();
        Check.due("a copy isn't found", 4, () -> x.copy(0, 0, 10));
        Check.due("no group", -1, () -> x.groupOf(4));
        Check.due("a link is", 5, () -> x.link(0, 0, 11));
        Check.due("group", 0, () -> x.groupOf(5));
        Check.due("five now", 5, () -> x.member(0, -1));
        x.fill(1, 2, 2, 1);
        Check.due("nothing was written", 0, () -> x.groupOf(1));
        x.fill(1, 2, 3, 0);
        Check.due("written, though alike", -1, () -> x.groupOf(1));
        x.write(2, 0, 0);
        Check.due("written, though alike", -1, () -> x.groupOf(2));
        Check.due("three", 3, () -> x.member(0, -1));
        Check.due("last of them", 5, () -> x.member(0, 2));
        x.move(3, 0, 50);
        Check.due("moved, and in it", 0, () -> x.groupOf(3));
        x.write(5, 0, 0);
        Check.due("written through another name", -1, () -> x.groupOf(0));
        Check.due("one left", 1, () -> x.member(0, -1));
        x.write(3, 0, 0);
        Check.due("none left", 0, () -> x.member(0, -1));
        Check.noSuch("none left", () -> x.member(0, 0));
        Check.due("reads stand", 4, () -> x.reads());
        Check.due("found anew", 1, () -> x.find());
        Check.due("reads anew", 5, () -> x.reads());
        Check.due("six", 6, () -> x.member(0, -1));
    }

    private static void gone() {
        SameAgain x = new SameAgain();
        x.file(0, 1, 0, 8);
        x.file(0, 2, 0, 8);
        x.file(0, 3, 0, 8);
        x.link(0, 0, 4);
        x.find();
        x.remove(0);
        Check.due("another name has it", 0, () -> x.groupOf(3));
        Check.due("three", 3, () -> x.member(0, -1));
        Check.due("first now", 1, () -> x.member(0, 0));
        x.remove(3);
        x.remove(1);
        Check.due("one", 1, () -> x.member(0, -1));
        Check.due("a gone body isn't read", 0, () -> x.find());
        Check.due("reads", 0, () -> x.reads());
        Check.due("alone", -1, () -> x.groupOf(2));
        Check.noSuch("no group any more", () -> x.member(0, -1));
    }
}
