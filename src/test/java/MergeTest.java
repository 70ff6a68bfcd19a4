/** Promises 24 and 25: merge, unmerge. */
public final class MergeTest {
    public static void main(String[] args) {
        merge();
        owners();
        keptIsLast();
        freedOnce();
        none();
        unmerge();
        changedSince();
        inTurn();
        latestTwenty();
        sixtyFiles();
        tooManyBodies();
        Check.end();
    }

    private static void about(String what, SameAgain x, int file, int which, int due) {
        Check.due(what, due, () -> x.about(file, which));
    }

    private static void merge() {
        SameAgain x = new SameAgain();
        for (int i = 0; i < 4; i++) {
            x.file(0, i, 0, 12);
        }
        x.link(0, 0, 10);
        x.link(1, 0, 11);
        x.hold(3, true);
        x.days(3);
        x.find();
        // bodies 0 (files 0, 4), 1 (files 1, 5), 2, 3 (held)
        Check.due("three got it", 3, () -> x.merge(0));
        about("kept", x, 0, 2, 0);
        about("got it", x, 1, 2, 0);
        about("got it", x, 2, 2, 0);
        about("held", x, 3, 2, 3);
        about("had it", x, 4, 2, 0);
        about("got it", x, 5, 2, 0);
        about("names", x, 0, 6, 5);
        about("day stays", x, 1, 5, 0);
        Check.due("freed", 24, () -> x.count(4));
        Check.due("a merging", 1, () -> x.count(5));
        Check.due("bodies there", 2, () -> x.count(2));
        Check.due("bodies ever", 4, () -> x.count(7));
        Check.due("the group stands", 0, () -> x.groupOf(5));
        Check.due("all are in it", 6, () -> x.member(0, -1));
        Check.due("again: none", 0, () -> x.merge(0));
        Check.due("no merging more", 1, () -> x.count(5));
        x.hold(3, false);
        Check.due("held no more", 1, () -> x.merge(0));
        Check.due("freed", 36, () -> x.count(4));
        Check.due("mergings", 2, () -> x.count(5));
        Check.noSuch("no such group", () -> x.merge(1));
        Check.noSuch("no such group", () -> x.merge(-1));
    }

    private static void owners() {
        SameAgain x = new SameAgain();
        for (int i = 0; i < 4; i++) {
            x.file(0, i, i % 3, 8);
        }
        x.find();
        x.leave(1, 0);
        x.leave(0, 2);
        // kept is file 0 of owner 0: leave from 2, none from 1
        Check.due("own and with leave", 2, () -> x.merge(0));
        about("no leave", x, 1, 2, 1);
        about("leave", x, 2, 2, 0);
        about("owner now", x, 2, 4, 0);
        about("own", x, 3, 2, 0);
        Check.due("back", 2, () -> x.unmerge());
        about("owner that it had", x, 2, 4, 2);
        about("owner that it had", x, 3, 4, 0);
        SameAgain y = new SameAgain();
        y.file(0, 0, 0, 8);
        y.file(0, 1, 1, 8);
        y.find();
        y.leave(1, 0);
        Check.due("leave the other way", 0, () -> y.merge(0));
        Check.due("no merging", 0, () -> y.count(5));
        y.hold(0, true);
        y.hold(1, true);
        y.leave(0, 1);
        Check.due("held", 0, () -> y.merge(0));
        y.hold(1, false);
        Check.due("the kept one may be held", 1, () -> y.merge(0));
    }

    private static void keptIsLast() {
        SameAgain x = new SameAgain();
        for (int i = 0; i < 3; i++) {
            x.file(0, 9 - i, 0, 8);
        }
        x.find();
        x.wish(4, 0);
        Check.due("all before it", 2, () -> x.merge(0));
        about("the first", x, 0, 2, 2);
        about("the second", x, 1, 2, 2);
        Check.due("back", 2, () -> x.unmerge());
        about("the first", x, 0, 2, 3);
        about("the second", x, 1, 2, 4);
        about("the kept one", x, 2, 6, 1);
    }

    private static void freedOnce() {
        SameAgain x = new SameAgain();
        x.file(0, 0, 0, 10);
        x.file(0, 1, 0, 10);
        x.link(1, 0, 2);
        x.link(1, 0, 3);
        x.find();
        x.hold(2, true);
        Check.due("two of three", 2, () -> x.merge(0));
        Check.due("one has it still", 0, () -> x.count(4));
        x.hold(2, false);
        Check.due("the third", 1, () -> x.merge(0));
        Check.due("freed once", 10, () -> x.count(4));
        Check.due("back", 1, () -> x.unmerge());
        Check.due("freed in all stands", 10, () -> x.count(4));
        Check.due("bytes there", 20, () -> x.count(3));
    }

    private static void none() {
        SameAgain x = new SameAgain();
        Check.noSuch("nothing was found", () -> x.merge(0));
        x.file(0, 0, 0, 8);
        x.file(0, 1, 0, 8);
        x.find();
        x.remove(0);
        Check.due("one left", 0, () -> x.merge(0));
        x.remove(1);
        Check.due("none left", 0, () -> x.merge(0));
        Check.due("no merging", -1, () -> x.unmerge());
    }

    private static void unmerge() {
        SameAgain x = new SameAgain();
        x.file(0, 0, 0, 8);
        x.file(0, 1, 3, 8);
        x.file(0, 2, 4, 8);
        x.link(2, 0, 3);
        x.leave(0, 3);
        x.leave(0, 4);
        x.find();
        x.days(1);
        Check.due("three", 3, () -> x.merge(0));
        x.days(1);
        Check.due("three others", 3, () -> x.write(2, 4, 0x01020384));
        x.days(1);
        Check.due("back", 3, () -> x.unmerge());
        about("kept", x, 0, 2, 0);
        about("kept's names", x, 0, 6, 1);
        for (int i = 1; i < 4; i++) {
            about("new body", x, i, 2, i + 2);
            about("own", x, i, 6, 1);
            about("size", x, i, 3, 8);
            about("day", x, i, 5, 2);
            about("owner", x, i, 4, i == 1 ? 3 : 4);
            int file = i;
            Check.due("byte now", 0x84, () -> x.at(file, 7));
            Check.due("byte now", 0, () -> x.at(file, 3));
            Check.due("no group", -1, () -> x.groupOf(file));
        }
        Check.due("written alone", 0, () -> x.fill(1, 0, 8, 5));
        Check.due("kept's bytes", 0, () -> x.at(0, 0));
        Check.due("no merging", 0, () -> x.count(5));
        Check.due("none more", -1, () -> x.unmerge());
    }

    private static void changedSince() {
        SameAgain x = new SameAgain();
        x.folder(0, 1);
        for (int i = 0; i < 5; i++) {
            x.file(0, i, 0, 8);
        }
        x.find();
        x.merge(0);
        x.remove(1);
        x.move(2, 1, 77);
        x.hold(3, true);
        x.link(3, 1, 5);
        x.remove(0);
        // 2, 3, 4 have body 0 still, and the link 5, which did not get it by merging
        Check.due("three of four", 3, () -> x.unmerge());
        about("new body", x, 2, 2, 5);
        about("held, too", x, 3, 2, 6);
        about("held still", x, 3, 7, 1);
        about("new body", x, 4, 2, 7);
        about("the link's", x, 5, 2, 0);
        about("its only name", x, 5, 6, 1);
        about("moved still", x, 2, 1, 77);
        SameAgain y = new SameAgain();
        y.file(0, 0, 0, 8);
        y.file(0, 1, 0, 8);
        y.find();
        y.merge(0);
        y.remove(1);
        Check.due("none has it still", 0, () -> y.unmerge());
        Check.due("and the merging goes", 0, () -> y.count(5));
        SameAgain z = new SameAgain();
        z.file(0, 0, 0, 8);
        z.file(0, 1, 0, 8);
        z.find();
        z.merge(0);
        z.remove(0);
        Check.due("the kept one is gone", 1, () -> z.unmerge());
        Check.due("its body then, too", 1, () -> z.count(2));
        Check.due("bytes", 8, () -> z.count(3));
    }

    private static void inTurn() {
        SameAgain x = new SameAgain();
        for (int i = 0; i < 4; i++) {
            x.file(0, i, 0, 8);
        }
        x.fill(2, 0, 8, 1);
        x.fill(3, 0, 8, 1);
        x.find();
        x.merge(0);
        x.merge(1);
        // bodies 0 (files 0, 1) and 2 (files 2, 3); then all alike, and 3 are merged into body 0
        x.fill(0, 0, 8, 1);
        x.find();
        Check.due("two more", 2, () -> x.merge(0));
        Check.due("mergings", 3, () -> x.count(5));
        Check.due("the latest", 2, () -> x.unmerge());
        about("new body", x, 2, 2, 4);
        about("new body", x, 3, 2, 5);
        Check.due("the second: another body since", 0, () -> x.unmerge());
        Check.due("the first", 1, () -> x.unmerge());
        about("new body", x, 1, 2, 6);
        Check.due("none more", -1, () -> x.unmerge());
    }

    private static void latestTwenty() {
        SameAgain x = new SameAgain();
        for (int i = 0; i < 23; i++) {
            x.file(0, i, 0, 8);
        }
        x.find();
        for (int i = 1; i < 23; i++) {
            x.hold(i, true);
        }
        for (int i = 1; i < 23; i++) {
            x.hold(i, false);
            Check.due("one by one", 1, () -> x.merge(0));
            int mergings = Math.min(i, 20);
            Check.due("mergings", mergings, () -> x.count(5));
        }
        Check.due("none left", 0, () -> x.merge(0));
        for (int i = 22; i >= 3; i--) {
            Check.due("back", 1, () -> x.unmerge());
            about("this one", x, i, 6, 1);
            int left = i - 3;
            Check.due("mergings left", left, () -> x.count(5));
        }
        Check.due("the oldest aren't kept", -1, () -> x.unmerge());
        about("three have it", x, 0, 6, 3);
    }

    private static void sixtyFiles() {
        SameAgain x = new SameAgain();
        for (int i = 0; i < 20; i++) {
            x.file(0, i, 0, 8);
        }
        for (int i = 20; i < 60; i++) {
            x.link(1, 0, i);
        }
        x.find();
        Check.due("all but the first", 59, () -> x.merge(0));
        about("the last got it", x, 59, 2, 0);
        Check.due("freed", 152, () -> x.count(4));
        Check.due("back", 59, () -> x.unmerge());
        about("the last one's", x, 59, 2, 78);
        Check.due("bodies ever", 79, () -> x.count(7));
    }

    private static void tooManyBodies() {
        SameAgain x = new SameAgain();
        for (int i = 0; i < 2; i++) {
            x.file(0, i, 0, 4);
        }
        for (int i = 2; i < 5; i++) {
            x.file(0, i, 0, 5);
        }
        FoldersAndFilesTest.useUpBodies(x, 0, 99);
        x.find();
        x.merge(x.groupOf(2));
        Check.due("two would be too many", -1, () -> x.unmerge());
        Check.due("nothing changed", 1, () -> x.count(5));
        Check.due("nothing changed", 99, () -> x.count(7));
        about("nothing changed", x, 2, 6, 3);
        x.remove(4);
        Check.due("one isn't", 1, () -> x.unmerge());
        Check.due("a hundred", 100, () -> x.count(7));
        x.merge(x.groupOf(0));
        Check.due("one is too many", -1, () -> x.unmerge());
        x.remove(1);
        Check.due("none isn't", 0, () -> x.unmerge());
        Check.due("no merging", 0, () -> x.count(5));
    }
}
