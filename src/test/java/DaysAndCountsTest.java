/** Promises 26 and 27: days, count. */
public final class DaysAndCountsTest {
    public static void main(String[] args) {
        days();
        count();
        Check.end();
    }

    private static void days() {
        SameAgain x = new SameAgain();
        Check.due("none", 0, () -> x.days(0));
        Check.due("some", 7, () -> x.days(7));
        Check.due("most", 1007, () -> x.days(1000));
        Check.illegal("too many", () -> x.days(1001));
        Check.illegal("back", () -> x.days(-1));
        Check.illegal("far back", () -> x.days(Integer.MIN_VALUE));
        Check.due("the day is", 1007, () -> x.count(6));
        Check.due("and stays", 1007, () -> x.days(0));
    }

    private static void counts(String what, SameAgain x, int... due) {
        for (int i = 0; i < due.length; i++) {
            int which = i;
            Check.due(what + ": count(" + i + ")", due[i], () -> x.count(which));
        }
    }

    private static void count() {
        SameAgain x = new SameAgain();
        x.folder(0, 1);
        x.folder(0, 2);
        x.file(0, 1, 0, 10);
        x.file(0, 2, 0, 10);
        x.file(1, 1, 0, 64);
        x.file(1, 2, 0, 0);
        x.link(2, 2, 3);
        x.days(11);
        counts("made", x, 3, 5, 4, 84, 0, 0, 11, 4);
        x.find();
        x.merge(0);
        counts("merged", x, 3, 5, 3, 74, 10, 1, 11, 4);
        x.remove(2);
        counts("a name removed", x, 3, 4, 3, 74, 10, 1, 11, 4);
        x.remove(4);
        counts("a body gone", x, 3, 3, 2, 10, 10, 1, 11, 4);
        x.unmerge();
        counts("unmerged", x, 3, 3, 3, 20, 10, 0, 11, 5);
        x.remove(3);
        counts("an empty body gone", x, 3, 2, 2, 20, 10, 0, 11, 5);
        Check.noSuch("another what", () -> x.count(8));
        Check.noSuch("another what", () -> x.count(-1));
    }
}
