/** The edges that promises 26 and 27 name: days, count. */
public final class EdgesOfDaysAndCountsTest {
    private static final int[] NO_DAYS = {-1, 1001, Scene.LEAST_INT, Scene.MOST_INT};
    private static final int[] NO_WHATS = {-1, 8, Scene.LEAST_INT, Scene.MOST_INT};

    public static void main(String[] args) {
        days();
        countWhats();
        countsOfNothing();
        countsOfMost();
        countOfGoneOnes();
        Check.end();
    }

    /** "IllegalArgumentException: n is not 0 to 1000." */
    private static void days() {
        Scene s = Scenes.files(2, 8).with(x -> x.find());
        for (int n : NO_DAYS) {
            s.refuses("days " + n, Scene.ILLEGAL, x -> x.days(n));
        }
        s.refuses("none go by", 0, x -> x.days(0));
        s.takes("one", 1, x -> x.days(1)).takes("the most at once", 1001, x -> x.days(1000));
        for (int n : NO_DAYS) {
            s.refuses("days then " + n, Scene.ILLEGAL, x -> x.days(n));
        }
        s.refuses("none go by then", 1001, x -> x.days(0)).tells("day", 1001, x -> x.count(6));
        s.tells("what came before is of its day", 0, x -> x.about(0, 5)).tells("and found", 0, x -> x.groupOf(0));
        s.with(x -> x.write(0, 0, 0)).tells("written now", 1001, x -> x.about(0, 5));
    }

    /** "NoSuchElementException: another what." */
    private static void countWhats() {
        Scene s = Scenes.files(3, 8).with(x -> x.find()).with(x -> x.merge(0)).with(x -> x.days(5));
        for (int what : NO_WHATS) {
            s.refuses("no what " + what, Scene.NO_SUCH, x -> x.count(what));
        }
        counts(s, "all", 1, 3, 1, 8, 16, 1, 5, 3);
    }

    private static void counts(Scene s, String what, int... due) {
        for (int i = 0; i < due.length; i++) {
            int which = i;
            s.tells(what + ": count(" + i + ")", due[i], x -> x.count(which));
        }
    }

    private static void countsOfNothing() {
        Scene s = new Scene();
        counts(s, "a new object", 1, 0, 0, 0, 0, 0, 0, 0);
        s.with(x -> x.file(0, 0, 0, 0));
        counts(s, "a file of no bytes", 1, 1, 1, 0, 0, 0, 0, 1);
        s.with(x -> x.remove(0));
        counts(s, "and gone", 1, 0, 0, 0, 0, 0, 0, 1);
    }

    /** 16 FOLDERS, 60 FILES of 64 bytes; 100 BODIES. */
    private static void countsOfMost() {
        Scene s = Scenes.chain(16);
        Scenes.addFiles(s, 0, 60, 64);
        counts(s, "most files", 16, 60, 60, 3840, 0, 0, 0, 60);
        s.with(x -> x.find()).with(x -> x.merge(0));
        counts(s, "merged", 16, 60, 1, 64, 3776, 1, 0, 60);
        counts(Scenes.bodiesEver(100), "most bodies", 1, 24, 24, 100, 304, 0, 0, 100);
    }

    /** "FILES that are there", "BODIES that are there", "bytes of these": not those that are GONE. */
    private static void countOfGoneOnes() {
        Scene s = Scenes.files(2, 8).with(x -> x.link(0, 0, 2)).with(x -> x.remove(0));
        counts(s, "a name gone", 1, 2, 2, 16, 0, 0, 0, 2);
        s.with(x -> x.remove(2));
        counts(s, "a body gone", 1, 1, 1, 8, 0, 0, 0, 2);
        s.with(x -> x.remove(1));
        counts(s, "all gone", 1, 0, 0, 0, 0, 0, 0, 2);
    }
}
