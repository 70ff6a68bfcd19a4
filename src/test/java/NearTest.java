/** Promises 17 to 19: near, nearest, differ. */
public final class NearTest {
    public static void main(String[] args) {
        near();
        nearest();
        nearestOfSmallOnes();
        differ();
        differDeeper();
        Check.end();
    }

    private static void near() {
        SameAgain x = new SameAgain();
        x.file(0, 0, 0, 8);
        x.file(0, 1, 0, 6);
        x.file(0, 2, 0, 3);
        x.file(0, 3, 0, 0);
        x.file(0, 4, 0, 4);
        x.file(0, 5, 0, 64);
        Check.due("one piece each", 1000, () -> x.near(0, 1));
        Check.due("itself", 1000, () -> x.near(0, 0));
        Check.due("other size", 1000, () -> x.near(5, 4));
        Check.due("no pieces", 0, () -> x.near(2, 3));
        Check.due("no pieces, itself", 0, () -> x.near(2, 2));
        Check.due("pieces of one alone", 0, () -> x.near(2, 0));
        Check.due("pieces of one alone", 0, () -> x.near(0, 3));
        x.fill(1, 5, 6, 1);
        Check.due("0000 of 0000, 0001", 500, () -> x.near(0, 1));
        Check.due("either way", 500, () -> x.near(1, 0));
        x.fill(0, 0, 1, 0x80);
        // 8000, 0000 beside 0000, 0001
        Check.due("cut down", 333, () -> x.near(0, 1));
        x.fill(4, 0, 4, 9);
        Check.due("none shared", 0, () -> x.near(0, 4));
        for (int i = 0; i < 64; i++) {
            x.fill(5, i, i + 1, i);
        }
        Check.due("itself, of 61 pieces", 1000, () -> x.near(5, 5));
        x.copy(5, 0, 6);
        x.fill(6, 63, 64, 0);
        Check.due("60 of 62", 967, () -> x.near(5, 6));
        x.fill(6, 32, 33, 0);
        Check.due("56 of 66", 848, () -> x.near(5, 6));
        x.file(0, 7, 0, 64);
        for (int i = 0; i < 64; i++) {
            x.fill(7, i, i + 1, 4 * (64 - i));
        }
        x.copy(7, 0, 8);
        Check.due("falling pieces, of high bytes too", 1000, () -> x.near(7, 8));
        x.fill(8, 0, 1, 1);
        Check.due("60 of 62 of them", 967, () -> x.near(7, 8));
        x.remove(8);
        x.remove(7);
        Check.noSuch("no file", () -> x.near(0, 7));
        Check.noSuch("no file", () -> x.near(7, 0));
        Check.noSuch("no file", () -> x.near(-1, 0));
    }

    private static void nearest() {
        SameAgain x = new SameAgain();
        x.file(0, 0, 0, 8);
        Check.due("no other", -1, () -> x.nearest(0, 0));
        x.link(0, 0, 1);
        Check.due("no other body", -1, () -> x.nearest(0, 0));
        for (int i = 2; i < 6; i++) {
            x.file(0, i, 0, 8);
        }
        x.fill(2, 0, 8, 1);
        x.fill(3, 7, 8, 1);
        x.fill(4, 7, 8, 2);
        x.fill(5, 4, 8, 3);
        Check.due("least of like ones", 3, () -> x.nearest(0, 500));
        Check.due("not so near", -1, () -> x.nearest(0, 501));
        Check.due("of a link", 3, () -> x.nearest(1, 0));
        x.copy(0, 0, 6);
        Check.due("alike", 6, () -> x.nearest(0, 1000));
        Check.due("least of linked ones", 0, () -> x.nearest(6, 1000));
        x.remove(0);
        Check.due("gone", 1, () -> x.nearest(6, 1000));
        Check.due("none shared", -1, () -> x.nearest(2, 1));
        Check.due("none shared, least 0", 1, () -> x.nearest(2, 0));
        Check.illegal("least -1", () -> x.nearest(1, -1));
        Check.illegal("least 1001", () -> x.nearest(1, 1001));
        Check.illegal("least far", () -> x.nearest(1, Integer.MIN_VALUE));
        Check.noSuch("no file", () -> x.nearest(0, 1));
        Check.noSuch("no file", () -> x.nearest(7, 1));
        Check.noSuch("no file, no least", () -> x.nearest(7, 1001));
    }

    private static void nearestOfSmallOnes() {
        SameAgain x = new SameAgain();
        x.file(0, 0, 0, 0);
        x.file(0, 1, 0, 3);
        x.file(0, 2, 0, 9);
        Check.due("no pieces, least 0", 1, () -> x.nearest(0, 0));
        Check.due("no pieces, least 1", -1, () -> x.nearest(0, 1));
        Check.due("no pieces, least 0", 0, () -> x.nearest(2, 0));
    }

    private static void differ() {
        SameAgain x = new SameAgain();
        x.folder(0, 1);
        x.folder(0, 2);
        Check.due("empty ones", 0, () -> x.differ(1, 2));
        x.file(1, 0, 0, 8);
        Check.due("the first alone", 1, () -> x.differ(1, 2));
        Check.due("the second alone", 1, () -> x.differ(2, 1));
        x.file(2, 0, 3, 8);
        Check.due("alike, of another owner", 0, () -> x.differ(1, 2));
        x.fill(1, 7, 8, 1);
        Check.due("unlike at the end", 1, () -> x.differ(1, 2));
        x.fill(0, 7, 8, 1);
        Check.due("alike", 0, () -> x.differ(1, 2));
        x.file(1, 5, 0, 8);
        x.file(2, 5, 0, 9);
        Check.due("other size", 1, () -> x.differ(1, 2));
        x.remove(3);
        Check.due("gone", 1, () -> x.differ(1, 2));
        x.remove(2);
        Check.due("both gone", 0, () -> x.differ(1, 2));
        x.file(1, 6, 0, 0);
        x.file(2, 6, 0, 0);
        Check.due("empty files", 0, () -> x.differ(1, 2));
        x.folder(1, 6);
        Check.due("a folder that has a file's name", 1, () -> x.differ(1, 2));
        Check.due("the other way", 1, () -> x.differ(2, 1));
        x.file(3, 6, 0, 1);
        x.folder(3, 6);
        Check.due("what lies in one that is alone isn't counted", 1, () -> x.differ(1, 2));
        Check.noSuch("no folder", () -> x.differ(0, 5));
        Check.noSuch("no folder", () -> x.differ(5, 0));
        Check.noSuch("no folder", () -> x.differ(-1, 0));
    }

    private static void differDeeper() {
        SameAgain x = new SameAgain();
        x.folder(0, 1);
        x.folder(0, 2);
        x.folder(2, 7);
        x.folder(1, 7);
        x.folder(3, 8);
        x.folder(4, 8);
        x.folder(5, 9);
        x.folder(6, 10);
        x.file(5, 1, 0, 4);
        x.file(6, 1, 0, 5);
        x.file(3, 1, 0, 4);
        x.file(4, 2, 0, 4);
        // 3 and 4: names 1 and 2; 5 and 6: name 1, folders 9 and 10
        Check.due("deeper", 5, () -> x.differ(1, 2));
        Check.due("the other way", 5, () -> x.differ(2, 1));
        Check.due("itself", 0, () -> x.differ(0, 0));
        // 2 in 0, 7 in 1, 1 in 0
        Check.due("with one inside it", 3, () -> x.differ(0, 1));
        Check.due("the other way", 3, () -> x.differ(1, 0));
        SameAgain y = new SameAgain();
        for (int i = 0; i < 15; i++) {
            y.folder(i, 4);
        }
        Check.due("a chain beside a shorter one", 1, () -> y.differ(0, 1));
        Check.due("a chain beside its end", 1, () -> y.differ(15, 0));
        y.file(14, 4, 0, 1);
        // 13 beside 14 and 14 beside 15, the folder 15
        Check.due("a file near the end", 3, () -> y.differ(0, 1));
        y.file(15, 4, 0, 1);
        // 14 beside 15 alike, 13 beside 14, the folder 15
        Check.due("two files at the end", 2, () -> y.differ(0, 1));
    }
}
