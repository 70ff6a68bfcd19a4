/** The edges that PIECES, NEAR, DIFFERENCES and promises 17 to 19 name: near, nearest, differ. */
public final class EdgesOfNearTest {
    private static final int[] NO_LEASTS = {-1, 1001, Scene.LEAST_INT, Scene.MOST_INT};

    public static void main(String[] args) {
        noPieces();
        onePiece();
        eachBitOfAPiece();
        mostPieces();
        oneAfterAnother();
        countedOnce();
        cutDown();
        nearestLeast();
        nearestExactly();
        nearestOfNone();
        nearestOfLikeOnes();
        nearestOfMost();
        differEmpty();
        differItself();
        differOneInTheOther();
        differInEachByte();
        differMost();
        differChains();
        differFoldersAlone();
        differNone();
        Check.end();
    }

    /** "0 if there are none": SIZES 0 to 3 have no PIECES. */
    private static void noPieces() {
        Scene s = new Scene();
        for (int i = 0; i < 8; i++) {
            int n = i;
            s.with(x -> x.file(0, n, 0, n));
        }
        for (int i = 0; i < 8; i++) {
            for (int j = 0; j < 8; j++) {
                int file = i;
                int other = j;
                int due = i < 4 || j < 4 ? 0 : 1000;
                s.takes("sizes " + i + " and " + j, due, x -> x.near(file, other));
            }
        }
        s.tells("no pieces", 0, x -> x.near(0, 0)).tells("of one alone", 0, x -> x.near(3, 4));
    }

    /** SIZE 4 is one PIECE, alike or not; the greatest and the least of them too. */
    private static void onePiece() {
        Scene s = Scenes.files(3, 4);
        s.tells("alike", 1000, x -> x.near(0, 1));
        for (int i = 0; i < 4; i++) {
            int place = i;
            s.with(x -> x.fill(1, place, place + 1, 1)).tells("unlike at " + i, 0, x -> x.near(0, 1));
            s.with(x -> x.fill(1, place, place + 1, 0));
        }
        s.with(x -> x.write(0, 0, -1)).with(x -> x.write(1, 0, Scene.LEAST_INT));
        s.with(x -> x.write(2, 0, Scene.MOST_INT));
        s.tells("-1 and the least", 0, x -> x.near(0, 1)).tells("the least and the most", 0, x -> x.near(1, 2));
        s.tells("each like itself", 1000, x -> x.near(1, 1));
    }

    /** All four bytes are asked, whole: PIECES that differ in the place of one bit are unlike. */
    private static void eachBitOfAPiece() {
        for (int i = 0; i < 32; i++) {
            int bit = 1 << i;
            Scene s = Scenes.files(2, 4).with(x -> x.write(0, 0, bit));
            for (int j = 0; j < 32; j++) {
                int other = 1 << j;
                s.with(x -> x.write(1, 0, other));
                s.takes("bits " + i + " and " + j, i == j ? 1000 : 0, x -> x.near(0, 1));
            }
        }
    }

    /** 61 PIECES of SIZE 64, all unlike. */
    private static void mostPieces() {
        Scene s = Scenes.files(1, 64);
        for (int i = 0; i < 64; i++) {
            int place = i;
            s.with(x -> x.fill(0, place, place + 1, 255 - 3 * place));
        }
        s.with(x -> x.copy(0, 0, 1)).tells("61 of 61", 1000, x -> x.near(0, 1));
        s.with(x -> x.fill(1, 63, 64, 1)).tells("60 of 62", 967, x -> x.near(0, 1));
        s.with(x -> x.fill(1, 0, 1, 1)).tells("59 of 63", 936, x -> x.near(1, 0));
        for (int i = 0; i < 64; i++) {
            int place = i;
            s.with(x -> x.fill(1, place, place + 1, 3 * place));
        }
        s.tells("none of 122", 0, x -> x.near(0, 1)).tells("either way", 0, x -> x.near(1, 0));
        s.with(x -> x.fill(0, 0, 64, 127)).tells("one, the greatest of all", 0, x -> x.near(0, 1));
        s.tells("either way", 0, x -> x.near(1, 0));
    }

    /** What one call asked is nothing to the next: a BODY of fewer PIECES after one of more. */
    private static void oneAfterAnother() {
        Scene s = Scenes.files(2, 5).with(x -> x.file(0, 2, 0, 4)).with(x -> x.file(0, 3, 0, 3));
        s.with(x -> x.fill(0, 4, 5, 1)).with(x -> x.fill(1, 4, 5, 1));
        s.takes("two of two", 1000, x -> x.near(0, 1)).takes("one of two", 500, x -> x.near(0, 2));
        s.takes("two of two again", 1000, x -> x.near(0, 1)).takes("none", 0, x -> x.near(0, 3));
        s.takes("two of two the other way", 1000, x -> x.near(1, 0)).takes("one of two", 500, x -> x.near(2, 0));
        s.takes("two of two again", 1000, x -> x.near(1, 0)).takes("none", 0, x -> x.near(3, 0));
        s.takes("none of none", 0, x -> x.near(3, 3));
    }

    /** "unlike ones counted once" */
    private static void countedOnce() {
        Scene s = Scenes.files(1, 64).with(x -> x.file(0, 1, 0, 4));
        s.tells("61 alike are one", 1000, x -> x.near(0, 1));
        s.with(x -> x.fill(0, 63, 64, 1)).tells("one of two", 500, x -> x.near(0, 1));
        s.with(x -> x.fill(0, 0, 1, 1)).tells("one of three", 333, x -> x.near(1, 0));
        // 1 0 0 0, 0 0 0 0, 0 0 0 1, 0 0 1 0, 0 1 0 0, and 1 0 0 0, 0 0 0 0 again
        s.with(x -> x.fill(0, 10, 11, 1)).tells("one of five", 200, x -> x.near(1, 0));
    }

    /** "divided by those that one or both have, cut down" */
    private static void cutDown() {
        Scene s = Scenes.files(1, 6).with(x -> x.file(0, 1, 0, 5));
        s.with(x -> x.write(0, 2, 0x01020304)).with(x -> x.write(1, 1, 0x01020304));
        // 0 0 1 2, 0 1 2 3, 1 2 3 4 beside the latter two
        s.tells("666.6", 666, x -> x.near(0, 1)).tells("either way", 666, x -> x.near(1, 0));
        s.with(x -> x.fill(1, 0, 1, 9)).tells("250", 250, x -> x.near(0, 1));
    }

    /** Promise 18: "at least so much (0 to 1000)", "IllegalArgumentException: least is not as told." */
    private static void nearestLeast() {
        Scene s = Scenes.files(2, 4);
        for (int least : NO_LEASTS) {
            s.refuses("least " + least, Scene.ILLEGAL, x -> x.nearest(0, least));
            s.refuses("no file, least " + least, Scene.NO_SUCH, x -> x.nearest(2, least));
        }
        s.tells("the greatest least", 1, x -> x.nearest(0, 1000)).tells("the least one", 1, x -> x.nearest(0, 0));
        s.with(x -> x.fill(1, 0, 1, 1));
        s.tells("near by nothing, least 0", 1, x -> x.nearest(0, 0));
        s.tells("near by nothing, least 1", -1, x -> x.nearest(0, 1));
        s.tells("near by nothing, least 1000", -1, x -> x.nearest(0, 1000));
        Scene alone = Scenes.files(1, 4);
        for (int least : NO_LEASTS) {
            alone.refuses("no other, least " + least, Scene.ILLEGAL, x -> x.nearest(0, least));
        }
    }

    /** "if it is NEAR by at least so much": so much, one less, one more. */
    private static void nearestExactly() {
        Scene s = Scenes.files(1, 64).with(x -> x.file(0, 1, 0, 64)).with(x -> x.fill(1, 63, 64, 1));
        s.tells("how near", 500, x -> x.near(0, 1));
        s.tells("499", 1, x -> x.nearest(0, 499)).tells("500", 1, x -> x.nearest(0, 500));
        s.tells("501", -1, x -> x.nearest(0, 501));
        s.with(x -> x.fill(1, 0, 1, 1)).tells("cut down", 333, x -> x.near(0, 1));
        s.tells("333", 1, x -> x.nearest(0, 333)).tells("334", -1, x -> x.nearest(0, 334));
    }

    /** "NONE": no FILE has another BODY. */
    private static void nearestOfNone() {
        Scene alone = Scenes.files(1, 8).tells("alone", -1, x -> x.nearest(0, 0));
        alone.with(x -> x.link(0, 0, 1)).tells("another name isn't another body", -1, x -> x.nearest(0, 0));
        alone.with(x -> x.copy(0, 0, 2)).tells("a copy is", 2, x -> x.nearest(0, 1000));
        alone.with(x -> x.remove(2)).tells("one that is gone isn't", -1, x -> x.nearest(0, 0));
        Scene empty = Scenes.files(2, 0);
        empty.tells("no pieces, least 0", 1, x -> x.nearest(0, 0)).tells("least 1", -1, x -> x.nearest(0, 1));
    }

    /** "of like ones the least": FILE, whatever BODY it has. */
    private static void nearestOfLikeOnes() {
        Scene s = Scenes.files(4, 4);
        s.tells("of the first", 1, x -> x.nearest(0, 0)).tells("of the last", 0, x -> x.nearest(3, 0));
        s.with(x -> x.link(3, 0, 4)).tells("of a link", 0, x -> x.nearest(4, 1000));
        s.with(x -> x.remove(0)).tells("the first is gone", 1, x -> x.nearest(3, 1000));
        s.with(x -> x.fill(1, 0, 4, 1)).tells("a nearer one behind", 2, x -> x.nearest(3, 0));
        s.tells("all are alike far", 2, x -> x.nearest(1, 0)).tells("none so near", -1, x -> x.nearest(1, 1));
    }

    private static void nearestOfMost() {
        Scene s = new Scene();
        for (int i = 0; i < 60; i++) {
            int n = i;
            s.with(x -> x.file(0, n, 0, 64)).with(x -> x.fill(n, 0, 64, Math.min(n, 58)));
        }
        s.tells("the last one", 59, x -> x.nearest(58, 1)).tells("of the last one", 58, x -> x.nearest(59, 1000));
        s.tells("none", -1, x -> x.nearest(0, 1)).tells("least 0", 1, x -> x.nearest(0, 0));
    }

    /** Promise 19: FOLDERS that are empty. */
    private static void differEmpty() {
        Scene s = new Scene().tells("the top alone", 0, x -> x.differ(0, 0));
        s.with(x -> x.folder(0, 1)).with(x -> x.folder(0, 2)).tells("both empty", 0, x -> x.differ(1, 2));
        s.with(x -> x.file(1, 0, 0, 0)).tells("one empty", 1, x -> x.differ(1, 2)).tells("1", 1, x -> x.differ(2, 1));
        s.with(x -> x.remove(0)).tells("its file is gone", 0, x -> x.differ(1, 2));
        s.with(x -> x.folder(1, 9)).tells("a folder", 1, x -> x.differ(1, 2)).tells("1", 1, x -> x.differ(2, 1));
        s.with(x -> x.folder(2, 9)).tells("empty in both", 0, x -> x.differ(1, 2));
        s.with(x -> x.file(1, 5, 0, 0)).with(x -> x.file(2, 5, 7, 0)).tells("empty files", 0, x -> x.differ(1, 2));
        s.with(x -> x.file(1, 6, 0, 0)).with(x -> x.file(2, 6, 0, 1)).tells("sizes 0, 1", 1, x -> x.differ(1, 2));
    }

    /** One FOLDER laid beside itself. */
    private static void differItself() {
        Scene s = Scenes.chain(16).with(x -> x.file(0, 1, 0, 4)).with(x -> x.file(15, 1, 0, 4));
        for (int i = 0; i < 16; i++) {
            int folder = i;
            s.tells("itself: " + i, 0, x -> x.differ(folder, folder));
        }
    }

    /** One FOLDER that lies in the other. */
    private static void differOneInTheOther() {
        Scene s = Scenes.chain(2);
        s.tells("its name in the other alone", 1, x -> x.differ(0, 1)).tells("1", 1, x -> x.differ(1, 0));
        s.with(x -> x.file(0, 7, 0, 4)).tells("and a file", 2, x -> x.differ(0, 1)).tells("2", 2, x -> x.differ(1, 0));
        s.with(x -> x.link(0, 1, 7)).tells("in both", 1, x -> x.differ(0, 1)).tells("1", 1, x -> x.differ(1, 0));
        s.with(x -> x.folder(1, 7));
        s.tells("0 beside 1, 1 beside 2: a file, a folder", 2, x -> x.differ(0, 1));
        s.tells("the other way", 2, x -> x.differ(1, 0));
        s.tells("0 beside 2", 2, x -> x.differ(0, 2)).tells("2 beside 0", 2, x -> x.differ(2, 0));
    }

    /** "whose BODIES aren't alike byte by byte": the first byte, the last one, any. */
    private static void differInEachByte() {
        Scene s = Scenes.chain(2).with(x -> x.file(0, 1, 0, 64)).with(x -> x.file(1, 1, 7, 64));
        s.takes("a folder alone", 1, x -> x.differ(0, 1));
        for (int i = 0; i < 64; i++) {
            int place = i;
            s.with(x -> x.fill(1, place, place + 1, 1)).takes("unlike at " + i, 2, x -> x.differ(0, 1));
            s.with(x -> x.fill(0, place, place + 1, 1)).takes("alike at " + i, 1, x -> x.differ(0, 1));
        }
    }

    /** Sixty FILES, all of them a difference, or none. */
    private static void differMost() {
        Scene s = Scenes.chain(2).with(x -> x.folder(0, 8));
        for (int i = 0; i < 30; i++) {
            int name = i;
            s.with(x -> x.file(1, name, 0, 64)).with(x -> x.file(2, name, 0, 64));
        }
        s.tells("all alike", 0, x -> x.differ(1, 2));
        s.with(x -> x.fill(59, 63, 64, 1)).tells("the last byte of the last", 1, x -> x.differ(1, 2));
        for (int i = 0; i < 30; i++) {
            int file = 2 * i + 1;
            s.with(x -> x.move(file, 2, 100 + file));
        }
        s.tells("no name of both", 60, x -> x.differ(1, 2)).tells("60", 60, x -> x.differ(2, 1));
        s.tells("with two folders beside none", 32, x -> x.differ(0, 1));
    }

    /** As deep as can be: two chains below the top. */
    private static void differChains() {
        Scene s = new Scene().with(x -> x.folder(0, 1)).with(x -> x.folder(0, 2));
        for (int i = 3; i < 15; i++) {
            int in = i - 2;
            s.with(x -> x.folder(in, 7));
        }
        // 1, 3, .. 13 and 2, 4, .. 14
        s.with(x -> x.file(13, 5, 0, 8)).with(x -> x.file(14, 5, 0, 8)).tells("alike", 0, x -> x.differ(1, 2));
        s.with(x -> x.fill(1, 7, 8, 1)).tells("unlike in the deepest", 1, x -> x.differ(1, 2));
        s.with(x -> x.folder(14, 7)).tells("one deeper", 2, x -> x.differ(1, 2)).tells("2", 2, x -> x.differ(2, 1));
        s.with(x -> x.file(15, 5, 0, 8)).tells("what is in that isn't counted", 2, x -> x.differ(1, 2));
    }

    /** "NAMES of FOLDERS that one has alone" */
    private static void differFoldersAlone() {
        Scene s = new Scene();
        for (int i = 1; i < 15; i++) {
            int in = i < 3 ? 0 : 1 + i % 2;
            int name = i;
            s.with(x -> x.folder(in, name));
        }
        s.tells("twelve, no name of both", 12, x -> x.differ(1, 2)).tells("12", 12, x -> x.differ(2, 1));
        s.tells("the top's two, and six", 8, x -> x.differ(0, 1)).tells("8", 8, x -> x.differ(1, 0));
        s.with(x -> x.folder(1, 3)).tells("one name of both", 11, x -> x.differ(1, 2));
    }

    /** "NoSuchElementException" of either. */
    private static void differNone() {
        Scene s = Scenes.chain(2);
        int[] no = {-1, 2, 16, Scene.LEAST_INT, Scene.MOST_INT};
        for (int folder : no) {
            s.refuses("no folder " + folder, Scene.NO_SUCH, x -> x.differ(folder, 0));
            s.refuses("no other folder " + folder, Scene.NO_SUCH, x -> x.differ(0, folder));
            s.refuses("neither " + folder, Scene.NO_SUCH, x -> x.differ(folder, folder));
        }
        Scene full = Scenes.chain(16).refuses("16 of 16", Scene.NO_SUCH, x -> x.differ(16, 0));
        full.refuses("16 of 16, the other", Scene.NO_SUCH, x -> x.differ(15, 16));
    }
}
