/** The edges that promises 2 to 8 name: folder, file, copy, link, move, remove, hold. */
public final class EdgesOfFoldersAndFilesTest {
    private static final int[] NO_NAMES = {-1, 1000, Scene.LEAST_INT, Scene.MOST_INT};
    private static final int[] NO_OWNERS = {-1, 8, Scene.LEAST_INT, Scene.MOST_INT};
    private static final int[] NO_SIZES = {-1, 65, Scene.LEAST_INT, Scene.MOST_INT};
    /** Of a scene with the FOLDERS 0 and 1. */
    private static final int[] NO_FOLDERS = {-1, 2, 16, Scene.LEAST_INT, Scene.MOST_INT};

    public static void main(String[] args) {
        folderNames();
        sixteenInOne();
        sixteenInAChain();
        folderInNone();
        fileNames();
        fileOwners();
        fileSizes();
        fileInNone();
        sixtyByFile();
        sixtyByCopy();
        sixtyByLink();
        sixtyThoughGone();
        hundredByFile();
        hundredByCopy();
        copyNames();
        copySizes();
        copyDay();
        copyOfNone();
        linkNames();
        linkWhenBodiesAreFull();
        linkOfNone();
        moveNames();
        moveToItself();
        moveWhenAllIsFull();
        moveToNone();
        removeHeld();
        removeNames();
        hold();
        Check.end();
    }

    /** "it is no NAME", "in that one there is a FOLDER of that NAME" */
    private static void folderNames() {
        Scene s = new Scene();
        for (int name : NO_NAMES) {
            s.refuses("no name " + name, -1, x -> x.folder(0, name));
        }
        s.takes("the least name", 1, x -> x.folder(0, 0));
        s.takes("the greatest name", 2, x -> x.folder(0, 999));
        s.refuses("the least is there", -1, x -> x.folder(0, 0));
        s.refuses("the greatest is there", -1, x -> x.folder(0, 999));
        s.takes("the least in another one", 3, x -> x.folder(2, 0));
        s.takes("the greatest in another one", 4, x -> x.folder(2, 999));
        s.refuses("in that one, too", -1, x -> x.folder(2, 999));
    }

    /** "there are 16": all in the top. */
    private static void sixteenInOne() {
        Scene s = new Scene();
        for (int i = 1; i < 16; i++) {
            int name = 100 + i;
            s.takes("folder " + i, i, x -> x.folder(0, name));
        }
        s.tells("sixteen", 16, x -> x.count(0));
        s.refuses("a seventeenth in the top", -1, x -> x.folder(0, 0));
        s.refuses("a seventeenth in the last", -1, x -> x.folder(15, 0));
        s.refuses("a name that is there", -1, x -> x.folder(0, 101));
        s.refuses("no name", -1, x -> x.folder(0, -1));
        s.refuses("no folder 16 came", Scene.NO_SUCH, x -> x.folder(16, 0));
        s.takes("a file in the last", 0, x -> x.file(15, 0, 0, 0));
    }

    /** Each in the one before: the deepest that can be. */
    private static void sixteenInAChain() {
        Scene s = new Scene();
        for (int i = 1; i < 16; i++) {
            int in = i - 1;
            s.takes("folder " + i, i, x -> x.folder(in, 7));
        }
        s.refuses("a seventeenth in the deepest", -1, x -> x.folder(15, 7));
        s.refuses("a seventeenth in the top", -1, x -> x.folder(0, 8));
        s.takes("a file in the deepest", 0, x -> x.file(15, 7, 0, 1));
        s.tells("folders above it", 16, x -> x.about(0, 8));
    }

    /** "NoSuchElementException: no such FOLDER (as everywhere)": whatever else is wrong. */
    private static void folderInNone() {
        Scene s = Scenes.chain(2);
        for (int in : NO_FOLDERS) {
            s.refuses("in " + in, Scene.NO_SUCH, x -> x.folder(in, 1));
            s.refuses("no name, in " + in, Scene.NO_SUCH, x -> x.folder(in, -1));
        }
        Scene full = Scenes.chain(16);
        full.refuses("sixteen are there, in 16", Scene.NO_SUCH, x -> x.folder(16, 1));
        full.refuses("sixteen are there, in -1", Scene.NO_SUCH, x -> x.folder(-1, 1));
    }

    private static void fileNames() {
        Scene s = Scenes.chain(2);
        for (int name : NO_NAMES) {
            s.refuses("no name " + name, -1, x -> x.file(0, name, 0, 4));
        }
        s.takes("the least name", 0, x -> x.file(0, 0, 0, 4));
        s.takes("the greatest name", 1, x -> x.file(0, 999, 0, 4));
        s.refuses("the least is there", -1, x -> x.file(0, 0, 0, 4));
        s.refuses("the greatest is there", -1, x -> x.file(0, 999, 0, 4));
        s.takes("the least in another one", 2, x -> x.file(1, 0, 0, 4));
        s.tells("its body", 2, x -> x.about(2, 2));
    }

    private static void fileOwners() {
        Scene s = new Scene();
        for (int owner : NO_OWNERS) {
            s.refuses("no owner " + owner, -1, x -> x.file(0, 0, owner, 4));
        }
        s.takes("the least owner", 0, x -> x.file(0, 0, 0, 4)).tells("is told", 0, x -> x.about(0, 4));
        s.takes("the greatest owner", 1, x -> x.file(0, 1, 7, 4)).tells("is told", 7, x -> x.about(1, 4));
    }

    private static void fileSizes() {
        Scene s = new Scene();
        for (int size : NO_SIZES) {
            s.refuses("no size " + size, -1, x -> x.file(0, 0, 0, size));
        }
        s.takes("the least size", 0, x -> x.file(0, 0, 0, 0)).tells("is told", 0, x -> x.about(0, 3));
        s.takes("the greatest size", 1, x -> x.file(0, 1, 0, 64)).tells("is told", 64, x -> x.about(1, 3));
        s.tells("bytes", 64, x -> x.count(3));
    }

    private static void fileInNone() {
        Scene s = Scenes.chain(2);
        for (int folder : NO_FOLDERS) {
            s.refuses("in " + folder, Scene.NO_SUCH, x -> x.file(folder, 0, 0, 4));
            s.refuses("no name, in " + folder, Scene.NO_SUCH, x -> x.file(folder, -1, 0, 4));
            s.refuses("no owner, in " + folder, Scene.NO_SUCH, x -> x.file(folder, 0, 8, 4));
            s.refuses("no size, in " + folder, Scene.NO_SUCH, x -> x.file(folder, 0, 0, 65));
        }
        Scene full = Scenes.files(60, 1);
        full.refuses("60 were, in 1", Scene.NO_SUCH, x -> x.file(1, 100, 0, 4));
        full.refuses("60 were, a copy in 1", Scene.NO_SUCH, x -> x.copy(0, 1, 100));
        full.refuses("60 were, a link in 1", Scene.NO_SUCH, x -> x.link(0, 1, 100));
        full.refuses("60 were, a copy of 60", Scene.NO_SUCH, x -> x.copy(60, 0, 100));
        full.refuses("60 were, a link of 60", Scene.NO_SUCH, x -> x.link(60, 0, 100));
    }

    private static void sixtyAre(Scene s) {
        s.refuses("one more by file", -1, x -> x.file(0, 100, 0, 4));
        s.refuses("one more by copy", -1, x -> x.copy(59, 0, 100));
        s.refuses("one more by link", -1, x -> x.link(59, 0, 100));
        s.refuses("no file 60 came", Scene.NO_SUCH, x -> x.about(60, 0));
    }

    /** "there were 60" */
    private static void sixtyByFile() {
        Scene s = Scenes.files(59, 1);
        s.takes("the sixtieth", 59, x -> x.file(0, 59, 7, 64));
        s.tells("is told", 7, x -> x.about(59, 4)).tells("files", 60, x -> x.count(1));
        sixtyAre(s);
    }

    private static void sixtyByCopy() {
        Scene s = Scenes.files(59, 1);
        s.takes("the sixtieth", 59, x -> x.copy(58, 0, 59)).tells("its body", 59, x -> x.about(59, 2));
        sixtyAre(s);
    }

    private static void sixtyByLink() {
        Scene s = Scenes.names(59, 1);
        s.takes("the sixtieth", 59, x -> x.link(58, 0, 59)).tells("names of the body", 60, x -> x.about(0, 6));
        sixtyAre(s);
        s.tells("one body", 1, x -> x.count(7));
    }

    /** "at most 60 ever": those that are GONE, too. */
    private static void sixtyThoughGone() {
        Scene s = new Scene();
        for (int i = 0; i < 59; i++) {
            s.with(x -> x.file(0, 0, 0, 1));
            int file = i;
            s.with(x -> x.remove(file));
        }
        s.tells("none is there", 0, x -> x.count(1));
        s.takes("the sixtieth", 59, x -> x.file(0, 0, 0, 1));
        sixtyAre(s);
        s.with(x -> x.remove(59)).tells("none is there again", 0, x -> x.count(1));
        s.refuses("none more", -1, x -> x.file(0, 0, 0, 1));
        s.tells("bodies ever", 60, x -> x.count(7));
    }

    private static void hundredAre(Scene s) {
        s.tells("bodies ever", 100, x -> x.count(7));
        s.refuses("one more by file", -1, x -> x.file(0, 900, 0, 4));
        s.refuses("one more of no bytes", -1, x -> x.file(0, 900, 0, 0));
        s.refuses("one more by copy", -1, x -> x.copy(0, 0, 900));
        s.refuses("a copy of none", Scene.NO_SUCH, x -> x.copy(59, 0, 900));
        s.refuses("a copy in none", Scene.NO_SUCH, x -> x.copy(0, 1, 900));
        s.refuses("a file in none", Scene.NO_SUCH, x -> x.file(1, 900, 0, 4));
    }

    /** "or 100 BODIES" */
    private static void hundredByFile() {
        Scene s = Scenes.bodiesEver(99).tells("99 were", 99, x -> x.count(7));
        s.takes("the hundredth", 23, x -> x.file(0, 800, 7, 64)).tells("its body", 99, x -> x.about(23, 2));
        hundredAre(s);
        s.takes("its last byte is written", 0, x -> x.fill(23, 63, 64, 255)).tells("and told", 255, x -> x.at(23, 63));
    }

    private static void hundredByCopy() {
        Scene s = Scenes.bodiesEver(99).with(x -> x.write(0, 0, 0x01020384));
        s.takes("the hundredth", 23, x -> x.copy(0, 0, 800)).tells("its body", 99, x -> x.about(23, 2));
        s.tells("its last byte", 0x84, x -> x.at(23, 3));
        hundredAre(s);
        s.takes("though one body goes", 0, x -> x.remove(23));
        hundredAre(s);
    }

    /** "NONE likewise." */
    private static void copyNames() {
        Scene s = Scenes.chain(2).with(x -> x.file(0, 5, 0, 4));
        for (int name : NO_NAMES) {
            s.refuses("no name " + name, -1, x -> x.copy(0, 1, name));
        }
        s.refuses("its own name is there", -1, x -> x.copy(0, 0, 5));
        s.takes("its own name in another one", 1, x -> x.copy(0, 1, 5));
        s.refuses("is there then, too", -1, x -> x.copy(0, 1, 5));
        s.takes("the least name", 2, x -> x.copy(0, 0, 0)).takes("the greatest name", 3, x -> x.copy(0, 0, 999));
    }

    /** "a new BODY of the same bytes": none, and as many as can be. */
    private static void copySizes() {
        Scene s = new Scene().with(x -> x.file(0, 0, 7, 0)).with(x -> x.file(0, 1, 0, 64));
        s.with(x -> x.fill(1, 0, 1, 1)).with(x -> x.fill(1, 63, 64, 2));
        s.takes("of no bytes", 2, x -> x.copy(0, 0, 2)).tells("its size", 0, x -> x.about(2, 3));
        s.tells("its owner", 7, x -> x.about(2, 4)).tells("its body", 2, x -> x.about(2, 2));
        s.takes("of 64 bytes", 3, x -> x.copy(1, 0, 3)).tells("its size", 64, x -> x.about(3, 3));
        s.tells("its first byte", 1, x -> x.at(3, 0)).tells("its last byte", 2, x -> x.at(3, 63));
        s.refuses("and no more", Scene.NO_SUCH, x -> x.at(3, 64));
        s.tells("the size of it isn't another's", 0, x -> x.about(0, 3));
    }

    /** "(it was written on this DAY)": not on that of the other one. */
    private static void copyDay() {
        Scene s = Scenes.files(1, 4).with(x -> x.days(1000));
        s.with(x -> x.copy(0, 0, 1)).tells("the copy's", 1000, x -> x.about(1, 5));
        s.tells("the other one's", 0, x -> x.about(0, 5));
        s.with(x -> x.link(0, 0, 2)).tells("a link's is its body's", 0, x -> x.about(2, 5));
    }

    private static void copyOfNone() {
        Scene s = Scenes.chain(2).with(x -> x.file(0, 5, 0, 4));
        for (int folder : NO_FOLDERS) {
            s.refuses("in " + folder, Scene.NO_SUCH, x -> x.copy(0, folder, 0));
            s.refuses("no name, in " + folder, Scene.NO_SUCH, x -> x.copy(0, folder, -1));
        }
        s.refuses("no file, no name", Scene.NO_SUCH, x -> x.copy(1, 0, -1));
        s.refuses("no file, a name that is there", Scene.NO_SUCH, x -> x.copy(1, 0, 5));
    }

    private static void linkNames() {
        Scene s = Scenes.chain(2).with(x -> x.file(0, 5, 0, 4));
        for (int name : NO_NAMES) {
            s.refuses("no name " + name, -1, x -> x.link(0, 1, name));
        }
        s.refuses("its own name is there", -1, x -> x.link(0, 0, 5));
        s.takes("its own name in another one", 1, x -> x.link(0, 1, 5));
        s.refuses("is there then, too", -1, x -> x.link(0, 1, 5));
        s.takes("the least name", 2, x -> x.link(0, 0, 0)).takes("the greatest name", 3, x -> x.link(0, 0, 999));
        s.takes("of no bytes", 4, x -> x.file(0, 6, 0, 0)).takes("its link", 5, x -> x.link(4, 0, 7));
        s.tells("no body came by that", 2, x -> x.count(7));
    }

    /** "(BODIES aren't asked)" */
    private static void linkWhenBodiesAreFull() {
        Scene s = Scenes.bodiesEver(100);
        s.takes("a link still", 24, x -> x.link(23, 0, 900)).tells("of the last body", 2, x -> x.about(23, 6));
        for (int i = 25; i < 60; i++) {
            int file = i;
            s.takes("and another one", file, x -> x.link(0, 0, 900 + file));
        }
        s.refuses("until 60 files were", -1, x -> x.link(0, 0, 999));
    }

    private static void linkOfNone() {
        Scene s = Scenes.chain(2).with(x -> x.file(0, 5, 0, 4));
        for (int folder : NO_FOLDERS) {
            s.refuses("in " + folder, Scene.NO_SUCH, x -> x.link(0, folder, 0));
            s.refuses("no name, in " + folder, Scene.NO_SUCH, x -> x.link(0, folder, -1));
        }
        s.refuses("no file, no name", Scene.NO_SUCH, x -> x.link(1, 0, -1));
    }

    /** "or it is no NAME" */
    private static void moveNames() {
        Scene s = Scenes.chain(2).with(x -> x.file(0, 5, 0, 4)).with(x -> x.file(1, 6, 0, 4));
        for (int name : NO_NAMES) {
            s.refuses("no name " + name, false, x -> x.move(0, 1, name));
            s.refuses("no name here " + name, false, x -> x.move(0, 0, name));
        }
        s.refuses("another one is there", false, x -> x.move(0, 1, 6));
        s.takes("the least name", true, x -> x.move(0, 0, 0)).tells("is told", 0, x -> x.about(0, 1));
        s.takes("the greatest name", true, x -> x.move(0, 1, 999)).tells("is told", 999, x -> x.about(0, 1));
        s.tells("its folder", 1, x -> x.about(0, 0));
        s.takes("a folder's name", true, x -> x.move(1, 0, 7));
        s.takes("the name that it left", true, x -> x.move(0, 1, 6));
    }

    /** "a FILE of that NAME is there (itself, too)" */
    private static void moveToItself() {
        Scene s = Scenes.chain(2).with(x -> x.file(0, 5, 0, 4)).with(x -> x.file(1, 5, 0, 4));
        s.refuses("itself", false, x -> x.move(0, 0, 5)).refuses("itself, below", false, x -> x.move(1, 1, 5));
        s.refuses("each other", false, x -> x.move(0, 1, 5)).refuses("and back", false, x -> x.move(1, 0, 5));
        s.with(x -> x.hold(0, true)).refuses("held, itself", false, x -> x.move(0, 0, 5));
        s.takes("held, elsewhere", true, x -> x.move(0, 1, 6)).tells("is held", 1, x -> x.about(0, 7));
    }

    /** No new FILE or BODY is asked for. */
    private static void moveWhenAllIsFull() {
        Scene files = Scenes.files(60, 1);
        files.takes("60 files", true, x -> x.move(59, 0, 999)).tells("is told", 999, x -> x.about(59, 1));
        Scene bodies = Scenes.bodiesEver(100);
        bodies.takes("100 bodies", true, x -> x.move(23, 0, 999)).tells("is told", 999, x -> x.about(23, 1));
        Scene folders = Scenes.chain(16).with(x -> x.file(0, 7, 0, 1));
        folders.takes("16 folders", true, x -> x.move(0, 15, 7)).tells("is told", 15, x -> x.about(0, 0));
    }

    private static void moveToNone() {
        Scene s = Scenes.chain(2).with(x -> x.file(0, 5, 0, 4));
        for (int folder : NO_FOLDERS) {
            s.refuses("to " + folder, Scene.NO_SUCH, x -> x.move(0, folder, 0));
            s.refuses("no name, to " + folder, Scene.NO_SUCH, x -> x.move(0, folder, 1000));
        }
        s.refuses("no file, no name", Scene.NO_SUCH, x -> x.move(1, 0, -1));
    }

    /** "NONE, and nothing changes: it is HELD." */
    private static void removeHeld() {
        Scene s = Scenes.files(2, 8).with(x -> x.link(0, 0, 2)).with(x -> x.find()).with(x -> x.hold(0, true));
        s.refuses("held", -1, x -> x.remove(0));
        s.takes("another name of its body isn't", 1, x -> x.remove(2));
        s.refuses("held, the only name now", -1, x -> x.remove(0));
        s.with(x -> x.hold(0, false)).takes("held no more", 0, x -> x.remove(0));
        s.refuses("and gone", Scene.NO_SUCH, x -> x.remove(0));
    }

    /** "how many FILES have its BODY still": from the most that can be down to none. */
    private static void removeNames() {
        Scene s = Scenes.names(60, 8);
        for (int i = 0; i < 60; i++) {
            int file = i;
            s.takes("names left", 59 - i, x -> x.remove(file));
        }
        s.tells("no file", 0, x -> x.count(1)).tells("no body", 0, x -> x.count(2));
        s.tells("no merging freed it", 0, x -> x.count(4));
    }

    /** "A FILE is HELD, or not: whether it was." */
    private static void hold() {
        Scene s = Scenes.names(2, 0);
        s.refuses("not held at first", false, x -> x.hold(0, false));
        s.takes("was not", false, x -> x.hold(0, true)).tells("is", 1, x -> x.about(0, 7));
        s.refuses("was, and is", true, x -> x.hold(0, true));
        s.tells("another name of its body isn't", 0, x -> x.about(1, 7));
        s.takes("was", true, x -> x.hold(0, false)).tells("is not", 0, x -> x.about(0, 7));
        s.with(x -> x.hold(0, true)).with(x -> x.copy(0, 0, 8)).with(x -> x.link(0, 0, 9));
        s.tells("a copy isn't", 0, x -> x.about(2, 7)).tells("a link isn't", 0, x -> x.about(3, 7));
        Scene last = Scenes.files(60, 0);
        last.takes("the last file", false, x -> x.hold(59, true)).refuses("is held", -1, x -> x.remove(59));
    }
}
