/** The edges that WISHES and promises 20 to 23 name: wish, unwish, leave, keep. */
public final class EdgesOfWishesTest {
    private static final int[] NO_WISHES = {-1, 6, Scene.LEAST_INT, Scene.MOST_INT};
    private static final int[] NO_OWNERS = {-1, 8, Scene.LEAST_INT, Scene.MOST_INT};
    /** Of a scene with the FOLDERS 0 and 1. */
    private static final int[] NO_FOLDERS = {-1, 2, 16, Scene.LEAST_INT, Scene.MOST_INT};

    public static void main(String[] args) {
        threeWishes();
        wishesAlike();
        noSuchWish();
        wishOfNoFolder();
        folderIsOfWishZeroAlone();
        unwish();
        leaveOwners();
        leaveAgain();
        leaveOfAll();
        keepNone();
        keepNoGroup();
        keepByEachWish();
        keepLikeOnes();
        keepByTheThird();
        keepInOrBelow();
        keepOfMost();
        Check.end();
    }

    /** Two FOLDERS, three FILES that are alike and FOUND; FILE 1 is below FOLDER 1. */
    private static Scene group() {
        Scene s = Scenes.chain(2);
        s.with(x -> x.file(0, 5, 0, 8)).with(x -> x.file(1, 6, 0, 8)).with(x -> x.file(0, 4, 0, 8));
        return s.with(x -> x.find());
    }

    /** "NONE: there are 3" */
    private static void threeWishes() {
        for (int i = 0; i <= 5; i++) {
            int what = i;
            Scene s = group();
            int third = what == 5 ? 3 : 5;
            int second = what == 4 ? 2 : 4;
            s.takes("one: " + what, 1, x -> x.wish(what, 1));
            s.takes("two: " + second, 2, x -> x.wish(second, 0));
            s.takes("three: " + third, 3, x -> x.wish(third, 0));
            for (int j = 0; j <= 5; j++) {
                int more = j;
                s.refuses("four: " + more, -1, x -> x.wish(more, 0));
            }
            for (int no : NO_WISHES) {
                s.refuses("three are, no wish " + no, Scene.ILLEGAL, x -> x.wish(no, 0));
            }
            for (int no : NO_FOLDERS) {
                s.refuses("three are, no folder " + no, Scene.NO_SUCH, x -> x.wish(0, no));
            }
            s.takes("all three go", 3, x -> x.unwish());
            s.takes("one again", 1, x -> x.wish(second, 0));
        }
    }

    /** "or one alike" */
    private static void wishesAlike() {
        for (int i = 0; i <= 5; i++) {
            int what = i;
            Scene s = group().takes("one: " + what, 1, x -> x.wish(what, 0));
            s.refuses("alike: " + what, -1, x -> x.wish(what, 0));
            int next = (what + 1) % 6;
            s.takes("two: " + next, 2, x -> x.wish(next, 0));
            s.refuses("alike the first: " + what, -1, x -> x.wish(what, 0));
            s.refuses("alike the second: " + next, -1, x -> x.wish(next, 0));
        }
        Scene folders = group().takes("folder 0", 1, x -> x.wish(0, 0)).takes("folder 1", 2, x -> x.wish(0, 1));
        folders.refuses("folder 0 again", -1, x -> x.wish(0, 0)).refuses("folder 1 again", -1, x -> x.wish(0, 1));
        folders.with(x -> x.folder(0, 8)).takes("folder 2", 3, x -> x.wish(0, 2));
    }

    /** "IllegalArgumentException: no such WISH." */
    private static void noSuchWish() {
        Scene s = group();
        for (int what : NO_WISHES) {
            s.refuses("no wish " + what, Scene.ILLEGAL, x -> x.wish(what, 0));
            s.refuses("no wish, no folder " + what, Scene.ILLEGAL, x -> x.wish(what, -1));
        }
        s.takes("the least wish", 1, x -> x.wish(0, 0)).takes("the greatest wish", 2, x -> x.wish(5, 0));
    }

    /** "NoSuchElementException: of 0 no such FOLDER." */
    private static void wishOfNoFolder() {
        Scene s = group();
        for (int folder : NO_FOLDERS) {
            s.refuses("no folder " + folder, Scene.NO_SUCH, x -> x.wish(0, folder));
        }
        s.takes("the last folder", 1, x -> x.wish(0, 1)).takes("the first folder", 2, x -> x.wish(0, 0));
        Scene full = Scenes.chain(16).takes("the last of sixteen", 1, x -> x.wish(0, 15));
        full.refuses("and no more", Scene.NO_SUCH, x -> x.wish(0, 16));
    }

    /** "of 0 the FOLDER": of the others none is asked. */
    private static void folderIsOfWishZeroAlone() {
        for (int folder : NO_FOLDERS) {
            for (int i = 1; i <= 5; i++) {
                int what = i;
                Scene s = group().takes(what + " with " + folder, 1, x -> x.wish(what, folder));
                s.refuses(what + " is there", -1, x -> x.wish(what, 0));
                s.refuses(what + " is there, another folder", -1, x -> x.wish(what, folder ^ 1));
            }
        }
    }

    /** "All WISHES go: how many there were" */
    private static void unwish() {
        for (int i = 0; i <= 3; i++) {
            Scene s = group();
            for (int j = 1; j <= i; j++) {
                int what = 6 - j;
                s.takes("wish " + what, j, x -> x.wish(what, 0));
            }
            if (i > 0) {
                s.takes("there were " + i, i, x -> x.unwish());
            }
            s.refuses("none are", 0, x -> x.unwish());
            s.tells("none is asked", 0, x -> x.keep(0));
        }
    }

    /** "IllegalArgumentException: no such OWNERS." */
    private static void leaveOwners() {
        Scene s = group();
        for (int no : NO_OWNERS) {
            s.refuses("no owner " + no, Scene.ILLEGAL, x -> x.leave(no, 0));
            s.refuses("from no owner " + no, Scene.ILLEGAL, x -> x.leave(0, no));
            s.refuses("no owner, from 7: " + no, Scene.ILLEGAL, x -> x.leave(no, 7));
            s.refuses("7, from no owner " + no, Scene.ILLEGAL, x -> x.leave(7, no));
            s.refuses("neither: " + no, Scene.ILLEGAL, x -> x.leave(no, no));
        }
        s.takes("the least from the greatest", true, x -> x.leave(0, 7));
        s.takes("the greatest from the least", true, x -> x.leave(7, 0));
    }

    /** "whether there was none" */
    private static void leaveAgain() {
        Scene s = new Scene().takes("there was none", true, x -> x.leave(3, 4));
        s.refuses("there was", false, x -> x.leave(3, 4));
        s.takes("none the other way", true, x -> x.leave(4, 3));
        s.refuses("there was, too", false, x -> x.leave(4, 3));
    }

    /** All pairs: each of them alone is had from then on, and merges the FILES of those two alone. */
    private static void leaveOfAll() {
        Scene all = new Scene();
        for (int i = 0; i < 64; i++) {
            int owner = i / 8;
            int from = i % 8;
            all.takes("none: " + owner + " from " + from, true, x -> x.leave(owner, from));
            Scene s = new Scene();
            for (int j = 0; j < 8; j++) {
                int o = j;
                s.with(x -> x.file(0, o, o, 1));
            }
            s.with(x -> x.move(owner, 0, 100)).with(x -> x.hold(owner, true)).with(x -> x.wish(5, 0));
            s.with(x -> x.find()).tells("kept", owner, x -> x.keep(0));
            s.with(x -> x.leave(owner, from));
            s.takes(owner + " merges " + from + " alone", owner == from ? 0 : 1, x -> x.merge(0));
            s.tells("its owner now", owner, x -> x.about(from, 4));
        }
        for (int i = 0; i < 64; i++) {
            int owner = i / 8;
            int from = i % 8;
            all.takes("there was: " + owner + " from " + from, false, x -> x.leave(owner, from));
        }
    }

    /** Promise 23: "NONE: it has no FILES any more." */
    private static void keepNone() {
        Scene s = group().with(x -> x.remove(0)).tells("two are left", 1, x -> x.keep(0));
        s.with(x -> x.write(1, 0, 0)).tells("one is left", 2, x -> x.keep(0));
        s.with(x -> x.remove(2)).tells("none is left", -1, x -> x.keep(0));
        for (int i = 0; i < 3; i++) {
            int what = i;
            s.with(x -> x.wish(what, 0)).tells("none, with wishes", -1, x -> x.keep(0));
        }
        s.takes("found anew, none", 0, x -> x.find()).refuses("no group then", Scene.NO_SUCH, x -> x.keep(0));
    }

    /** "NoSuchElementException: no such GROUP was FOUND." */
    private static void keepNoGroup() {
        int[] no = {-1, 1, 100, Scene.LEAST_INT, Scene.MOST_INT};
        Scene s = group();
        Scene left = group().with(x -> x.remove(0)).with(x -> x.remove(1)).with(x -> x.remove(2));
        for (int group : no) {
            s.refuses("no group " + group, Scene.NO_SUCH, x -> x.keep(group));
            left.refuses("none left, no group " + group, Scene.NO_SUCH, x -> x.keep(group));
        }
        s.tells("group 0", 0, x -> x.keep(0));
        new Scene().refuses("nothing was found", Scene.NO_SUCH, x -> x.keep(0));
    }

    /** Each WISH by the smallest step that can be told. */
    private static void keepByEachWish() {
        Scene s = Scenes.chain(2).with(x -> x.file(1, 5, 0, 8)).with(x -> x.days(1)).with(x -> x.file(0, 4, 0, 8));
        s.with(x -> x.file(1, 6, 0, 8)).with(x -> x.days(1)).with(x -> x.file(1, 3, 0, 8)).with(x -> x.hold(2, true));
        s.with(x -> x.find());
        int[] due = {0, 0, 3, 1, 3, 2};
        for (int i = 0; i < due.length; i++) {
            int what = i;
            s.with(x -> x.wish(what, 1)).tells("by wish " + i, due[i], x -> x.keep(0)).with(x -> x.unwish());
        }
        s.with(x -> x.wish(0, 0)).tells("all are below the top", 0, x -> x.keep(0));
    }

    /** "then the one of least number": none fits better, with no WISHES and with three. */
    private static void keepLikeOnes() {
        Scene s = Scenes.files(3, 8).with(x -> x.find()).tells("no wishes", 0, x -> x.keep(0));
        s.with(x -> x.wish(1, 0)).with(x -> x.wish(2, 0)).with(x -> x.wish(5, 0));
        s.tells("three wishes", 0, x -> x.keep(0));
        s.with(x -> x.remove(0)).tells("the first is gone", 1, x -> x.keep(0));
        s.with(x -> x.hold(2, true)).tells("the third wish tells", 2, x -> x.keep(0));
    }

    /** All three WISHES are asked, the first one first. */
    private static void keepByTheThird() {
        Scene s = Scenes.chain(2).with(x -> x.file(0, 3, 0, 8)).with(x -> x.file(0, 2, 0, 8));
        s.with(x -> x.file(1, 1, 0, 8)).with(x -> x.find());
        s.with(x -> x.wish(5, 0)).with(x -> x.wish(3, 0)).with(x -> x.wish(4, 0));
        s.tells("none held, fewer above, the lesser name", 1, x -> x.keep(0));
        s.with(x -> x.unwish()).with(x -> x.wish(5, 0)).with(x -> x.wish(4, 0)).with(x -> x.wish(3, 0));
        s.tells("none held, the lesser name", 2, x -> x.keep(0));
        s.with(x -> x.hold(0, true)).tells("held first", 0, x -> x.keep(0));
    }

    /** "0 in a told FOLDER, or below it": the deepest, too; not above it. */
    private static void keepInOrBelow() {
        Scene s = Scenes.chain(16).with(x -> x.file(0, 0, 0, 8)).with(x -> x.file(15, 0, 0, 8));
        s.with(x -> x.file(7, 0, 0, 8)).with(x -> x.find());
        for (int i = 0; i < 16; i++) {
            int folder = i;
            int due = i == 0 ? 0 : 1;
            s.with(x -> x.wish(0, folder)).tells("in or below " + i, due, x -> x.keep(0)).with(x -> x.unwish());
        }
        s.with(x -> x.move(1, 6, 1)).with(x -> x.wish(0, 7)).tells("not above it", 2, x -> x.keep(0));
        s.with(x -> x.unwish()).with(x -> x.wish(0, 8)).tells("none is there", 0, x -> x.keep(0));
        Scene deep = Scenes.chain(16).with(x -> x.file(15, 0, 0, 8)).with(x -> x.file(0, 0, 0, 8));
        deep.with(x -> x.find()).with(x -> x.wish(0, 0));
        deep.tells("the deepest is below the top, too", 0, x -> x.keep(0));
    }

    /** Of sixty FILES the last one; NAMES 0 and 999, DAYS as far apart as can be. */
    private static void keepOfMost() {
        Scene s = new Scene();
        for (int i = 0; i < 59; i++) {
            int name = 999 - i;
            s.with(x -> x.file(0, name, 0, 8));
        }
        for (int i = 0; i < 400; i++) {
            s.with(x -> x.days(1000));
        }
        s.with(x -> x.file(0, 0, 0, 8)).with(x -> x.find()).takes("no wish", 0, x -> x.keep(0));
        s.with(x -> x.wish(2, 0)).takes("the latest", 59, x -> x.keep(0)).with(x -> x.unwish());
        s.with(x -> x.wish(1, 0)).takes("the earliest", 0, x -> x.keep(0)).with(x -> x.unwish());
        s.with(x -> x.wish(4, 0)).takes("the least name", 59, x -> x.keep(0));
        s.with(x -> x.remove(59)).takes("the least name but that", 58, x -> x.keep(0));
        s.takes("the latest day", 400000, x -> x.count(6));
    }
}
