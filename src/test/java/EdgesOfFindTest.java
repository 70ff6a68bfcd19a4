/** The edges that FOUND and promises 13 to 16 name: find, reads, groupOf, member. */
public final class EdgesOfFindTest {
    public static void main(String[] args) {
        nothingYet();
        noneAtAll();
        sizeAboveNone();
        atLeastTwo();
        lastBlock();
        unlikeInEachByte();
        loneOnesAreNotReadOn();
        twoAtTheEnd();
        mostBodies();
        mostGroups();
        lastBodies();
        numbersByLeastBodies();
        standsUntilAnew();
        fewerAreLeft();
        members();
        noMembers();
        membersMost();
        Check.end();
    }

    /** Promise 14: "0 at first"; promises 15 and 16 before anything was FOUND. */
    private static void nothingYet() {
        Scene s = Scenes.files(2, 8);
        s.tells("reads", 0, x -> x.reads());
        s.tells("no group", -1, x -> x.groupOf(0)).tells("no group", -1, x -> x.groupOf(1));
        s.refuses("none was found", Scene.NO_SUCH, x -> x.member(0, -1));
        s.refuses("none was found", Scene.NO_SUCH, x -> x.member(0, 0));
        s.refuses("none was found", Scene.NO_SUCH, x -> x.keep(0));
        s.refuses("none was found", Scene.NO_SUCH, x -> x.merge(0));
    }

    /** No GROUP at all: no FILES, one, all GONE. */
    private static void noneAtAll() {
        Scene s = new Scene().takes("no files", 0, x -> x.find()).tells("reads", 0, x -> x.reads());
        s.refuses("no group 0", Scene.NO_SUCH, x -> x.member(0, -1));
        s.with(x -> x.file(0, 0, 0, 64)).takes("one", 0, x -> x.find()).tells("reads", 0, x -> x.reads());
        s.tells("in none", -1, x -> x.groupOf(0));
        s.with(x -> x.copy(0, 0, 1)).takes("two", 1, x -> x.find()).tells("reads", 16, x -> x.reads());
        s.with(x -> x.remove(0)).with(x -> x.remove(1));
        s.takes("all gone", 0, x -> x.find()).tells("reads", 0, x -> x.reads());
        s.refuses("no group 0 any more", Scene.NO_SUCH, x -> x.member(0, -1));
    }

    /** "BODIES of one SIZE above 0" */
    private static void sizeAboveNone() {
        Scene none = Scenes.files(60, 0);
        none.takes("of size 0", 0, x -> x.find()).tells("reads", 0, x -> x.reads());
        none.tells("no group", -1, x -> x.groupOf(0)).tells("no group", -1, x -> x.groupOf(59));
        Scene one = Scenes.files(2, 1);
        one.takes("of size 1", 1, x -> x.find()).tells("reads", 2, x -> x.reads());
        one.tells("group", 0, x -> x.groupOf(1));
    }

    /** "if there are at least two": BODIES, not FILES, and of one SIZE. */
    private static void atLeastTwo() {
        Scene names = Scenes.names(60, 8);
        names.takes("one body of sixty names", 0, x -> x.find()).tells("reads", 0, x -> x.reads());
        names.tells("no group", -1, x -> x.groupOf(0));
        Scene sizes = new Scene();
        for (int i = 0; i < 60; i++) {
            int size = i + 5;
            sizes.with(x -> x.file(0, size, 0, size));
        }
        sizes.takes("one of each size", 0, x -> x.find()).tells("reads", 0, x -> x.reads());
        Scene gone = Scenes.files(2, 8).with(x -> x.remove(0));
        gone.takes("one, and one gone", 0, x -> x.find()).tells("reads", 0, x -> x.reads());
    }

    /** "8 bytes each, the last one what is left": of every SIZE, unlike in the last byte and in the first one. */
    private static void lastBlock() {
        for (int size = 1; size <= 64; size++) {
            int n = size;
            int blocks = (n + 7) / 8;
            Scene s = Scenes.files(2, n);
            s.takes("alike, of " + n, 1, x -> x.find());
            s.takes("blocks of " + n, 2 * blocks, x -> x.reads());
            s.with(x -> x.fill(1, n - 1, n, 255)).takes("unlike at last, of " + n, 0, x -> x.find());
            s.takes("all blocks, of " + n, 2 * blocks, x -> x.reads());
            s.with(x -> x.fill(1, 0, 1, 255)).takes("unlike at first, of " + n, 0, x -> x.find());
            s.takes("one block each, of " + n, 2, x -> x.reads());
        }
    }

    private static void unlikeInEachByte() {
        Scene s = Scenes.files(2, 64);
        for (int i = 0; i < 64; i++) {
            int place = i;
            s.with(x -> x.fill(0, place, place + 1, 1)).takes("unlike at " + i, 0, x -> x.find());
            s.takes("blocks read, unlike at " + i, 2 * (i / 8 + 1), x -> x.reads());
            s.with(x -> x.fill(0, place, place + 1, 0));
        }
        s.takes("alike again", 1, x -> x.find());
    }

    /** "of each heap of two or more BODIES that block of each is READ": one that is alone isn't read any more. */
    private static void loneOnesAreNotReadOn() {
        Scene s = Scenes.files(3, 64).with(x -> x.fill(2, 7, 8, 1));
        s.takes("the third is alone", 1, x -> x.find()).tells("3, then 2 of each", 3 + 7 * 2, x -> x.reads());
        s.with(x -> x.fill(1, 15, 16, 1));
        s.takes("the second by its second block", 0, x -> x.find()).tells("3 and 2", 5, x -> x.reads());
        s.with(x -> x.fill(1, 7, 8, 2));
        s.takes("all by the first", 0, x -> x.find()).tells("3", 3, x -> x.reads());
    }

    /** "Those that are two or more at the end are a GROUP": two pairs of one heap are two. */
    private static void twoAtTheEnd() {
        Scene s = Scenes.files(5, 9).with(x -> x.fill(1, 8, 9, 1)).with(x -> x.fill(3, 8, 9, 1));
        s.with(x -> x.fill(4, 8, 9, 2));
        s.takes("two pairs", 2, x -> x.find()).tells("both blocks of all", 10, x -> x.reads());
        int[] due = {0, 1, 0, 1, -1};
        for (int i = 0; i < due.length; i++) {
            int file = i;
            s.tells("group of " + i, due[i], x -> x.groupOf(file));
        }
    }

    private static void mostBodies() {
        Scene s = Scenes.files(60, 64);
        s.takes("sixty of 64 bytes, alike", 1, x -> x.find()).tells("reads", 480, x -> x.reads());
        s.with(x -> x.fill(59, 63, 64, 1));
        s.takes("the last unlike at last", 1, x -> x.find()).tells("reads", 480, x -> x.reads());
        s.tells("it is in none", -1, x -> x.groupOf(59));
        Scene unlike = new Scene();
        for (int i = 0; i < 60; i++) {
            int n = i;
            unlike.with(x -> x.file(0, n, 0, 64)).with(x -> x.fill(n, 0, 1, n));
        }
        unlike.takes("sixty unlike ones", 0, x -> x.find()).tells("one block each", 60, x -> x.reads());
    }

    /** Thirty pairs are the most GROUPS that can be. */
    private static void mostGroups() {
        Scene s = new Scene();
        for (int i = 0; i < 60; i++) {
            int n = i;
            s.with(x -> x.file(0, n, 0, 1 + n % 30));
        }
        s.takes("thirty", 30, x -> x.find());
        s.tells("the last one", 29, x -> x.groupOf(59)).tells("how many", 2, x -> x.member(29, -1));
        s.refuses("no group 30", Scene.NO_SUCH, x -> x.member(30, -1));
        s.refuses("no group 30", Scene.NO_SUCH, x -> x.keep(30));
        s.refuses("no group 30", Scene.NO_SUCH, x -> x.merge(30));
        s.takes("the last one is merged", 1, x -> x.merge(29));
    }

    /** The hundredth BODY is FOUND as any other. */
    private static void lastBodies() {
        Scene s = Scenes.bodiesEver(98).with(x -> x.file(0, 800, 0, 64)).with(x -> x.copy(22, 0, 801));
        s.tells("the last body", 99, x -> x.about(23, 2));
        s.with(x -> x.find()).tells("both are found", 2, x -> x.groupOf(22)).tells("both", 2, x -> x.groupOf(23));
        s.tells("reads", 20 + 2 + 16, x -> x.reads());
        s.with(x -> x.fill(23, 63, 64, 1)).tells("written, in none", -1, x -> x.groupOf(23));
        s.with(x -> x.find()).tells("unlike, in none", -1, x -> x.groupOf(22));
    }

    /** "GROUPS are numbered by their least BODIES": not by SIZE, nor by FILES. */
    private static void numbersByLeastBodies() {
        Scene s = new Scene();
        int[] sizes = {64, 1, 8, 1, 8, 64};
        for (int i = 0; i < sizes.length; i++) {
            int n = i;
            s.with(x -> x.file(0, n, 0, sizes[n]));
        }
        s.with(x -> x.find()).tells("64", 0, x -> x.groupOf(5)).tells("1", 1, x -> x.groupOf(3));
        s.tells("8", 2, x -> x.groupOf(4));
        Scene bodies = Scenes.files(2, 8).with(x -> x.file(0, 2, 0, 9)).with(x -> x.file(0, 3, 0, 9));
        bodies.with(x -> x.find()).with(x -> x.wish(4, 0)).with(x -> x.move(0, 0, 500)).with(x -> x.merge(0));
        bodies.with(x -> x.unmerge()).tells("file 0 has a greater body now", 4, x -> x.about(0, 2));
        bodies.with(x -> x.remove(1)).with(x -> x.copy(0, 0, 1)).takes("two", 2, x -> x.find());
        bodies.tells("file 2 has the lesser body", 0, x -> x.groupOf(2)).tells("file 0", 1, x -> x.groupOf(0));
    }

    /** "What was FOUND stands until it is FOUND anew" */
    private static void standsUntilAnew() {
        Scene s = Scenes.files(2, 8).with(x -> x.find());
        s.with(x -> x.copy(0, 0, 2)).tells("a copy isn't in it", -1, x -> x.groupOf(2));
        s.tells("reads stand", 2, x -> x.reads()).tells("two", 2, x -> x.member(0, -1));
        s.with(x -> x.link(0, 0, 3)).tells("a link is", 0, x -> x.groupOf(3)).tells("3", 3, x -> x.member(0, -1));
        s.with(x -> x.move(0, 0, 999)).tells("a moved one is", 0, x -> x.groupOf(0));
        s.with(x -> x.hold(0, true)).tells("a held one is", 0, x -> x.groupOf(0));
        s.with(x -> x.days(1000)).tells("days later", 0, x -> x.groupOf(0));
        s.with(x -> x.fill(1, 0, 1, 0)).tells("written as it was", -1, x -> x.groupOf(1));
        s.tells("reads stand", 2, x -> x.reads());
        s.takes("anew", 1, x -> x.find()).tells("all", 4, x -> x.member(0, -1)).tells("reads", 3, x -> x.reads());
    }

    /** "of a GROUP fewer BODIES may be left, none, too" */
    private static void fewerAreLeft() {
        Scene s = Scenes.files(6, 8).with(x -> x.fill(4, 0, 8, 1)).with(x -> x.fill(5, 0, 8, 1));
        s.takes("two groups", 2, x -> x.find());
        s.with(x -> x.remove(0)).tells("three", 3, x -> x.member(0, -1)).tells("first", 1, x -> x.member(0, 0));
        s.with(x -> x.write(1, 0, 0)).tells("two", 2, x -> x.member(0, -1)).tells("first", 2, x -> x.member(0, 0));
        s.with(x -> x.write(2, 0, 0)).tells("one", 1, x -> x.member(0, -1)).tells("first", 3, x -> x.member(0, 0));
        s.tells("that one alone is kept", 3, x -> x.keep(0)).refuses("and not merged", 0, x -> x.merge(0));
        s.refuses("no second", Scene.NO_SUCH, x -> x.member(0, 1));
        s.with(x -> x.remove(3)).tells("none", 0, x -> x.member(0, -1));
        s.refuses("no first", Scene.NO_SUCH, x -> x.member(0, 0));
        s.tells("none is kept", -1, x -> x.keep(0)).refuses("none is merged", 0, x -> x.merge(0));
        s.tells("the other group has its number", 1, x -> x.groupOf(4)).tells("two", 2, x -> x.member(1, -1));
    }

    /** "The i-th FILE of a GROUP (by number) as it stands now; i NONE: how many." */
    private static void members() {
        Scene s = Scenes.files(3, 8).with(x -> x.file(0, 3, 0, 9)).with(x -> x.link(0, 0, 4)).with(x -> x.find());
        int[] due = {0, 1, 2, 4};
        for (int i = 0; i < due.length; i++) {
            int n = i;
            s.tells("member " + i, due[i], x -> x.member(0, n));
        }
        s.tells("how many", 4, x -> x.member(0, -1));
        int[] no = {4, -2, 60, Scene.LEAST_INT, Scene.MOST_INT};
        for (int i : no) {
            s.refuses("no member " + i, Scene.NO_SUCH, x -> x.member(0, i));
        }
    }

    /** "NoSuchElementException: no such GROUP was FOUND" */
    private static void noMembers() {
        Scene s = Scenes.files(2, 8).with(x -> x.find());
        int[] no = {-1, 1, 100, Scene.LEAST_INT, Scene.MOST_INT};
        for (int group : no) {
            s.refuses("no group " + group, Scene.NO_SUCH, x -> x.member(group, -1));
            s.refuses("no first of " + group, Scene.NO_SUCH, x -> x.member(group, 0));
        }
        s.with(x -> x.write(0, 0, 1)).takes("none anew", 0, x -> x.find());
        s.refuses("no group 0 any more", Scene.NO_SUCH, x -> x.member(0, -1));
        s.refuses("nor its first", Scene.NO_SUCH, x -> x.member(0, 0));
    }

    private static void membersMost() {
        Scene s = Scenes.files(2, 8);
        for (int i = 2; i < 60; i++) {
            int name = i;
            s.with(x -> x.link(1, 0, name));
        }
        s.with(x -> x.find()).tells("sixty", 60, x -> x.member(0, -1)).tells("the last", 59, x -> x.member(0, 59));
        s.refuses("no more", Scene.NO_SUCH, x -> x.member(0, 60));
    }
}
