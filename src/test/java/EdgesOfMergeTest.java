/** The edges that MERGED, FREED, UNMERGED and promises 24 and 25 name: merge, unmerge. */
public final class EdgesOfMergeTest {
    private static final int[] NO_GROUPS = {-1, 1, 100, Scene.LEAST_INT, Scene.MOST_INT};

    public static void main(String[] args) {
        noSuchGroup();
        noneGotIt();
        noneIsKeptIfNoneGotIt();
        heldOnes();
        keptIsHeld();
        leaveOneWay();
        mostGotIt();
        freedByTheLastName();
        leastAndMostFreed();
        noneIsKept();
        aHundredAndOneMore();
        noneAtAHundred();
        twentyMergings();
        twentyFirstWithNone();
        roundAndRound();
        isStillThere();
        hasThatBodyStill();
        ownersThatTheyHad();
        dayAndBytesOfNow();
        keptIsGone();
        Check.end();
    }

    /** "NoSuchElementException likewise.": no such GROUP was FOUND. */
    private static void noSuchGroup() {
        Scene s = Scenes.files(2, 8);
        for (int group : NO_GROUPS) {
            s.refuses("not found yet: " + group, Scene.NO_SUCH, x -> x.merge(group));
        }
        s.refuses("not found yet: 0", Scene.NO_SUCH, x -> x.merge(0));
        s.with(x -> x.find());
        for (int group : NO_GROUPS) {
            s.refuses("no group " + group, Scene.NO_SUCH, x -> x.merge(group));
        }
        s.takes("group 0", 1, x -> x.merge(0));
        s.takes("found anew: none", 0, x -> x.find()).refuses("no group 0", Scene.NO_SUCH, x -> x.merge(0));
    }

    /** "(a MERGING is kept if some did)": a GROUP of one, and of none. */
    private static void noneGotIt() {
        Scene s = Scenes.files(2, 8).with(x -> x.find()).with(x -> x.remove(1));
        s.refuses("one is left", 0, x -> x.merge(0));
        s.with(x -> x.link(0, 0, 7)).refuses("two names of one body", 0, x -> x.merge(0));
        s.with(x -> x.write(0, 0, 1)).refuses("none is left", 0, x -> x.merge(0));
        s.refuses("nothing to undo", -1, x -> x.unmerge());
    }

    /** A merge by which none gets it leaves the MERGING before it the latest. */
    private static void noneIsKeptIfNoneGotIt() {
        Scene s = Scenes.files(3, 8).with(x -> x.hold(2, true)).with(x -> x.find());
        s.takes("one", 1, x -> x.merge(0)).tells("one is kept", 1, x -> x.count(5));
        s.refuses("none", 0, x -> x.merge(0));
        s.takes("the one is undone", 1, x -> x.unmerge()).tells("none is kept", 0, x -> x.count(5));
        s.refuses("none more", -1, x -> x.unmerge());
    }

    /** "that isn't HELD" */
    private static void heldOnes() {
        Scene s = Scenes.files(3, 8).with(x -> x.find());
        s.with(x -> x.hold(1, true)).with(x -> x.hold(2, true)).refuses("all others are held", 0, x -> x.merge(0));
        s.with(x -> x.hold(2, false)).takes("one isn't", 1, x -> x.merge(0));
        s.tells("held", 1, x -> x.about(1, 2)).tells("not held", 0, x -> x.about(2, 2));
        s.tells("freed", 8, x -> x.count(4));
    }

    private static void keptIsHeld() {
        Scene s = Scenes.files(2, 8).with(x -> x.hold(0, true)).with(x -> x.find());
        s.takes("the kept one may be held", 1, x -> x.merge(0)).tells("its body stays", 0, x -> x.about(0, 2));
        Scene names = Scenes.files(2, 8).with(x -> x.link(1, 0, 2)).with(x -> x.hold(1, true)).with(x -> x.find());
        names.takes("another name of a held one's body", 1, x -> x.merge(0));
        names.tells("held", 1, x -> x.about(1, 2)).tells("got it", 0, x -> x.about(2, 2));
        names.tells("nothing freed", 0, x -> x.count(4));
    }

    /** "of one from whom the KEPT one's OWNER has LEAVE": not the other way, nor from another one by a third. */
    private static void leaveOneWay() {
        Scene s = new Scene().with(x -> x.file(0, 0, 0, 8)).with(x -> x.file(0, 1, 7, 8)).with(x -> x.find());
        s.refuses("no leave", 0, x -> x.merge(0));
        s.with(x -> x.leave(7, 0)).refuses("the other way", 0, x -> x.merge(0));
        s.with(x -> x.leave(0, 6)).with(x -> x.leave(6, 7)).refuses("by a third", 0, x -> x.merge(0));
        s.with(x -> x.leave(0, 7)).takes("leave", 1, x -> x.merge(0)).tells("owner now", 0, x -> x.about(1, 4));
    }

    private static void mostGotIt() {
        Scene s = Scenes.files(2, 64);
        for (int i = 2; i < 60; i++) {
            int name = i;
            s.with(x -> x.link(1, 0, name));
        }
        s.with(x -> x.find()).takes("59", 59, x -> x.merge(0)).tells("sixty names", 60, x -> x.about(59, 6));
        s.tells("freed once", 64, x -> x.count(4)).tells("bytes", 64, x -> x.count(3));
        s.takes("59 bodies more", 59, x -> x.unmerge()).tells("ever", 61, x -> x.count(7));
        s.tells("the first of them", 2, x -> x.about(1, 2)).tells("the last of them", 60, x -> x.about(59, 2));
        s.tells("freed in all stands", 64, x -> x.count(4));
    }

    /** "the SIZES of BODIES that are GONE by it": with the last name alone. */
    private static void freedByTheLastName() {
        Scene s = Scenes.files(2, 5).with(x -> x.link(1, 0, 2)).with(x -> x.hold(2, true)).with(x -> x.find());
        s.takes("one of two names", 1, x -> x.merge(0)).tells("nothing freed", 0, x -> x.count(4));
        s.tells("both are there", 2, x -> x.count(2)).with(x -> x.hold(2, false));
        s.takes("the other name", 1, x -> x.merge(0)).tells("freed", 5, x -> x.count(4));
        s.tells("one is there", 1, x -> x.count(2));
        s.takes("removed, not merged", 2, x -> x.remove(0)).tells("freed by merging alone", 5, x -> x.count(4));
    }

    private static void leastAndMostFreed() {
        Scene least = Scenes.files(2, 1).with(x -> x.find()).takes("one", 1, x -> x.merge(0));
        least.tells("one byte", 1, x -> x.count(4));
        Scene most = Scenes.files(60, 64).with(x -> x.find()).takes("59", 59, x -> x.merge(0));
        most.tells("59 bodies of 64", 3776, x -> x.count(4)).tells("one is there", 1, x -> x.count(2));
        most.refuses("more than 100 then", -1, x -> x.unmerge());
    }

    /** Promise 25: "NONE, and nothing changes: none is kept" */
    private static void noneIsKept() {
        new Scene().refuses("a new object", -1, x -> x.unmerge());
        Scene s = Scenes.files(2, 8).with(x -> x.find()).refuses("found, not merged", -1, x -> x.unmerge());
        s.with(x -> x.merge(0)).takes("one", 1, x -> x.unmerge()).refuses("one more", -1, x -> x.unmerge());
    }

    /** "or there would be more than 100 BODIES": 100 are allowed, 101 are not, and what is left can be undone later. */
    private static void aHundredAndOneMore() {
        Scene allowed = Scenes.bodiesEver(96).with(x -> x.remove(0));
        for (int i = 5; i < 20; i++) {
            int file = i;
            allowed.with(x -> x.remove(file));
        }
        allowed.with(x -> x.copy(1, 0, 500)).with(x -> x.find()).tells("97 were", 97, x -> x.count(7));
        allowed.takes("four get it", 4, x -> x.merge(0));
        allowed.refuses("101 would be", -1, x -> x.unmerge()).refuses("101 again", -1, x -> x.unmerge());
        allowed.with(x -> x.remove(2)).takes("100 are allowed", 3, x -> x.unmerge());
        allowed.tells("a hundred", 100, x -> x.count(7)).tells("the last one", 99, x -> x.about(20, 2));
        allowed.tells("no merging", 0, x -> x.count(5)).refuses("none more", -1, x -> x.unmerge());
    }

    /** At 100 BODIES one more is refused, none more is not. */
    private static void noneAtAHundred() {
        Scene s = Scenes.bodiesEver(100).with(x -> x.find()).tells("the sizes 5", 1, x -> x.groupOf(23));
        s.takes("three get it", 3, x -> x.merge(1)).refuses("three more", -1, x -> x.unmerge());
        s.with(x -> x.remove(21)).with(x -> x.remove(22)).refuses("one more", -1, x -> x.unmerge());
        s.with(x -> x.remove(23)).takes("none more", 0, x -> x.unmerge());
        s.tells("a hundred", 100, x -> x.count(7)).tells("no merging", 0, x -> x.count(5));
    }

    /** So many FILES, all but the first HELD; each is let go and merged by a MERGING of its own. */
    private static Scene oneByOne(int mergings) {
        Scene s = Scenes.files(mergings + 1, 8);
        for (int i = 1; i <= mergings; i++) {
            int file = i;
            s.with(x -> x.hold(file, true));
        }
        s.with(x -> x.find());
        for (int i = 1; i <= mergings; i++) {
            int file = i;
            s.with(x -> x.hold(file, false)).takes("merging " + i, 1, x -> x.merge(0));
        }
        return s;
    }

    /** "at most 20 are kept, the latest ones": 19, 20, 21 and 40 of them. */
    private static void twentyMergings() {
        int[] many = {19, 20, 21, 40};
        for (int n : many) {
            Scene s = oneByOne(n);
            int kept = Math.min(n, 20);
            s.tells("kept of " + n, kept, x -> x.count(5));
            for (int i = 0; i < kept; i++) {
                int file = n - i;
                int left = kept - 1 - i;
                s.takes("undone of " + n + ": " + i, 1, x -> x.unmerge());
                s.takes("the latest of " + n + ": " + i, n + 1 + i, x -> x.about(file, 2));
                s.takes("left of " + n + ": " + i, left, x -> x.count(5));
            }
            s.refuses("no more of " + n, -1, x -> x.unmerge());
            s.tells("the oldest have the kept body", n - kept + 1, x -> x.about(0, 6));
        }
    }

    /** A merge by which none gets it pushes none of the twenty out. */
    private static void twentyFirstWithNone() {
        Scene s = oneByOne(20).refuses("none is left", 0, x -> x.merge(0));
        s.refuses("nor then", 0, x -> x.merge(0));
        for (int i = 0; i < 20; i++) {
            s.takes("all twenty are there: " + i, 1, x -> x.unmerge());
        }
        s.refuses("and no more", -1, x -> x.unmerge());
    }

    /** Some undone and some new ones, past the twentieth: always the latest that isn't undone. */
    private static void roundAndRound() {
        Scene s = oneByOne(25);
        for (int i = 0; i < 5; i++) {
            s.takes("undone", 1, x -> x.unmerge());
        }
        s.tells("fifteen", 15, x -> x.count(5));
        s.with(x -> x.find());
        for (int i = 21; i <= 25; i++) {
            int file = i;
            s.with(x -> x.hold(file, true));
        }
        for (int i = 25; i >= 21; i--) {
            int file = i;
            s.with(x -> x.hold(file, false)).takes("merged anew", 1, x -> x.merge(0));
        }
        s.tells("twenty", 20, x -> x.count(5));
        for (int i = 0; i < 20; i++) {
            int file = i < 5 ? 21 + i : 25 - i;
            s.takes("undone: " + i, 1, x -> x.unmerge()).takes("this one: " + i, 1, x -> x.about(file, 6));
        }
        s.refuses("no more", -1, x -> x.unmerge()).tells("five are never undone", 6, x -> x.about(0, 6));
    }

    /** "is still there": some are GONE, all are. */
    private static void isStillThere() {
        Scene s = Scenes.files(4, 8).with(x -> x.find()).takes("three", 3, x -> x.merge(0));
        s.with(x -> x.remove(2)).takes("two of three", 2, x -> x.unmerge()).tells("ever", 6, x -> x.count(7));
        Scene gone = Scenes.files(3, 8).with(x -> x.find()).takes("two", 2, x -> x.merge(0));
        gone.with(x -> x.remove(1)).with(x -> x.remove(2)).takes("none of two", 0, x -> x.unmerge());
        gone.tells("no body came", 3, x -> x.count(7)).refuses("it is undone", -1, x -> x.unmerge());
        Scene all = Scenes.files(2, 8).with(x -> x.find()).with(x -> x.merge(0)).with(x -> x.remove(0));
        all.with(x -> x.remove(1)).takes("no file at all", 0, x -> x.unmerge());
    }

    /** "has that BODY still": a later MERGING gave it another one, and a later unmerging a new one. */
    private static void hasThatBodyStill() {
        Scene s = Scenes.files(3, 8).with(x -> x.fill(2, 0, 8, 1)).with(x -> x.find()).takes("one", 1, x -> x.merge(0));
        s.with(x -> x.fill(0, 0, 8, 1)).with(x -> x.find()).with(x -> x.hold(2, true)).with(x -> x.wish(5, 0));
        s.takes("both into the third's", 2, x -> x.merge(0)).tells("two mergings", 2, x -> x.count(5));
        s.takes("both back", 2, x -> x.unmerge()).tells("a new body", 4, x -> x.about(1, 2));
        s.takes("it has another one since", 0, x -> x.unmerge()).tells("as it was", 4, x -> x.about(1, 2));
        s.refuses("none more", -1, x -> x.unmerge());
    }

    /** "the OWNER that it had": each its own, the least and the greatest. */
    private static void ownersThatTheyHad() {
        Scene s = new Scene();
        for (int i = 0; i < 8; i++) {
            int owner = i;
            s.with(x -> x.file(0, owner, owner, 8)).with(x -> x.leave(3, owner));
        }
        s.with(x -> x.hold(3, true)).with(x -> x.wish(5, 0)).with(x -> x.find()).takes("seven", 7, x -> x.merge(0));
        s.tells("owner of all", 3, x -> x.about(0, 4)).tells("owner of all", 3, x -> x.about(7, 4));
        s.takes("seven back", 7, x -> x.unmerge());
        for (int i = 0; i < 8; i++) {
            int owner = i;
            int body = i == 3 ? 3 : i < 3 ? 8 + i : 7 + i;
            s.tells("its own owner " + i, owner, x -> x.about(owner, 4));
            s.tells("its own body " + i, body, x -> x.about(owner, 2));
        }
    }

    /** "of the bytes that its own has now, the DAY of that one" */
    private static void dayAndBytesOfNow() {
        Scene s = Scenes.files(3, 64).with(x -> x.find()).with(x -> x.days(1)).with(x -> x.merge(0));
        s.with(x -> x.days(1)).takes("written", 2, x -> x.fill(1, 63, 64, 200)).with(x -> x.days(1));
        s.takes("two", 2, x -> x.unmerge());
        for (int i = 0; i < 3; i++) {
            int file = i;
            s.tells("its last byte", 200, x -> x.at(file, 63)).tells("its first", 0, x -> x.at(file, 0));
            s.tells("its day", 2, x -> x.about(file, 5)).tells("its size", 64, x -> x.about(file, 3));
            s.tells("in no group", -1, x -> x.groupOf(file));
        }
        s.takes("each is written alone", 0, x -> x.fill(2, 63, 64, 1)).tells("not that", 200, x -> x.at(1, 63));
    }

    /** The KEPT FILE is GONE, its BODY isn't until the last name has another one. */
    private static void keptIsGone() {
        Scene s = Scenes.files(3, 8).with(x -> x.find()).with(x -> x.merge(0)).takes("two still", 2, x -> x.remove(0));
        s.takes("both get new ones", 2, x -> x.unmerge()).tells("bodies there", 2, x -> x.count(2));
        s.tells("bytes", 16, x -> x.count(3)).tells("freed by merging alone", 16, x -> x.count(4));
        s.tells("no member any more", 0, x -> x.member(0, -1)).tells("none kept", -1, x -> x.keep(0));
    }
}
