/** Sentences in which one call speaks of what another call did before. */
public final class AcrossCallsTest {
    public static void main(String[] args) {
        writtenByAnotherName();
        refusedIsNotWritten();
        foundAndMergedAndUnmerged();
        foundAnewAfterUnmerging();
        membersAsTheyStandNow();
        keptAsItStandsNow();
        leaveIsAskedWhenMerged();
        leaveIsOfTheKeptOne();
        leaveOfTheOwnerThatItHasNow();
        ownerThatItHadBeforeThatMerging();
        copyHasTheOwnerOfNow();
        linkedToTheKeptBody();
        mergedAgainAndUnmerged();
        twentyOneGroups();
        refusedUnmergingStaysTheLatest();
        freedThoughANameWasRemoved();
        nearAndDifferentAfterMerging();
        readmeExample();
        Check.end();
    }

    /** "a BODY that was written since .. is in no GROUP any more": with all of its names. */
    private static void writtenByAnotherName() {
        Scene s = Scenes.files(3, 8).with(x -> x.link(0, 0, 3)).with(x -> x.find());
        s.takes("one other name", 1, x -> x.write(3, 4, 7)).tells("the first is out", -1, x -> x.groupOf(0));
        s.tells("the link is out", -1, x -> x.groupOf(3)).tells("two are left", 2, x -> x.member(0, -1));
        s.with(x -> x.write(0, 4, 0)).tells("as it was, but written", -1, x -> x.groupOf(0));
        s.tells("not near by the group, but by bytes", 1000, x -> x.near(0, 1));
        s.takes("found anew", 1, x -> x.find()).tells("all four", 4, x -> x.member(0, -1));
        s.takes("once more", 1, x -> x.fill(0, 7, 8, 0)).tells("the link is out", -1, x -> x.groupOf(3));
    }

    /** What is refused, and a fill of no places, isn't written: neither GROUP nor DAY changes. */
    private static void refusedIsNotWritten() {
        Scene s = Scenes.files(2, 8).with(x -> x.find()).with(x -> x.days(3));
        s.takes("too far", Scene.ILLEGAL, x -> x.write(0, 5, 1));
        s.takes("too far", Scene.ILLEGAL, x -> x.fill(0, 0, 9, 1));
        s.takes("backwards", Scene.ILLEGAL, x -> x.fill(0, 5, 4, 1));
        s.takes("no places", 0, x -> x.fill(0, 8, 8, 1));
        s.tells("in its group", 0, x -> x.groupOf(0)).tells("of its day", 0, x -> x.about(0, 5));
        s.takes("and merged", 1, x -> x.merge(0));
    }

    /** "What was FOUND stands until it is FOUND anew": merging leaves fewer BODIES, unmerging brings none back. */
    private static void foundAndMergedAndUnmerged() {
        Scene s = Scenes.files(4, 8).with(x -> x.find()).takes("three", 3, x -> x.merge(0));
        s.tells("all are names of the kept body", 4, x -> x.member(0, -1)).tells("0", 0, x -> x.groupOf(3));
        s.takes("three back", 3, x -> x.unmerge());
        s.tells("the kept body alone is in it", 1, x -> x.member(0, -1)).tells("it", 0, x -> x.member(0, 0));
        for (int i = 1; i < 4; i++) {
            int file = i;
            s.tells("a new body is in none: " + i, -1, x -> x.groupOf(file));
        }
        s.tells("kept", 0, x -> x.keep(0)).refuses("none to merge", 0, x -> x.merge(0));
        s.tells("reads of that time", 4, x -> x.reads());
    }

    private static void foundAnewAfterUnmerging() {
        Scene s = Scenes.files(3, 9).with(x -> x.find()).with(x -> x.merge(0));
        s.takes("one body, no group", 0, x -> x.find()).tells("nothing read", 0, x -> x.reads());
        s.refuses("no group any more", Scene.NO_SUCH, x -> x.merge(0)).tells("in none", -1, x -> x.groupOf(1));
        s.takes("the merging is kept all the same", 2, x -> x.unmerge());
        s.refuses("still no group", Scene.NO_SUCH, x -> x.keep(0));
        s.takes("three again", 1, x -> x.find()).tells("two blocks each", 6, x -> x.reads());
        s.tells("all three", 3, x -> x.member(0, -1)).takes("and merged again", 2, x -> x.merge(0));
        s.tells("freed in all", 36, x -> x.count(4));
    }

    /** "The i-th FILE of a GROUP (by number) as it stands now" */
    private static void membersAsTheyStandNow() {
        Scene s = Scenes.files(2, 8);
        Scenes.addFiles(s, 2, 4, 9);
        s.with(x -> x.find()).with(x -> x.link(2, 0, 10)).with(x -> x.link(1, 0, 11)).with(x -> x.copy(3, 0, 12));
        members(s, "linked since", 1, 2, 3, 4);
        members(s, "linked since", 0, 0, 1, 5);
        s.with(x -> x.remove(2));
        members(s, "one gone, its body isn't", 1, 3, 4);
        s.with(x -> x.move(3, 0, 999)).with(x -> x.hold(4, true));
        members(s, "moved, held", 1, 3, 4);
        s.takes("into 0's body", 2, x -> x.merge(0));
        members(s, "merged", 0, 0, 1, 5);
        s.with(x -> x.remove(0));
        members(s, "the kept one is gone", 0, 1, 5);
        s.takes("both get new ones", 2, x -> x.unmerge());
        members(s, "its body is gone then", 0);
        members(s, "the other group stands", 1, 3, 4);
        s.with(x -> x.write(4, 0, 1));
        members(s, "written", 1, 3);
    }

    private static void members(Scene s, String what, int group, int... due) {
        s.tells(what + ": how many", due.length, x -> x.member(group, -1));
        for (int i = 0; i < due.length; i++) {
            int n = i;
            s.tells(what + ": member " + i, due[i], x -> x.member(group, n));
        }
        s.refuses(what + ": no more", Scene.NO_SUCH, x -> x.member(group, due.length));
        s.tells(what + ": kept", due.length == 0 ? -1 : due[0], x -> x.keep(group));
    }

    /** WISHES look at what a FILE is when it is asked for, not when it was FOUND or wished. */
    private static void keptAsItStandsNow() {
        Scene s = Scenes.files(3, 8).with(x -> x.find()).with(x -> x.folder(0, 1)).with(x -> x.folder(1, 1));
        s.with(x -> x.wish(0, 1)).tells("none is there", 0, x -> x.keep(0));
        s.with(x -> x.move(2, 2, 2)).tells("moved below it", 2, x -> x.keep(0));
        s.with(x -> x.wish(3, 0)).with(x -> x.move(1, 1, 1)).tells("moved into it, higher", 1, x -> x.keep(0));
        s.with(x -> x.unwish()).tells("no wishes", 0, x -> x.keep(0));
        s.with(x -> x.wish(4, 0)).with(x -> x.move(0, 0, 5)).tells("another name", 1, x -> x.keep(0));
        s.with(x -> x.unwish()).with(x -> x.wish(5, 0)).with(x -> x.hold(2, true)).tells("held", 2, x -> x.keep(0));
        s.takes("into the held one's", 2, x -> x.merge(0)).tells("its body", 2, x -> x.about(0, 2));
        s.with(x -> x.hold(2, false)).tells("none is held", 0, x -> x.keep(0));
        s.refuses("all have that body", 0, x -> x.merge(0));
    }

    /** LEAVE that came after it was FOUND counts; what is merged stays so. */
    private static void leaveIsAskedWhenMerged() {
        Scene s = new Scene().with(x -> x.file(0, 0, 0, 8)).with(x -> x.file(0, 1, 1, 8)).with(x -> x.file(0, 2, 2, 8));
        s.with(x -> x.find()).refuses("no leave", 0, x -> x.merge(0));
        s.with(x -> x.leave(0, 2)).takes("from 2", 1, x -> x.merge(0)).tells("1's own", 1, x -> x.about(1, 2));
        s.with(x -> x.leave(0, 1)).takes("from 1, too", 1, x -> x.merge(0));
        s.tells("three names", 3, x -> x.about(0, 6)).tells("two mergings", 2, x -> x.count(5));
        s.takes("the latest", 1, x -> x.unmerge()).tells("1 again", 1, x -> x.about(1, 4));
        s.tells("2 not yet", 0, x -> x.about(2, 4));
        s.takes("the first", 1, x -> x.unmerge()).tells("2 again", 2, x -> x.about(2, 4));
    }

    /** "from whom the KEPT one's OWNER has LEAVE": by other WISHES another one is KEPT, and other LEAVE counts. */
    private static void leaveIsOfTheKeptOne() {
        Scene s = new Scene().with(x -> x.file(0, 9, 0, 8)).with(x -> x.file(0, 5, 1, 8)).with(x -> x.file(0, 7, 2, 8));
        s.with(x -> x.leave(1, 0)).with(x -> x.leave(1, 2)).with(x -> x.leave(2, 0)).with(x -> x.find());
        s.tells("kept", 0, x -> x.keep(0)).refuses("0 has no leave", 0, x -> x.merge(0));
        s.with(x -> x.hold(2, true)).with(x -> x.wish(5, 0)).takes("2 has leave from 0", 1, x -> x.merge(0));
        s.tells("2's", 2, x -> x.about(0, 2)).tells("not 1's", 1, x -> x.about(1, 2)).with(x -> x.hold(2, false));
        s.with(x -> x.unwish()).with(x -> x.wish(4, 0)).takes("1 has leave from 2", 2, x -> x.merge(0));
        s.tells("1's", 1, x -> x.about(0, 2)).tells("1's, too", 1, x -> x.about(2, 2));
    }

    /** A FILE that was merged is one of the KEPT BODY's OWNER then: LEAVE from the OWNER before it tells nothing. */
    private static void leaveOfTheOwnerThatItHasNow() {
        Scene s = mergedFrom2Into0();
        s.with(x -> x.leave(1, 2)).refuses("leave from 2, it is 0's now", 0, x -> x.merge(0));
        s.with(x -> x.leave(1, 0)).takes("leave from 0", 2, x -> x.merge(0)).tells("1's now", 1, x -> x.about(1, 4));
    }

    /** FILES 0 (OWNER 0) and 1 (OWNER 2, merged into 0's BODY), and 2 (OWNER 1) that is alike since, HELD and KEPT. */
    private static Scene mergedFrom2Into0() {
        Scene s = new Scene().with(x -> x.file(0, 0, 0, 8)).with(x -> x.file(0, 1, 2, 8)).with(x -> x.find());
        s.with(x -> x.leave(0, 2)).takes("2's is 0's", 1, x -> x.merge(0));
        s.with(x -> x.file(0, 2, 1, 8)).with(x -> x.hold(2, true)).with(x -> x.wish(5, 0));
        return s.takes("alike", 1, x -> x.find()).tells("kept", 2, x -> x.keep(0));
    }

    /** "the OWNER that it had": before the MERGING that is UNMERGED, not before an earlier one. */
    private static void ownerThatItHadBeforeThatMerging() {
        Scene s = mergedFrom2Into0().with(x -> x.leave(1, 0)).takes("both", 2, x -> x.merge(0));
        s.takes("both back", 2, x -> x.unmerge());
        s.tells("0's", 0, x -> x.about(0, 4)).tells("0's, not 2's", 0, x -> x.about(1, 4));
        s.tells("a body each", 3, x -> x.about(0, 2)).tells("a body each", 4, x -> x.about(1, 2));
        s.takes("it hasn't that body still", 0, x -> x.unmerge()).tells("0's still", 0, x -> x.about(1, 4));
        s.refuses("none more", -1, x -> x.unmerge());
    }

    /** "a new BODY of the same bytes and OWNER as another one's": as that one is now. */
    private static void copyHasTheOwnerOfNow() {
        Scene s = mergedFrom2Into0();
        s.with(x -> x.copy(1, 0, 50)).tells("0's", 0, x -> x.about(3, 4)).with(x -> x.fill(1, 0, 8, 5));
        s.tells("the copy isn't written", 0, x -> x.at(3, 0)).with(x -> x.unmerge());
        s.with(x -> x.copy(1, 0, 51)).tells("2's", 2, x -> x.about(4, 4)).tells("bytes of now", 5, x -> x.at(4, 7));
        s.tells("a copy didn't get a body by merging", 3, x -> x.about(3, 2));
    }

    /** A link of a merged FILE didn't get its BODY by the MERGING: it has it still when that is undone. */
    private static void linkedToTheKeptBody() {
        Scene s = Scenes.files(2, 8).with(x -> x.find()).with(x -> x.merge(0)).with(x -> x.link(1, 0, 2));
        s.with(x -> x.remove(0)).takes("one", 1, x -> x.unmerge());
        s.tells("a new one", 2, x -> x.about(1, 2)).tells("the kept one's still", 0, x -> x.about(2, 2));
        s.tells("in its group", 0, x -> x.groupOf(2)).takes("written alone", 0, x -> x.fill(2, 0, 8, 1));
        s.tells("that isn't written", 0, x -> x.at(1, 0));
    }

    /** One FILE merged there, elsewhere, and back there: each MERGING is undone for what it gave. */
    private static void mergedAgainAndUnmerged() {
        Scene s = Scenes.files(3, 8).with(x -> x.hold(2, true)).with(x -> x.find());
        s.takes("1 into 0's", 1, x -> x.merge(0)).with(x -> x.wish(5, 0)).takes("both into 2's", 2, x -> x.merge(0));
        s.tells("one body is left", 1, x -> x.count(2)).tells("freed", 16, x -> x.count(4));
        s.with(x -> x.days(4)).takes("two others", 2, x -> x.write(0, 0, 1)).with(x -> x.days(1));
        s.takes("two", 2, x -> x.unmerge()).tells("0's day", 4, x -> x.about(0, 5)).tells("1's", 4, x -> x.about(1, 5));
        s.tells("0's body", 3, x -> x.about(0, 2)).tells("1's body", 4, x -> x.about(1, 2));
        s.takes("0's body of then is gone", 0, x -> x.unmerge()).tells("as it was", 4, x -> x.about(1, 2));
    }

    /** "at most 20 are kept, the latest ones": each of another GROUP, so that each has another KEPT BODY. */
    private static void twentyOneGroups() {
        Scene s = new Scene();
        for (int i = 0; i < 42; i++) {
            int n = i;
            s.with(x -> x.file(0, n, n % 2, 1 + n / 2));
        }
        s.with(x -> x.leave(0, 1)).takes("groups", 21, x -> x.find());
        for (int i = 0; i < 21; i++) {
            int group = i;
            s.takes("merged " + i, 1, x -> x.merge(group));
        }
        s.tells("twenty are kept", 20, x -> x.count(5)).tells("all freed", 231, x -> x.count(4));
        for (int i = 20; i >= 1; i--) {
            int file = 2 * i + 1;
            int body = 62 - i;
            s.takes("unmerged " + i, 1, x -> x.unmerge()).takes("its body " + i, body, x -> x.about(file, 2));
            s.takes("its owner " + i, 1, x -> x.about(file, 4));
        }
        s.refuses("the first isn't kept", -1, x -> x.unmerge()).tells("merged still", 0, x -> x.about(1, 2));
        s.tells("freed in all stands", 231, x -> x.count(4));
    }

    /** "NONE, and nothing changes": the one that was refused is the latest still, and is undone before older ones. */
    private static void refusedUnmergingStaysTheLatest() {
        Scene s = Scenes.bodiesEver(98).with(x -> x.find());
        s.takes("the one of 5 bytes", 1, x -> x.merge(1));
        s.takes("those of 4 bytes", 19, x -> x.merge(0));
        s.refuses("19 more than 98", -1, x -> x.unmerge());
        for (int i = 1; i < 18; i++) {
            int file = i;
            s.with(x -> x.remove(file));
        }
        s.takes("two more", 2, x -> x.unmerge()).tells("a hundred", 100, x -> x.count(7));
        s.refuses("the older one would be one too many", -1, x -> x.unmerge());
        s.with(x -> x.remove(21)).takes("none", 0, x -> x.unmerge()).refuses("none is kept", -1, x -> x.unmerge());
    }

    /** "FREED: the SIZES of BODIES that are GONE by it": not those that a remove let go. */
    private static void freedThoughANameWasRemoved() {
        Scene s = Scenes.files(3, 8).with(x -> x.link(1, 0, 3)).with(x -> x.find());
        s.takes("another name is left", 1, x -> x.remove(3)).takes("gone by remove", 0, x -> x.remove(2));
        s.tells("nothing freed", 0, x -> x.count(4)).takes("one", 1, x -> x.merge(0)).tells("8", 8, x -> x.count(4));
        s.with(x -> x.remove(0)).takes("gone by unmerging", 1, x -> x.unmerge()).tells("8", 8, x -> x.count(4));
    }

    /** A merged FILE's BODY is no other one; what is written through one name is alike in all FOLDERS. */
    private static void nearAndDifferentAfterMerging() {
        Scene s = Scenes.chain(2).with(x -> x.file(0, 1, 0, 8)).with(x -> x.file(1, 1, 0, 8)).with(x -> x.find());
        s.tells("a double", 1, x -> x.nearest(0, 1000)).with(x -> x.merge(0)).tells("none", -1, x -> x.nearest(0, 0));
        s.tells("near itself", 1000, x -> x.near(0, 1)).with(x -> x.write(1, 0, 1));
        s.tells("written in both: a folder alone", 1, x -> x.differ(0, 1)).with(x -> x.unmerge());
        s.tells("alike still", 1, x -> x.differ(0, 1)).tells("a double again", 1, x -> x.nearest(0, 1000));
        s.with(x -> x.write(1, 0, 2)).tells("written in one", 2, x -> x.differ(0, 1));
        // 0 0 0 0 is in both; four others in each one alone
        s.tells("one of nine", 111, x -> x.near(0, 1)).tells("so near", 1, x -> x.nearest(0, 111));
        s.tells("no nearer", -1, x -> x.nearest(0, 112));
    }

    /** What README.md shows. */
    private static void readmeExample() {
        Scene s = new Scene().takes("photos", 1, x -> x.folder(0, 5)).takes("a", 0, x -> x.file(0, 1, 0, 16));
        s.takes("b", 1, x -> x.copy(0, 1, 1)).takes("groups", 1, x -> x.find()).takes("blocks", 4, x -> x.reads());
        s.takes("wishes", 1, x -> x.wish(0, 1)).takes("kept", 1, x -> x.keep(0)).takes("merged", 1, x -> x.merge(0));
        s.takes("freed", 16, x -> x.count(4)).takes("told", 1, x -> x.write(0, 0, 0x01020304));
        s.takes("seen", 4, x -> x.at(1, 3)).takes("parted", 1, x -> x.unmerge());
        s.takes("alone", 0, x -> x.fill(0, 0, 16, 0));
    }
}
