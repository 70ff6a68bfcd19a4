/** The edges that "What it is", the Terms of FOLDERS, FILES and BODIES, and promise 1 name. */
public final class EdgesOfTermsTest {
    public static void main(String[] args) {
        callsOfDays();
        callsOfFind();
        callsOfMergeAndUnmerge();
        callsOfWish();
        newObject();
        newObjectHasNoLeave();
        gone();
        goneIsNeverBack();
        oneNameInOneFolder();
        dayAtFirst();
        bytesAtFirst();
        bodyGone();
        Check.end();
    }

    /** "An object is used for at most 512 calls": all of them answer, up to the latest DAY that can be. */
    private static void callsOfDays() {
        Scene s = new Scene();
        for (int i = 1; i <= Scene.MOST_CALLS; i++) {
            s.takes("call " + i, 1000 * i, x -> x.days(1000));
        }
    }

    private static void callsOfFind() {
        Scene s = Scenes.files(60, 64);
        while (s.size() < Scene.MOST_CALLS) {
            s.takes("found in call " + (s.size() + 1), 1, x -> x.find());
            s.takes("read in call " + (s.size() + 1), 480, x -> x.reads());
        }
    }

    /** Two FILES again and again, until there are 100 BODIES and on to the 512th call. */
    private static void callsOfMergeAndUnmerge() {
        Scene s = Scenes.files(2, 64);
        for (int bodies = 3; bodies <= 100; bodies++) {
            s.takes("one group at " + bodies, 1, x -> x.find());
            s.takes("merged at " + bodies, 1, x -> x.merge(0));
            s.takes("unmerged at " + bodies, 1, x -> x.unmerge());
        }
        s.takes("one group at last", 1, x -> x.find());
        s.takes("merged at last", 1, x -> x.merge(0));
        while (s.size() < Scene.MOST_CALLS - 1) {
            s.takes("100 bodies were, call " + (s.size() + 1), -1, x -> x.unmerge());
        }
        s.takes("freed in all, the 512th call", 99 * 64, x -> x.count(4));
    }

    private static void callsOfWish() {
        Scene s = new Scene();
        for (int i = 0; i < Scene.MOST_CALLS / 4; i++) {
            s.takes("one", 1, x -> x.wish(0, 0)).takes("two", 2, x -> x.wish(1, 0));
            s.takes("three", 3, x -> x.wish(5, 0)).takes("all go", 3, x -> x.unwish());
        }
    }

    /** Promise 1: "FOLDER 0 alone; no WISHES, no LEAVE." */
    private static void newObject() {
        Scene s = new Scene();
        int[] counts = {1, 0, 0, 0, 0, 0, 0, 0};
        for (int i = 0; i < counts.length; i++) {
            int what = i;
            s.tells("count(" + what + ")", counts[what], x -> x.count(what));
        }
        s.tells("folder 0 is there", 0, x -> x.differ(0, 0));
        s.refuses("folder 1 is not", Scene.NO_SUCH, x -> x.differ(0, 1));
        s.refuses("file 0 is not", Scene.NO_SUCH, x -> x.about(0, 0));
        s.tells("no wishes", 0, x -> x.unwish());
        s.refuses("no merging", -1, x -> x.unmerge());
        s.refuses("no group", Scene.NO_SUCH, x -> x.member(0, -1));
        s.tells("nothing was read", 0, x -> x.reads());
        s.takes("its first folder", 1, x -> x.folder(0, 0));
        s.takes("its first file", 0, x -> x.file(0, 0, 0, 0));
        s.tells("its first body", 0, x -> x.about(0, 2));
        s.takes("its first wish", 1, x -> x.wish(1, 0));
    }

    /** No OWNER has LEAVE from another one: told by leave, and by what is merged without it. */
    private static void newObjectHasNoLeave() {
        Scene all = new Scene();
        for (int i = 0; i < 8; i++) {
            for (int j = 0; j < 8; j++) {
                int owner = i;
                int from = j;
                all.takes("no leave yet: " + i + " from " + j, true, x -> x.leave(owner, from));
                Scene s = new Scene().with(x -> x.file(0, 0, owner, 1)).with(x -> x.file(0, 1, from, 1));
                s.takes("both are found", 1, x -> x.find());
                s.takes("merged: " + i + " from " + j, i == j ? 1 : 0, x -> x.merge(0));
            }
        }
    }

    /** "one that is GONE has none of these and is no FILE any more": every call that takes a FILE. */
    private static void gone() {
        Scene s = new Scene().with(x -> x.folder(0, 1));
        s.with(x -> x.file(0, 1, 0, 8)).with(x -> x.file(0, 2, 0, 8)).with(x -> x.file(0, 3, 0, 8));
        s.with(x -> x.link(1, 0, 4)).with(x -> x.find()).with(x -> x.remove(1));
        noFile(s, 1);
        noFile(s, 4);
        noFile(s, -1);
        noFile(s, 60);
        noFile(s, Scene.LEAST_INT);
        noFile(s, Scene.MOST_INT);
        s.tells("its body is there by another name", 1, x -> x.about(3, 2));
        s.takes("its name is free", 4, x -> x.file(0, 2, 0, 8));
        s.tells("what has its name now isn't what it was", 3, x -> x.about(4, 2));
    }

    private static void noFile(Scene s, int file) {
        String no = "no file " + file + ": ";
        s.refuses(no + "copy", Scene.NO_SUCH, x -> x.copy(file, 0, 9));
        s.refuses(no + "link", Scene.NO_SUCH, x -> x.link(file, 0, 9));
        s.refuses(no + "move", Scene.NO_SUCH, x -> x.move(file, 0, 9));
        s.refuses(no + "remove", Scene.NO_SUCH, x -> x.remove(file));
        s.refuses(no + "hold", Scene.NO_SUCH, x -> x.hold(file, true));
        s.refuses(no + "hold no more", Scene.NO_SUCH, x -> x.hold(file, false));
        s.refuses(no + "write", Scene.NO_SUCH, x -> x.write(file, 0, 1));
        s.refuses(no + "fill", Scene.NO_SUCH, x -> x.fill(file, 0, 1, 1));
        s.refuses(no + "fill of nothing", Scene.NO_SUCH, x -> x.fill(file, 0, 0, 1));
        s.refuses(no + "at", Scene.NO_SUCH, x -> x.at(file, 0));
        for (int i = 0; i <= 8; i++) {
            int what = i;
            s.refuses(no + "about " + i, Scene.NO_SUCH, x -> x.about(file, what));
        }
        s.refuses(no + "groupOf", Scene.NO_SUCH, x -> x.groupOf(file));
        s.refuses(no + "near", Scene.NO_SUCH, x -> x.near(file, 0));
        s.refuses(no + "near, the other", Scene.NO_SUCH, x -> x.near(0, file));
        s.refuses(no + "nearest", Scene.NO_SUCH, x -> x.nearest(file, 0));
    }

    /** Its number isn't given again, and what other calls tell leaves it out. */
    private static void goneIsNeverBack() {
        Scene s = Scenes.files(3, 4).with(x -> x.folder(0, 1)).with(x -> x.folder(0, 2)).with(x -> x.move(2, 1, 0));
        s.takes("the last one goes", 0, x -> x.remove(2));
        s.tells("files that are there", 2, x -> x.count(1));
        s.tells("it is in no folder", 0, x -> x.differ(1, 2));
        s.takes("a new one has another number", 3, x -> x.file(0, 2, 0, 4));
        s.refuses("it is not back", Scene.NO_SUCH, x -> x.about(2, 0));
        s.takes("find leaves it out", 1, x -> x.find());
        s.tells("three are in the group", 3, x -> x.member(0, -1));
        s.tells("the last of them", 3, x -> x.member(0, 2));
        s.tells("nearest leaves it out", 0, x -> x.nearest(3, 1000));
        s.takes("merge leaves it out", 2, x -> x.merge(0));
    }

    /** "In one FOLDER no two FILES, no two FOLDERS have one NAME": a FILE and a FOLDER may. */
    private static void oneNameInOneFolder() {
        Scene s = new Scene().with(x -> x.folder(0, 5)).with(x -> x.file(0, 6, 0, 1));
        s.refuses("two folders", -1, x -> x.folder(0, 5));
        s.refuses("two files", -1, x -> x.file(0, 6, 0, 1));
        s.takes("a file of a folder's name", 1, x -> x.file(0, 5, 0, 1));
        s.takes("a folder of a file's name", 2, x -> x.folder(0, 6));
        s.takes("a folder's name in another folder", 3, x -> x.folder(1, 5));
        s.takes("a file's name in another folder", 2, x -> x.file(1, 5, 0, 1));
    }

    /** "DAY is 0 at first." */
    private static void dayAtFirst() {
        Scene s = new Scene().tells("day", 0, x -> x.count(6)).tells("no days go by", 0, x -> x.days(0));
        s.with(x -> x.file(0, 0, 0, 1)).tells("the day when it came", 0, x -> x.about(0, 5));
    }

    /** "so many bytes (0 at first)", of the greatest SIZE, in the last BODY too. */
    private static void bytesAtFirst() {
        Scene first = Scenes.files(1, 64);
        Scene last = Scenes.bodiesEver(99).with(x -> x.file(0, 999, 0, 64));
        last.tells("the hundredth body", 99, x -> x.about(23, 2));
        for (int i = 0; i < 64; i++) {
            int place = i;
            first.takes("first body, byte " + i, 0, x -> x.at(0, place));
            last.takes("last body, byte " + i, 0, x -> x.at(23, place));
        }
    }

    /** "a BODY that no FILE has is GONE" */
    private static void bodyGone() {
        Scene s = Scenes.names(2, 5);
        s.takes("one name has it", 1, x -> x.remove(0));
        s.tells("it is there", 1, x -> x.count(2)).tells("its bytes", 5, x -> x.count(3));
        s.takes("no name has it", 0, x -> x.remove(1));
        s.tells("it is gone", 0, x -> x.count(2)).tells("no bytes", 0, x -> x.count(3));
        s.tells("it was", 1, x -> x.count(7));
    }
}
