/**
 * Every call that is refused, and every one that only tells, in an object that has something of everything: nothing
 * changes by it, not even what the call has nothing to do with.
 */
public final class EdgesOfRefusedTest {
    private static final int[] NO_FILES = {-1, 5, 9, 60, Scene.LEAST_INT, Scene.MOST_INT};
    private static final int[] NO_FOLDERS = {-1, 3, 16, Scene.LEAST_INT, Scene.MOST_INT};
    private static final int[] NO_NAMES = {-1, 1000, Scene.LEAST_INT, Scene.MOST_INT};
    private static final int[] NO_GROUPS = {-1, 2, Scene.LEAST_INT, Scene.MOST_INT};

    public static void main(String[] args) {
        scene();
        foldersAndFiles();
        bytes();
        groups();
        tellingCalls();
        wishesAndOwners();
        mergings();
        daysAndCounts();
        Check.end();
    }

    /**
     * Three FOLDERS; FILES 0 to 8, of which 5 is GONE and 3 HELD; GROUP 0 of the FILES 0, 1, 3, 4 (0 and 1 merged)
     * and GROUP 1 of 6 and 7 (8 is a link of 7); two WISHES, a LEAVE, a MERGING, DAY 12.
     */
    private static Scene rich() {
        Scene s = new Scene().with(x -> x.folder(0, 1)).with(x -> x.folder(1, 2));
        s.with(x -> x.file(0, 0, 0, 8)).with(x -> x.file(1, 1, 0, 8)).with(x -> x.file(2, 2, 0, 8));
        s.with(x -> x.days(5)).with(x -> x.file(1, 3, 0, 8)).with(x -> x.file(2, 4, 1, 8));
        s.with(x -> x.file(0, 5, 0, 9)).with(x -> x.file(0, 6, 2, 9)).with(x -> x.file(1, 6, 3, 9));
        s.with(x -> x.link(7, 2, 6)).with(x -> x.remove(5)).with(x -> x.hold(3, true));
        s.with(x -> x.hold(4, true)).with(x -> x.find()).with(x -> x.write(2, 4, 0x01020384));
        s.with(x -> x.merge(0)).with(x -> x.hold(4, false)).with(x -> x.leave(3, 2)).with(x -> x.leave(7, 0));
        return s.with(x -> x.wish(3, 0)).with(x -> x.wish(0, 1)).with(x -> x.days(7));
    }

    private static void scene() {
        Scene s = rich();
        int[] counts = {3, 8, 6, 50, 8, 1, 12, 8};
        for (int i = 0; i < counts.length; i++) {
            int what = i;
            s.tells("count(" + i + ")", counts[i], x -> x.count(what));
        }
        s.tells("group 0", 4, x -> x.member(0, -1)).tells("group 1", 3, x -> x.member(1, -1));
        s.tells("kept of 0", 0, x -> x.keep(0)).tells("kept of 1", 6, x -> x.keep(1));
        s.tells("reads", 5 + 2 * 2, x -> x.reads());
    }

    private static void foldersAndFiles() {
        Scene s = rich();
        for (int no : NO_FOLDERS) {
            s.refuses("folder in " + no, Scene.NO_SUCH, x -> x.folder(no, 9));
            s.refuses("file in " + no, Scene.NO_SUCH, x -> x.file(no, 9, 0, 8));
            s.refuses("copy in " + no, Scene.NO_SUCH, x -> x.copy(0, no, 9));
            s.refuses("link in " + no, Scene.NO_SUCH, x -> x.link(0, no, 9));
            s.refuses("move to " + no, Scene.NO_SUCH, x -> x.move(0, no, 9));
        }
        for (int no : NO_NAMES) {
            s.refuses("folder of name " + no, -1, x -> x.folder(0, no));
            s.refuses("file of name " + no, -1, x -> x.file(0, no, 0, 8));
            s.refuses("copy of name " + no, -1, x -> x.copy(0, 0, no));
            s.refuses("link of name " + no, -1, x -> x.link(0, 0, no));
            s.refuses("move to name " + no, false, x -> x.move(0, 0, no));
        }
        for (int no : NO_FILES) {
            s.refuses("copy of " + no, Scene.NO_SUCH, x -> x.copy(no, 0, 9));
            s.refuses("link of " + no, Scene.NO_SUCH, x -> x.link(no, 0, 9));
            s.refuses("move of " + no, Scene.NO_SUCH, x -> x.move(no, 0, 9));
            s.refuses("remove of " + no, Scene.NO_SUCH, x -> x.remove(no));
            s.refuses("hold of " + no, Scene.NO_SUCH, x -> x.hold(no, true));
        }
        s.refuses("a folder that is there", -1, x -> x.folder(0, 1));
        s.refuses("a file that is there", -1, x -> x.file(1, 6, 0, 8));
        s.refuses("a copy where one is", -1, x -> x.copy(0, 1, 6)).refuses("a link", -1, x -> x.link(0, 1, 6));
        s.refuses("a move where one is", false, x -> x.move(0, 1, 6)).refuses("itself", false, x -> x.move(7, 1, 6));
        s.refuses("owner 8", -1, x -> x.file(0, 9, 8, 8)).refuses("owner -1", -1, x -> x.file(0, 9, -1, 8));
        s.refuses("size 65", -1, x -> x.file(0, 9, 0, 65)).refuses("size -1", -1, x -> x.file(0, 9, 0, -1));
        s.refuses("a held one isn't removed", -1, x -> x.remove(3));
        s.refuses("held already", true, x -> x.hold(3, true)).refuses("not held", false, x -> x.hold(0, false));
    }

    private static void bytes() {
        Scene s = rich();
        int[] places = {-1, 5, 8, Scene.LEAST_INT, Scene.MOST_INT};
        for (int place : places) {
            s.refuses("write at " + place, Scene.ILLEGAL, x -> x.write(0, place, -1));
            s.refuses("fill up to " + place, place == 5 || place == 8 ? (Object) 1 : Scene.ILLEGAL,
                x -> x.fill(0, place, place, -1));
        }
        s.refuses("fill too far", Scene.ILLEGAL, x -> x.fill(0, 0, 9, -1));
        s.refuses("fill backwards", Scene.ILLEGAL, x -> x.fill(0, 3, 2, -1));
        s.refuses("fill from -1", Scene.ILLEGAL, x -> x.fill(0, -1, 2, -1));
        s.refuses("at 8", Scene.NO_SUCH, x -> x.at(0, 8)).refuses("at -1", Scene.NO_SUCH, x -> x.at(0, -1));
        s.refuses("about 9", Scene.NO_SUCH, x -> x.about(0, 9)).refuses("-1", Scene.NO_SUCH, x -> x.about(0, -1));
        for (int no : NO_FILES) {
            s.refuses("write of " + no, Scene.NO_SUCH, x -> x.write(no, 0, -1));
            s.refuses("fill of " + no, Scene.NO_SUCH, x -> x.fill(no, 0, 1, -1));
            s.refuses("at of " + no, Scene.NO_SUCH, x -> x.at(no, 0));
            s.refuses("about of " + no, Scene.NO_SUCH, x -> x.about(no, 0));
        }
    }

    private static void groups() {
        Scene s = rich();
        for (int no : NO_FILES) {
            s.refuses("groupOf " + no, Scene.NO_SUCH, x -> x.groupOf(no));
            s.refuses("near of " + no, Scene.NO_SUCH, x -> x.near(no, 0));
            s.refuses("near to " + no, Scene.NO_SUCH, x -> x.near(0, no));
            s.refuses("nearest of " + no, Scene.NO_SUCH, x -> x.nearest(no, 0));
        }
        for (int no : NO_GROUPS) {
            s.refuses("members of " + no, Scene.NO_SUCH, x -> x.member(no, -1));
            s.refuses("keep of " + no, Scene.NO_SUCH, x -> x.keep(no));
            s.refuses("merge of " + no, Scene.NO_SUCH, x -> x.merge(no));
        }
        s.refuses("no fifth", Scene.NO_SUCH, x -> x.member(0, 4));
        s.refuses("no fourth", Scene.NO_SUCH, x -> x.member(1, 3));
        s.refuses("none -2", Scene.NO_SUCH, x -> x.member(1, -2));
        for (int no : NO_FOLDERS) {
            s.refuses("differ of " + no, Scene.NO_SUCH, x -> x.differ(no, 0));
            s.refuses("differ from " + no, Scene.NO_SUCH, x -> x.differ(0, no));
        }
        s.refuses("least 1001", Scene.ILLEGAL, x -> x.nearest(0, 1001));
        s.refuses("least -1", Scene.ILLEGAL, x -> x.nearest(0, -1));
    }

    private static void tellingCalls() {
        Scene s = rich();
        s.tells("at", 0x84, x -> x.at(2, 7)).tells("about", 2, x -> x.about(0, 6)).tells("reads", 9, x -> x.reads());
        s.tells("groupOf", 0, x -> x.groupOf(0)).tells("groupOf", -1, x -> x.groupOf(2));
        s.tells("groupOf", 1, x -> x.groupOf(8)).tells("member", 8, x -> x.member(1, 2));
        s.tells("near", 200, x -> x.near(0, 2)).tells("near", 1000, x -> x.near(0, 3));
        s.tells("nearest", 3, x -> x.nearest(0, 1000)).tells("nearest", 0, x -> x.nearest(2, 200));
        s.tells("nearest, none", -1, x -> x.nearest(2, 201)).tells("itself", 0, x -> x.differ(0, 0));
        s.tells("differ", 5, x -> x.differ(0, 1)).tells("differ", 5, x -> x.differ(1, 2));
        s.tells("keep", 0, x -> x.keep(0)).tells("keep", 6, x -> x.keep(1)).tells("days", 12, x -> x.days(0));
    }

    private static void wishesAndOwners() {
        Scene s = rich();
        s.refuses("wish 3 is there", -1, x -> x.wish(3, 0)).refuses("3 of another", -1, x -> x.wish(3, 2));
        s.refuses("wish 0 of 1 is there", -1, x -> x.wish(0, 1));
        s.refuses("wish 6", Scene.ILLEGAL, x -> x.wish(6, 0)).refuses("wish -1", Scene.ILLEGAL, x -> x.wish(-1, 0));
        for (int no : NO_FOLDERS) {
            s.refuses("wish 0 of " + no, Scene.NO_SUCH, x -> x.wish(0, no));
        }
        s.refuses("leave is there", false, x -> x.leave(3, 2));
        s.refuses("owner 8", Scene.ILLEGAL, x -> x.leave(8, 2)).refuses("-1", Scene.ILLEGAL, x -> x.leave(-1, 2));
        s.refuses("from 8", Scene.ILLEGAL, x -> x.leave(2, 8)).refuses("from -1", Scene.ILLEGAL, x -> x.leave(2, -1));
        s.with(x -> x.wish(5, 0));
        for (int i = 0; i <= 5; i++) {
            int what = i;
            s.refuses("a fourth: " + i, -1, x -> x.wish(what, 2));
        }
        s.with(x -> x.unwish()).refuses("no wishes", 0, x -> x.unwish());
    }

    private static void mergings() {
        Scene s = rich();
        s.refuses("held, or of an owner without leave", 0, x -> x.merge(0));
        s.refuses("of owners without leave", 0, x -> x.merge(1));
        s.takes("one is undone", 1, x -> x.unmerge()).refuses("none more", -1, x -> x.unmerge());
    }

    private static void daysAndCounts() {
        Scene s = rich();
        int[] noDays = {-1, 1001, Scene.LEAST_INT, Scene.MOST_INT};
        int[] noCounts = {-1, 8, Scene.LEAST_INT, Scene.MOST_INT};
        for (int i = 0; i < 4; i++) {
            int n = noDays[i];
            int what = noCounts[i];
            s.refuses("days " + n, Scene.ILLEGAL, x -> x.days(n));
            s.refuses("count " + what, Scene.NO_SUCH, x -> x.count(what));
        }
    }
}
