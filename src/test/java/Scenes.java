/** Scenes that several tests begin with. */
final class Scenes {
    private Scenes() {
    }

    /** FILES 0 on with the NAMES 0 on in FOLDER 0, of one OWNER and SIZE, with a BODY of its own each, all alike. */
    static Scene files(int many, int size) {
        Scene s = new Scene();
        addFiles(s, 0, many, size);
        return s;
    }

    static void addFiles(Scene s, int from, int to, int size) {
        for (int i = from; i < to; i++) {
            int name = i;
            s.with(x -> x.file(0, name, 0, size));
        }
    }

    /** FILES 0 on, NAMES 0 on in FOLDER 0, that all have BODY 0. */
    static Scene names(int many, int size) {
        Scene s = files(1, size);
        for (int i = 1; i < many; i++) {
            int name = i;
            s.with(x -> x.link(0, 0, name));
        }
        return s;
    }

    /** FOLDER 0 and below it a chain: each one named 7 in the one before. */
    static Scene chain(int folders) {
        Scene s = new Scene();
        for (int i = 1; i < folders; i++) {
            int in = i - 1;
            s.with(x -> x.folder(in, 7));
        }
        return s;
    }

    /**
     * So many BODIES ever, 96 to 100: 20 FILES of SIZE 4, merged and unmerged four times, have the NAMES 0 to 19 and
     * are alike; and further FILES of SIZE 5 have the NAMES 20 on. No MERGING is kept.
     */
    static Scene bodiesEver(int many) {
        Scene s = files(20, 4);
        for (int i = 0; i < 4; i++) {
            s.with(x -> x.find()).with(x -> x.merge(0)).with(x -> x.unmerge());
        }
        addFiles(s, 20, many - 76, 5);
        return s;
    }
}
