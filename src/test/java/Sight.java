/** All of an object that can be seen, as a text: two objects of one sight answer alike. */
final class Sight {
    private static final int[][] WOULDS = {{0, 0, 1, 0, 0, 0, 0, 0}, {3, 2, 5, 7, 1, 4, 6, 2}, {6, 5, 2, 9, 3, 1, 2, 4}};

    private Sight() {
    }

    /** The college, the law, the book, all that work changes, and how much there is to undo and to restore. */
    static String of(PartedFellows x) {
        StringBuilder b = new StringBuilder(ofHall(x));
        for (int what : new int[] {0, 1, 2, 9, 10}) {
            put(b, x.told(what));
        }
        put(b, x.count(0));
        put(b, x.count(2));
        for (int glass = 0; glass < x.told(1); glass++) {
            put(b, 2 * x.glass(glass, 0) + x.glass(glass, 1));
        }
        for (int[] w : WOULDS) {
            put(b, x.would(w[0], w[1], w[2], w[3], w[4], w[5], w[6], w[7]));
        }
        put(b, x.fits(0));
        put(b, x.fits(1));
        put(b, x.look(0));
        put(b, x.look(1));
        return b.toString();
    }

    /** All that work changes. */
    static String ofHall(PartedFellows x) {
        StringBuilder b = new StringBuilder();
        for (int what : new int[] {3, 4, 5, 6, 7, 8, 11}) {
            put(b, x.told(what));
        }
        for (int fellow = 0; fellow < x.told(0); fellow++) {
            for (int part = 0; part < 7; part++) {
                for (int what = 0; what <= 3; what++) {
                    put(b, x.part(fellow, part, what));
                }
            }
            put(b, x.fellow(fellow, 5));
        }
        return b.toString();
    }

    /** The tape's bytes and the fault. */
    static String ofTape(PartedFellows x) {
        StringBuilder b = new StringBuilder();
        put(b, x.count(1));
        put(b, x.fault());
        return b.toString();
    }

    /** What undo and restore bring back, one by one; the object is used up by it. */
    static String behind(PartedFellows x) {
        StringBuilder b = new StringBuilder();
        for (int i = 0; i < 4; i++) {
            for (int undone = x.undo(); undone >= 0; undone = x.undo()) {
                putShort(b, x, undone);
            }
            putShort(b, x, x.restore());
        }
        return b.toString();
    }

    private static void putShort(StringBuilder b, PartedFellows x, int left) {
        put(b, left);
        put(b, x.told(3));
        put(b, x.told(6));
        put(b, x.told(7));
        put(b, x.told(8));
        put(b, x.told(11));
    }

    private static void put(StringBuilder b, int answer) {
        b.append(answer).append(' ');
    }
}
