/** Promises 1 to 5 and 27: a new object, row, set, copy, drop, status. */
public final class RowsTest {
    private static final Check c = new Check("RowsTest");

    public static void main(String[] args) {
        newObject();
        rowMade();
        rowRefused();
        rowInPlaceOfAnother();
        setCutsToTheLane();
        setRefused();
        copyWithinAndAcross();
        copyRefused();
        dropped();
        statusKept();
        c.end();
    }

    private static void newObject() {
        WoodForTwo x = new WoodForTwo();
        for (int what = 0; what <= 6; what++) {
            c.due("count(" + what + ") of a new object", x.count(what), 0);
        }
        c.due("status() of a new object", x.status(), 0);
        c.due("fault() of a new object", x.fault(), 0);
        c.due("trace(0) of a new object", x.trace(0), Check.NONE);
        c.due("snow(0) without a pass", x.snow(0), Check.STATE);
        c.due("night(0) without a pass", x.night(0), Check.BAD);
        for (int row = 0; row < 8; row++) {
            c.due("drop of a row that was never made", x.drop(row), Check.NULL);
        }
    }

    private static void rowMade() {
        WoodForTwo x = new WoodForTwo();
        for (int row = 0; row < 8; row++) {
            c.due("row(" + row + ")", x.row(row, row % 3, 5 * row), 5 * row);
            c.due("count(0)", x.count(0), row + 1);
        }
        c.due("row of 40", x.row(0, 2, 40), 40);
        c.due("set of its last", x.set(0, 39, 7), 7);
        c.due("row of none", x.row(1, 0, 0), 0);
        c.due("a row of none is there", x.count(0), 8);
        c.due("set in a row of none", x.set(1, 0, 1), Check.PLACE);
    }

    private static void rowRefused() {
        WoodForTwo x = new WoodForTwo();
        c.due("row(-1)", x.row(-1, 0, 1), Check.BAD);
        c.due("row(8)", x.row(8, 0, 1), Check.BAD);
        c.due("row(MAX)", x.row(Integer.MAX_VALUE, 0, 1), Check.BAD);
        c.due("row(MIN)", x.row(Integer.MIN_VALUE, 0, 1), Check.BAD);
        c.due("lane -1", x.row(0, -1, 1), Check.BAD);
        c.due("lane 3", x.row(0, 3, 1), Check.BAD);
        c.due("41 items", x.row(0, 0, 41), Check.BAD);
        c.due("MAX items", x.row(0, 0, Integer.MAX_VALUE), Check.BAD);
        c.due("none of them came", x.count(0), 0);
        c.dueStatus(x, "-1 items", x.row(0, 0, -1), Check.SIZE, 4);
        c.dueStatus(x, "MIN items", x.row(0, 0, Integer.MIN_VALUE), Check.SIZE, 4);
        c.due("BAD goes ahead of SIZE: row", x.row(8, 0, -1), Check.BAD);
        c.due("BAD goes ahead of SIZE: lane", x.row(0, 3, -1), Check.BAD);
        c.due("none came by SIZE", x.count(0), 0);
        Check.fill(x, 0, 5, 6);
        x.row(0, 0, -1);
        c.due("a row stays by SIZE", x.drop(0), 2);
    }

    private static void rowInPlaceOfAnother() {
        WoodForTwo x = new WoodForTwo();
        Check.fill(x, 3, 70000, 2, 3);
        c.due("row anew", x.row(3, 0, 2), 2);
        c.due("count(0)", x.count(0), 1);
        c.due("its lane is the new one", x.set(3, 0, 200), -56);
        c.due("its length is the new one", x.set(3, 2, 0), Check.PLACE);
        Check.fill(x, 3, 9, 9, 9, 9);
        x.row(3, 2, 4);
        c.due("items are 0 at first: nobody lied", x.lies(3, 2, 0), 0);
        x.set(3, 0, 1);
        c.due("items are 0 at first: by one", x.lies(3, 2, 0), 1);
    }

    private static void setCutsToTheLane() {
        WoodForTwo x = new WoodForTwo();
        x.row(0, 0, 1);
        x.row(1, 1, 1);
        x.row(2, 2, 1);
        int[] given = {0, 127, 128, 255, 256, -1, -128, -129, 32767, 32768, 65535, 65536, -32769,
            Integer.MAX_VALUE, Integer.MIN_VALUE};
        for (int v : given) {
            c.due("set of a byte " + v, x.set(0, 0, v), (byte) v);
            c.due("set of a short " + v, x.set(1, 0, v), (short) v);
            c.due("set of an int " + v, x.set(2, 0, v), v);
        }
        x.row(0, 0, 2);
        x.set(0, 0, 256 + 9);
        c.due("what is kept is what it is then", x.lies(0, 1, 0), 1);
        x.set(0, 1, 9);
        c.due("9 by 9", x.lies(0, 1, 0), 0);
    }

    private static void setRefused() {
        WoodForTwo x = new WoodForTwo();
        c.due("set in row -1", x.set(-1, 0, 1), Check.BAD);
        c.due("set in row 8", x.set(8, 0, 1), Check.BAD);
        c.dueStatus(x, "set in a missing row", x.set(7, 0, 1), Check.NULL, 1);
        c.dueStatus(x, "NULL goes ahead of PLACE", x.set(7, -1, 1), Check.NULL, 1);
        x.row(7, 2, 3);
        c.dueStatus(x, "set at -1", x.set(7, -1, 1), Check.PLACE, 2);
        c.dueStatus(x, "set at 3 of 3", x.set(7, 3, 1), Check.PLACE, 2);
        c.dueStatus(x, "set at MAX", x.set(7, Integer.MAX_VALUE, 1), Check.PLACE, 2);
        c.dueStatus(x, "set at MIN", x.set(7, Integer.MIN_VALUE, 1), Check.PLACE, 2);
        c.dueStatus(x, "set at 2 of 3", x.set(7, 2, 1), 1, 0);
    }

    private static void copyWithinAndAcross() {
        WoodForTwo x = new WoodForTwo();
        Check.fill(x, 0, 9, 8, 7, 6, 5, 4);
        c.due("copy on within a row", x.copy(0, 0, 0, 1, 4), 4);
        c.isRow(x, 0, 9, 9, 8, 7, 6, 4);
        Check.fill(x, 0, 9, 8, 7, 6, 5, 4);
        c.due("copy back within a row", x.copy(0, 2, 0, 0, 4), 4);
        c.isRow(x, 0, 7, 6, 5, 4, 5, 4);
        Check.fill(x, 1, 1, 2, 3);
        c.due("copy across", x.copy(0, 4, 1, 1, 2), 2);
        c.isRow(x, 1, 1, 5, 4);
        c.isRow(x, 0, 7, 6, 5, 4, 5, 4);
        c.due("copy of none at the ends", x.copy(0, 6, 1, 3, 0), 0);
        c.isRow(x, 1, 1, 5, 4);
        c.due("copy of all", x.copy(1, 0, 0, 3, 3), 3);
        c.isRow(x, 0, 7, 6, 5, 1, 5, 4);
    }

    private static void copyRefused() {
        WoodForTwo x = new WoodForTwo();
        Check.fill(x, 0, 1, 2, 3);
        Check.fill(x, 1, 4, 5, 6, 7);
        x.row(2, 1, 3);
        c.due("copy from row -1", x.copy(-1, 0, 1, 0, 1), Check.BAD);
        c.due("copy from row 8", x.copy(8, 0, 1, 0, 1), Check.BAD);
        c.due("copy to row -1", x.copy(0, 0, -1, 0, 1), Check.BAD);
        c.due("copy to row 8", x.copy(0, 0, 8, 0, 1), Check.BAD);
        c.due("BAD goes ahead of NULL", x.copy(5, 0, 8, 0, 1), Check.BAD);
        c.dueStatus(x, "copy from a missing row", x.copy(5, 0, 0, 0, 1), Check.NULL, 1);
        c.dueStatus(x, "copy to a missing row", x.copy(0, 0, 5, 0, 1), Check.NULL, 1);
        c.dueStatus(x, "NULL goes ahead of STORE", x.copy(2, 0, 5, 0, 1), Check.NULL, 1);
        c.dueStatus(x, "copy to another lane", x.copy(0, 0, 2, 0, 1), Check.STORE, 5);
        c.dueStatus(x, "copy from another lane", x.copy(2, 0, 0, 0, 0), Check.STORE, 5);
        c.dueStatus(x, "STORE goes ahead of PLACE", x.copy(0, -1, 2, 0, 1), Check.STORE, 5);
        int most = Integer.MAX_VALUE;
        int least = Integer.MIN_VALUE;
        int[][] places = {{-1, 0, 1}, {0, -1, 1}, {0, 0, -1}, {3, 0, 1}, {0, 4, 1}, {2, 0, 2},
            {0, 3, 2}, {0, 0, 4}, {4, 0, 0}, {0, 5, 0}, {most, 0, 1}, {0, most, 1}, {1, 1, most},
            {most, most, most}, {least, 0, 1}, {0, least, 1}, {0, 0, least}, {1, 0, -1}};
        for (int[] p : places) {
            c.dueStatus(x, "copy from " + p[0] + " to " + p[1] + ", " + p[2],
                x.copy(0, p[0], 1, p[1], p[2]), Check.PLACE, 2);
        }
        c.isRow(x, 0, 1, 2, 3);
        c.isRow(x, 1, 4, 5, 6, 7);
        c.dueStatus(x, "a copy that goes", x.copy(0, 0, 1, 1, 3), 3, 0);
        c.due("bytes to bytes", x.row(3, 0, 2) + x.row(4, 0, 2) + x.copy(3, 0, 4, 0, 2), 6);
    }

    private static void dropped() {
        WoodForTwo x = new WoodForTwo();
        c.due("drop(-1)", x.drop(-1), Check.BAD);
        c.due("drop(8)", x.drop(8), Check.BAD);
        c.dueStatus(x, "drop of a missing row", x.drop(4), Check.NULL, 1);
        x.row(4, 1, 17);
        x.row(5, 1, 0);
        c.dueStatus(x, "drop", x.drop(4), 17, 0);
        c.due("count(0)", x.count(0), 1);
        c.dueStatus(x, "drop again", x.drop(4), Check.NULL, 1);
        c.dueStatus(x, "drop of a row of none", x.drop(5), 0, 0);
        c.due("set in a dropped row", x.set(4, 0, 1), Check.NULL);
        c.due("a dropped row is made anew", x.row(4, 2, 3), 3);
    }

    private static void statusKept() {
        WoodForTwo x = Check.with("hut 9 1 head 1;chance 1 1;party 1 keeps 1;party 2 half 1;");
        c.due("status() ahead of all", x.status(), 0);
        c.dueStatus(x, "as of another kind", x.as(0, 3), Check.KIND, 3);
        c.dueStatus(x, "BAD leaves status: row", x.row(8, 0, 0), Check.BAD, 3);
        c.dueStatus(x, "BAD leaves status: as", x.as(0, 6), Check.BAD, 3);
        c.dueStatus(x, "STATE leaves status", x.restore(0), Check.STATE, 3);
        c.dueStatus(x, "night leaves status", x.night(0), 0, 3);
        c.dueStatus(x, "snow leaves status", x.snow(1), 8, 3);
        c.dueStatus(x, "safe leaves status", x.safe(9, 1, 0, 0), 1, 3);
        c.dueStatus(x, "carry leaves status", x.carry(9, 9, 1), 0, 3);
        c.dueStatus(x, "ask leaves status", x.ask(1, 1), 1 + 10 * 2, 3);
        c.dueStatus(x, "count leaves status", x.count(0), 0, 3);
        c.dueStatus(x, "kind leaves status", x.kind(1), 2, 3);
        c.dueStatus(x, "image leaves status", x.image(0), 1, 3);
        c.dueStatus(x, "restore leaves status", x.restore(0), 1, 3);
        c.dueStatus(x, "pass leaves status", x.pass(), Check.NOT - 100, 3);
        c.dueStatus(x, "feed leaves status", x.feed(32, 1), 1, 3);
        c.dueStatus(x, "as sets status to 0", x.as(0, 0), 0, 0);
        c.dueStatus(x, "nights: NULL", x.nights(0, 0, 1), Check.NULL, 1);
        Check.fill(x, 0, 0, 5, 1);
        x.as(0, 3);
        c.dueStatus(x, "nights: BAD by an item", x.nights(0, 0, 2), Check.BAD, 3);
        c.dueStatus(x, "nights: PLACE", x.nights(0, 3, 1), Check.PLACE, 2);
        c.dueStatus(x, "nights", x.nights(0, 0, 1), 0, 0);
        x.as(0, 3);
        c.dueStatus(x, "broke: BAD by an item", x.broke(0, 1, 0), Check.BAD, 3);
        c.dueStatus(x, "broke: PLACE", x.broke(0, 2, 0), Check.PLACE, 2);
        c.dueStatus(x, "broke: NULL", x.broke(1, 2, 0), Check.NULL, 1);
        c.dueStatus(x, "lies: PLACE", x.lies(0, 2, 0), Check.PLACE, 2);
        c.dueStatus(x, "lies: NULL", x.lies(1, 2, 0), Check.NULL, 1);
        c.dueStatus(x, "lies", x.lies(0, 1, 0), 0, 0);
        x.as(0, 3);
        x.set(0, 0, 1);
        c.dueStatus(x, "set", x.set(0, 2, 4), 4, 0);
        x.as(0, 3);
        c.dueStatus(x, "broke", x.broke(0, 1, 1), 1, 0);
        x.set(0, 0, -1);
        x.as(0, 3);
        c.dueStatus(x, "lies: BAD by an item", x.lies(0, 1, 0), Check.BAD, 3);
        c.dueStatus(x, "row", x.row(1, 0, 0), 0, 0);
    }
}
