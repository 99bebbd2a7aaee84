/** Promises 29 to 32: THE ROW. */
public final class RowTest {
    private static final Check CHECK = new Check();

    public static void main(String[] args) {
        tell();
        tearAndRow();
        copy();
        copyRefusals();
        CHECK.end();
    }

    private static void tell() {
        ColdLine x = new ColdLine();
        CHECK.due("tell(48, 10000)", x.tell(48, 10000), -3);
        CHECK.due("tell(-1, 0)", x.tell(-1, 0), -3);
        CHECK.due("tell(0, 10000)", x.tell(0, 10000), -7);
        CHECK.due("tell(0, -10000)", x.tell(0, -10000), -7);
        CHECK.due("refused tells make no row", x.tear(), 0);
        CHECK.due("tell(47, 9999)", x.tell(47, 9999), 1);
        CHECK.due("tell(0, -9999)", x.tell(0, -9999), 1);
        CHECK.due("row(47)", x.row(47), 9999);
        CHECK.due("row(0)", x.row(0), -9999);
        for (int i = 1; i < 47; i++) {
            CHECK.due("row(" + i + ")", x.row(i), 0);
        }
    }

    private static void tearAndRow() {
        ColdLine x = new ColdLine();
        CHECK.due("tear() at first", x.tear(), 0);
        CHECK.due("row(0) of none", x.row(0), 0);
        CHECK.due("row(48) of none", x.row(48), 0);
        CHECK.due("MISSING of row", x.status(-2), 2);
        CHECK.due("no BEYOND yet", x.status(-3), 0);
        x.tell(3, 30);
        x.tell(4, 40);
        CHECK.due("row(-1)", x.row(-1), 0);
        CHECK.due("row(48)", x.row(48), 0);
        CHECK.due("BEYOND of row", x.status(-3), 2);
        CHECK.due("tear()", x.tear(), 1);
        CHECK.due("tear() again", x.tear(), 0);
        x.tell(4, 41);
        CHECK.due("a new row has 0s", x.row(3), 0);
        CHECK.due("and what is told", x.row(4), 41);
    }

    private static void copy() {
        ColdLine x = new ColdLine();
        for (int i = 0; i < 48; i++) {
            x.tell(i, i);
        }
        CHECK.due("copy(0, 1, 10)", x.copy(0, 1, 10), 10);
        CHECK.due("forward, as they were: 1", x.row(1), 0);
        CHECK.due("forward, as they were: 10", x.row(10), 9);
        CHECK.due("not further", x.row(11), 11);
        CHECK.due("copy(21, 20, 10)", x.copy(21, 20, 10), 10);
        CHECK.due("backward: 20", x.row(20), 21);
        CHECK.due("backward: 29", x.row(29), 30);
        CHECK.due("backward: 30", x.row(30), 30);
        CHECK.due("copy(0, 0, 48)", x.copy(0, 0, 48), 48);
        CHECK.due("copy(48, 48, 0)", x.copy(48, 48, 0), 0);
        CHECK.due("copy(47, 0, 1)", x.copy(47, 0, 1), 1);
        CHECK.due("the last came first", x.row(0), 47);
    }

    private static void copyRefusals() {
        ColdLine x = new ColdLine();
        CHECK.due("copy of none", x.copy(-1, 0, -1), -2);
        x.tell(0, 1);
        CHECK.due("copy(-1, 0, -1)", x.copy(-1, 0, -1), -4);
        CHECK.due("copy(0, 0, MIN)", x.copy(0, 0, Integer.MIN_VALUE), -4);
        CHECK.due("copy(-1, 0, 1)", x.copy(-1, 0, 1), -6);
        CHECK.due("copy(0, -1, 1)", x.copy(0, -1, 1), -6);
        CHECK.due("copy(48, 0, 1)", x.copy(48, 0, 1), -6);
        CHECK.due("copy(0, 48, 1)", x.copy(0, 48, 1), -6);
        CHECK.due("copy(49, 0, 0)", x.copy(49, 0, 0), -6);
        CHECK.due("copy(0, 0, 49)", x.copy(0, 0, 49), -6);
        CHECK.due("copy(1, 1, MAX)", x.copy(1, 1, Integer.MAX_VALUE), -6);
        CHECK.due("copy(MAX, MAX, 2)", x.copy(Integer.MAX_VALUE, Integer.MAX_VALUE, 2), -6);
        CHECK.due("nothing changed", x.row(0), 1);
    }
}
