/** The boundary sentences of promises 34 to 37 (rows in slots), a test for each. */
public final class CityBankBoundsRows extends Bounds {
    private CityBankBoundsRows() {
    }

    public static void main(String[] args) {
        runAll(CityBankBoundsRows.class);
    }

    /** A row's numbers as KIND 0 weighs them one by one, by way of slot 2 (0: it takes none). */
    private static String numbers(CityBank x, int slot, int width, int n) {
        StringBuilder seen = new StringBuilder();
        for (int i = 0; i < n; i++) {
            due("row", x.row(2, width, 1), 0);
            due("paste", x.paste(slot, i, 2, 0, 1), 0);
            seen.append(x.weighed(0, 2, 3)).append(' ');
        }
        return seen.toString();
    }

    // ---- promise 34: row

    // Promise 34: "A SLOT has a row of n numbers of a WIDTH, all 0 (in place of another one): 0."
    static void rowIsAll0InPlaceOfAnother() {
        CityBank x = bank(1);
        fill(x, 0, 3, 5, 6, 7);
        due("a longer one", x.row(0, 1, 5), 0);
        same("numbers", numbers(x, 0, 1, 5), "0 0 0 0 0 ");
        due("its last", x.write(0, 4, 1), 0);
        due("behind it", x.write(0, 5, 1), -6);
        due("the same once more", x.row(0, 1, 5), 0);
        same("numbers", numbers(x, 0, 1, 5), "0 0 0 0 0 ");
        due("a shorter one", x.row(0, 0, 1), 0);
        due("its last", x.write(0, 0, 128), 0);
        due("by its own WIDTH", x.weighed(0, 0, 3), 0);
        due("behind it", x.write(0, 1, 1), -6);
        due("SLOTS that have a row", x.count(10), 2);
    }

    // Promise 34: "-2: there is no such SLOT"
    static void rowRefusesASlot() {
        CityBank x = bank(1);
        for (int slot : new int[] {-1, 4, MIN, MAX}) {
            refused(x, "row of " + slot, () -> x.row(slot, 0, 1), -2);
            refused(x, "row of " + slot + " of n below 0", () -> x.row(slot, 0, -1), -2);
        }
        due("row of 0", x.row(0, 0, 1), 0);
        due("row of 3", x.row(3, 0, 1), 0);
    }

    // Promise 34: "or WIDTH"
    static void rowRefusesAWidth() {
        CityBank x = bank(1);
        fill(x, 0, 3, 5);
        for (int width : new int[] {-1, 4, MIN, MAX}) {
            refused(x, "WIDTH " + width, () -> x.row(0, width, 1), -2);
            refused(x, "WIDTH " + width + " of n below 0", () -> x.row(0, width, -1), -2);
        }
        due("WIDTH 0", x.row(0, 0, 1), 0);
        due("WIDTH 3", x.row(0, 3, 1), 0);
    }

    // Promise 34: "or n is above 60"
    static void rowRefusesMoreThan60() {
        CityBank x = bank(1);
        fill(x, 0, 3, 5);
        for (int n : new int[] {61, 100, MAX}) {
            refused(x, "row of " + n, () -> x.row(0, 3, n), -2);
        }
        due("row of 60", x.row(0, 3, 60), 0);
        due("its last", x.write(0, 59, 7), 0);
        due("weight", x.weighed(0, 0, 3), 7);
    }

    // Promise 34: "-3, and the SLOT stays: n is below 0."
    static void rowRefusesLessThan0() {
        CityBank x = bank(1);
        fill(x, 0, 3, 5, 6);
        for (int n : new int[] {-1, MIN}) {
            refused(x, "row of " + n, () -> x.row(0, 0, n), -3);
            refused(x, "row of " + n + " in a SLOT of nothing", () -> x.row(1, 0, n), -3);
        }
        same("the SLOT stays", numbers(x, 0, 3, 2), "5 6 ");
        due("row of 0", x.row(0, 0, 0), 0);
        due("it has no number", x.write(0, 0, 1), -6);
    }

    // ---- promise 35: tear

    // Promise 35: "The SLOT has nothing: true; false, if it had nothing"
    static void tearIsFalseIfThereWasNothing() {
        CityBank x = bank(1);
        for (int slot = 0; slot <= 3; slot++) {
            int torn = slot;
            refused(x, "tear of nothing", () -> x.tear(torn));
            due("row", x.row(slot, 0, slot), 0);
            due("tear of a row of " + slot, x.tear(slot), true);
            refused(x, "tear of a torn one", () -> x.tear(torn));
            due("it has nothing", x.write(slot, 0, 1), -5);
        }
        due("SLOTS that have a row", x.count(10), 0);
        fill(x, 0, 3, 5);
        fill(x, 1, 3, 6);
        due("tear", x.tear(0), true);
        due("the others stay", x.weighed(0, 1, 3), 6);
    }

    // Promise 35: "or there is none such."
    static void tearRefusesASlot() {
        CityBank x = bank(1);
        for (int slot = 0; slot <= 3; slot++) {
            fill(x, slot, 3, 5);
        }
        for (int slot : new int[] {-1, 4, MIN, MAX}) {
            refused(x, "tear of " + slot, () -> x.tear(slot));
        }
        due("tear of 0", x.tear(0), true);
        due("tear of 3", x.tear(3), true);
    }

    // ---- promise 36: write

    // Promise 36: "Number i of the SLOT's row is v, cut to its WIDTH: 0."
    static void writeCutsToTheWidth() {
        CityBank x = bank(1);
        long[][] cuts = {{0, 127, 127}, {0, 128, 0}, {0, 256 + 9, 9}, {1, 32767, 32767}, {1, 32768, 0}, {1, 65536 + 9, 9},
            {2, 65536 + 9, 65545}, {2, 1L << 31, 0}, {2, (1L << 32) + 9, 9}, {3, (1L << 32) + 9, 0}, {3, 9, 9}};
        for (long[] c : cuts) {
            x.row(0, (int) c[0], 3);
            due("write", x.write(0, 1, c[1]), 0);
            same("numbers of WIDTH " + c[0] + " behind " + c[1], numbers(x, 0, (int) c[0], 3), "0 " + c[2] + " 0 ");
        }
    }

    // Promise 36: "-2: there is no such SLOT"
    static void writeRefusesASlot() {
        CityBank x = bank(1);
        for (int slot = 0; slot <= 3; slot++) {
            fill(x, slot, 3, 5);
        }
        for (int slot : new int[] {-1, 4, MIN, MAX}) {
            refused(x, "write to " + slot, () -> x.write(slot, 0, 7), -2);
        }
        due("write to 0", x.write(0, 0, 7), 0);
        due("write to 3", x.write(3, 0, 7), 0);
    }

    // Promise 36: "-5: it has nothing"
    static void writeRefusesASlotOfNothing() {
        CityBank x = bank(1);
        refused(x, "write to nothing", () -> x.write(0, 0, 7), -5);
        refused(x, "no number of nothing", () -> x.write(0, -1, 7), -5);
        x.row(0, 3, 1);
        due("write", x.write(0, 0, 7), 0);
        x.tear(0);
        refused(x, "write to a torn one", () -> x.write(0, 0, 7), -5);
    }

    // Promise 36: "-6: there is no such number."
    static void writeRefusesANumber() {
        CityBank x = bank(1);
        fill(x, 0, 3, 5, 6, 7);
        for (int i : new int[] {-1, 3, 59, 60, MIN, MAX}) {
            refused(x, "number " + i, () -> x.write(0, i, 9), -6);
        }
        due("number 0", x.write(0, 0, 8), 0);
        due("number 2", x.write(0, 2, 9), 0);
        same("numbers", numbers(x, 0, 3, 3), "8 6 9 ");
        x.row(0, 3, 0);
        refused(x, "number 0 of none", () -> x.write(0, 0, 9), -6);
    }

    // ---- promise 37: paste

    /** SLOT 0 has 1 2 3 4 5, SLOT 1 has 6 7 8. */
    private static CityBank bankOfRows() {
        CityBank x = bank(1);
        fill(x, 0, 1, 1, 2, 3, 4, 5);
        fill(x, 1, 1, 6, 7, 8);
        return x;
    }

    // Promise 37: "So many numbers of a SLOT's row, from place i on, are put to another one's ..., from place k on"
    static void pastePutsNumbersUpToTheEnds() {
        CityBank x = bankOfRows();
        due("the first to the last", x.paste(0, 0, 1, 2, 1), 0);
        same("SLOT 1", numbers(x, 1, 1, 3), "6 7 1 ");
        due("the last to the first", x.paste(0, 4, 1, 0, 1), 0);
        same("SLOT 1", numbers(x, 1, 1, 3), "5 7 1 ");
        due("as many as there is room for", x.paste(0, 2, 1, 0, 3), 0);
        same("SLOT 1", numbers(x, 1, 1, 3), "3 4 5 ");
        due("all of them", x.paste(1, 0, 0, 2, 3), 0);
        same("SLOT 0", numbers(x, 0, 1, 5), "1 2 3 4 5 ");
        same("SLOT 1 stays", numbers(x, 1, 1, 3), "3 4 5 ");
    }

    // Promise 37: "(or its own) ... as they were"
    static void pastePutsNumbersToTheirOwnRowAsTheyWere() {
        CityBank x = bankOfRows();
        due("upwards", x.paste(0, 0, 0, 1, 4), 0);
        same("SLOT 0", numbers(x, 0, 1, 5), "1 1 2 3 4 ");
        CityBank y = bankOfRows();
        due("downwards", y.paste(0, 1, 0, 0, 4), 0);
        same("SLOT 0", numbers(y, 0, 1, 5), "2 3 4 5 5 ");
        CityBank z = bankOfRows();
        due("where they are", z.paste(0, 0, 0, 0, 5), 0);
        same("SLOT 0", numbers(z, 0, 1, 5), "1 2 3 4 5 ");
    }

    // Promise 37: "So many numbers", of none
    static void pasteOfNoneDoesNothing() {
        CityBank x = bankOfRows();
        refused(x, "none", () -> x.paste(0, 0, 1, 0, 0), 0);
        refused(x, "none, from end to end", () -> x.paste(0, 5, 1, 3, 0), 0);
        fill(x, 3, 1);
        refused(x, "none of an empty row", () -> x.paste(3, 0, 1, 0, 0), 0);
        refused(x, "one of an empty row", () -> x.paste(3, 0, 1, 0, 1), -6);
    }

    // Promise 37: "-2: there is no such SLOT"
    static void pasteRefusesASlot() {
        CityBank x = bankOfRows();
        fill(x, 3, 1, 9);
        for (int slot : new int[] {-1, 4, MIN, MAX}) {
            refused(x, "paste from " + slot, () -> x.paste(slot, 0, 0, 0, 1), -2);
            refused(x, "paste to " + slot, () -> x.paste(0, 0, slot, 0, 1), -2);
            refused(x, "paste from " + slot + " to nothing", () -> x.paste(slot, 0, 2, 0, 1), -2);
            refused(x, "paste from nothing to " + slot, () -> x.paste(2, 0, slot, 0, 1), -2);
        }
        due("paste from 3 to 0", x.paste(3, 0, 0, 0, 1), 0);
        due("paste from 1 to 3", x.paste(1, 0, 3, 0, 1), 0);
    }

    // Promise 37: "-5: one has nothing"
    static void pasteRefusesASlotOfNothing() {
        CityBank x = bankOfRows();
        refused(x, "from nothing", () -> x.paste(2, 0, 0, 0, 1), -5);
        refused(x, "to nothing", () -> x.paste(0, 0, 2, 0, 1), -5);
        refused(x, "from nothing to nothing", () -> x.paste(2, 0, 3, 0, 1), -5);
        refused(x, "from nothing, a place below 0", () -> x.paste(2, -1, 0, 0, 1), -5);
        x.row(2, 1, 1);
        due("to a row", x.paste(0, 0, 2, 0, 1), 0);
        due("from a row", x.paste(2, 0, 0, 0, 1), 0);
    }

    // Promise 37: "-7: they are not of one WIDTH"
    static void pasteRefusesAnotherWidth() {
        for (int from = 0; from <= 3; from++) {
            for (int to = 0; to <= 3; to++) {
                CityBank x = bank(1);
                fill(x, 0, from, 5);
                fill(x, 1, to, 6);
                if (from == to) {
                    due("paste of one WIDTH", x.paste(0, 0, 1, 0, 1), 0);
                    due("the number", x.weighed(0, 1, 3), 5);
                } else {
                    refused(x, "WIDTH " + from + " to " + to, () -> x.paste(0, 0, 1, 0, 1), -7);
                    refused(x, "that is told ahead of places", () -> x.paste(0, 9, 1, 9, 9), -7);
                    refused(x, "also of none", () -> x.paste(0, 0, 1, 0, 0), -7);
                }
            }
        }
    }

    // Promise 37: "-6, and nothing happens: some are beyond their rows", of where they are
    static void pasteRefusesNumbersBeyondTheirRow() {
        CityBank x = bankOfRows();
        refused(x, "the last and one beyond", () -> x.paste(0, 4, 1, 0, 2), -6);
        refused(x, "one beyond", () -> x.paste(0, 5, 1, 0, 1), -6);
        refused(x, "more than there are", () -> x.paste(1, 0, 0, 0, 4), -6);
        refused(x, "a place far beyond", () -> x.paste(0, MAX, 1, 0, 1), -6);
        refused(x, "a place and n that wrap around", () -> x.paste(0, MAX, 1, 0, MAX), -6);
        refused(x, "a place that none is from", () -> x.paste(0, 6, 1, 0, 0), -6);
        due("the last", x.paste(0, 4, 1, 0, 1), 0);
        due("all there are", x.paste(1, 0, 0, 0, 3), 0);
    }

    // Promise 37, the same sentence, of where they are put
    static void pasteRefusesPlacesBeyondTheOtherRow() {
        CityBank x = bankOfRows();
        refused(x, "the last and one beyond", () -> x.paste(0, 0, 1, 2, 2), -6);
        refused(x, "one beyond", () -> x.paste(0, 0, 1, 3, 1), -6);
        refused(x, "more than there is room for", () -> x.paste(0, 0, 1, 0, 4), -6);
        refused(x, "in its own row", () -> x.paste(0, 0, 0, 1, 5), -6);
        refused(x, "a place far beyond", () -> x.paste(0, 0, 1, MAX, 1), -6);
        refused(x, "n that is far too many", () -> x.paste(0, 1, 1, 1, MAX), -6);
        refused(x, "a place that none is put to", () -> x.paste(0, 0, 1, 4, 0), -6);
        due("the last", x.paste(0, 0, 1, 2, 1), 0);
        due("all there is room for", x.paste(0, 0, 1, 0, 3), 0);
    }

    // Promise 37: "or a place or n is below 0."
    static void pasteRefusesWhatIsBelow0() {
        CityBank x = bankOfRows();
        for (int below : new int[] {-1, MIN}) {
            refused(x, "place " + below + " to be from", () -> x.paste(0, below, 1, 0, 1), -6);
            refused(x, "place " + below + " to be put to", () -> x.paste(0, 0, 1, below, 1), -6);
            refused(x, "n " + below, () -> x.paste(0, 0, 1, 0, below), -6);
            refused(x, "n " + below + " behind a place", () -> x.paste(0, 3, 1, 2, below), -6);
            refused(x, "none from place " + below, () -> x.paste(0, below, 1, 0, 0), -6);
            refused(x, "none to place " + below, () -> x.paste(0, 0, 1, below, 0), -6);
            refused(x, "all three " + below, () -> x.paste(0, below, 1, below, below), -6);
        }
        due("places and n of 0", x.paste(0, 0, 1, 0, 0), 0);
    }
}
