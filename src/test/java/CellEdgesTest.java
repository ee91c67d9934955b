/** The sentences of 'Cells and pages' and of the promises 11 to 13 that name a boundary case. */
public final class CellEdgesTest extends Check {
    private static final int[][] NO_CELLS = {{-1, 0}, {2, 0}, {NONE, 0}, {Integer.MIN_VALUE, 0}, {Integer.MAX_VALUE, 0},
        {0, -1}, {1, 48}, {0, NONE}, {0, Integer.MIN_VALUE}, {0, Integer.MAX_VALUE}, {-1, 48}, {2, -1}};
    private static final int[] NO_VALUES = {Integer.MIN_VALUE, -7, -5, -1, 256, Integer.MAX_VALUE};
    private static final int[] NO_PAGES = {Integer.MIN_VALUE, NONE, -1, 2, Integer.MAX_VALUE};
    private static final int[] NO_WHATS = {Integer.MIN_VALUE, NONE, -1, 6, Integer.MAX_VALUE};

    public static void main(String[] args) {
        sentences(CellEdgesTest.class);
    }

    /** Whether a page with this head is good, by the page and by a start. */
    private static void dueHead(String what, boolean good, int one, int two, int three) {
        SettingsVault vault = vault("+a9=1", "a<8");
        spoilThree(vault, 1, 0, one, two, three);
        due(what + ": page", vault.page(1, 2), good ? 1 : 0);
        due(what + ": start", vault.start(), good ? 1 : NONE);
    }

    /** Whether this record is good in version 1, which has c (at most 255) and j (at most 5), by the page and a start. */
    private static void dueRecord(String what, boolean good, int one, int two, int three) {
        SettingsVault vault = vault("+a9=1,+b255=2", "-a,b>c,+j5=3");
        spoilHead(vault, 0, 1, 0);
        spoilThree(vault, 0, 3, one, two, three);
        spoilRecord(vault, 0, 6, 9, 4, 1);
        duePage(what, vault, 0, 0, 0, 1, good ? 2 : 1, good ? 0 : 1);
        due(what + ": start", vault.start(), 0);
        due(what + ": bad ones", vault.state(5), good ? 0 : 1);
        due(what + ": its value", vault.get(2), good && one == 3 ? two : 2);
        due(what + ": the next one", vault.get(9), 4);
        due(what + ": room", vault.state(4), 13);
    }

    // ---- Cells and pages

    @Sentence("Cells and pages: There are two pages (0 and 1) with 48 cells each (0 to 47).")
    static void twoPagesOf48Cells() {
        SettingsVault vault = new SettingsVault();
        for (int page = 0; page < 2; page++) {
            for (int index = 0; index < 48; index++) {
                due("spoil", vault.spoil(page, index, 100 * page + index), NONE);
            }
        }
        for (int page = 0; page < 2; page++) {
            for (int index = 0; index < 48; index++) {
                due("cell " + page + " " + index, vault.cell(page, index), 100 * page + index);
            }
            due("behind the last cell", vault.cell(page, 48), NO_SUCH);
            due("ahead of the first cell", vault.cell(page, -1), NO_SUCH);
        }
        due("behind the last page", vault.cell(2, 0), NO_SUCH);
        due("ahead of the first page", vault.cell(-1, 0), NO_SUCH);
    }

    @Sentence("Cells and pages: A cell is erased, or has a value from 0 to 255.")
    static void valuesOfCells() {
        SettingsVault vault = new SettingsVault();
        vault.spoil(0, 0, 0);
        vault.spoil(1, 47, 255);
        due("0", vault.cell(0, 0), 0);
        due("255", vault.cell(1, 47), 255);
        due("erased", vault.cell(0, 1), NONE);
        due("0 is not erased", vault.page(0, 5), 1);
        due("256", vault.spoil(0, 0, 256), BAD_VALUE);
        due("-1", vault.spoil(0, 0, -1), BAD_VALUE);
    }

    @Sentence("Cells and pages: The cells 0 to 2 of a page are its head: 200 + the version, a sequence (0 to 199),"
        + " and the check (3 * cell 0 + 5 * cell 1 + 1) mod 251.")
    static void cellsOfTheHead() {
        SettingsVault vault = vault("+a9=1", "a<9", "a<9", "a<9", "a<9", "a<9");
        vault.factory(0);
        dueCells("version 0", vault, 0, 0, 200, 0, 99, NONE);
        vault.factory(5);
        dueCells("version 5", vault, 0, 0, 205, 0, 114, NONE);
        spoilThree(vault, 0, 0, 200, 198, 85);
        due("sequence 198", vault.start(), 0);
        vault.compact();
        dueCells("sequence 199", vault, 1, 0, 200, 199, 90, NONE);
        spoilThree(vault, 1, 0, 200, 180, 246);
        vault.start();
        vault.spoil(0, 0, NONE);
        due("sequence 180", vault.start(), 1);
        vault.compact();
        dueCells("the check 0", vault, 0, 0, 200, 181, 0, NONE);
        due("it is good", vault.page(0, 2), 1);
        spoilThree(vault, 0, 0, 201, 130, 250);
        due("the check 250", vault.page(0, 2), 1);
    }

    @Sentence("Cells and pages: Behind it are up to 15 records, each of three cells")
    static void fifteenRecords() {
        SettingsVault vault = ready("+a255=0");
        for (int i = 0; i < 15; i++) {
            due("room ahead of " + i, vault.state(4), 15 - i);
            due("set " + i, vault.set(0, i + 1), 3);
            due("place of " + i, vault.record(0), 3 + 3 * i);
            due("filled cells", vault.page(0, 5), 6 + 3 * i);
        }
        due("no room", vault.state(4), 0);
        due("good ones", vault.page(0, 3), 15);
        vault.set(0, 99);
        due("the 16th is on the other page", vault.state(1), 1);
        due("its place", vault.record(0), 3);
    }

    @Sentence("Cells and pages: 1 + the name, the value, and the check"
        + " (7 * the first cell + 11 * the second cell + 13 * the version + 5) mod 251")
    static void cellsOfARecord() {
        String same = "a<255";
        SettingsVault vault = vault("+a255=1,+e99=0,+j255=1", same, same, same, same, same);
        vault.factory(0);
        vault.set(0, 0);
        dueCells("name 0, value 0, version 0", vault, 0, 3, 1, 0, 12);
        vault.set(9, 255);
        dueCells("name 9, value 255, version 0", vault, 0, 6, 10, 255, 119);
        vault.set(4, 42);
        dueCells("the check 0", vault, 0, 9, 5, 42, 0);
        vault.set(0, 227);
        dueCells("the check 250", vault, 0, 12, 1, 227, 250, NONE);
        due("all good", vault.page(0, 3), 4);
        vault.factory(5);
        vault.set(9, 255);
        dueCells("name 9, value 255, version 5", vault, 0, 3, 10, 255, 184);
    }

    @Sentence("Cells and pages: A head is good if its three cells are not erased")
    static void headNotErased() {
        dueHead("none erased", true, 200, 0, 99);
        dueHead("first erased", false, NONE, 0, 99);
        dueHead("second erased", false, 200, NONE, 99);
        // 69 would be right if the erased cell counted as the -6 that tells of it.
        dueHead("second erased, with a check for -6", false, 200, NONE, 69);
        dueHead("third erased", false, 200, 0, NONE);
        dueHead("all erased", false, NONE, NONE, NONE);
    }

    @Sentence("Cells and pages: the first one is 200 to 205 and there is such a version")
    static void headVersion() {
        dueHead("199", false, 199, 0, headCheck(-1, 0));
        dueHead("200", true, 200, 0, headCheck(0, 0));
        dueHead("201", true, 201, 0, headCheck(1, 0));
        dueHead("202, not there", false, 202, 0, headCheck(2, 0));
        dueHead("205, not there", false, 205, 0, headCheck(5, 0));
        dueHead("0", false, 0, 0, 1);
        SettingsVault vault = vault("+a9=1", "a<8", "a<7", "a<6", "a<5");
        spoilHead(vault, 0, 5, 0);
        due("205 ahead of the sixth version", vault.page(0, 2), 0);
        due("the sixth version", define(vault, "a<4"), 5);
        due("205 behind it", vault.page(0, 2), 1);
        due("start", vault.start(), 0);
        spoilHead(vault, 0, 6, 0);
        due("206", vault.page(0, 2), 0);
        due("start then", vault.start(), NONE);
    }

    @Sentence("Cells and pages: the second one is at most 199")
    static void headSequence() {
        dueHead("0", true, 200, 0, headCheck(0, 0));
        dueHead("198", true, 200, 198, headCheck(0, 198));
        dueHead("199", true, 200, 199, headCheck(0, 199));
        dueHead("200", false, 200, 200, headCheck(0, 200));
        dueHead("255", false, 200, 255, headCheck(0, 255));
    }

    @Sentence("Cells and pages: A head is good if [..] the check is right.")
    static void headsCheck() {
        dueHead("right", true, 200, 7, 134);
        dueHead("one less", false, 200, 7, 133);
        dueHead("one more", false, 200, 7, 135);
        dueHead("that of another sequence", false, 200, 8, 134);
        dueHead("that of another version", false, 201, 7, 134);
        dueHead("0", true, 200, 181, 0);
        dueHead("251 is not 0", false, 200, 181, 251);
        dueHead("250", true, 201, 130, 250);
        dueHead("2", true, 200, 81, 2);
        dueHead("253 is not 2", false, 200, 81, 253);
    }

    @Sentence("Cells and pages: A record is good if its three cells are not erased")
    static void recordNotErased() {
        dueRecord("none erased", true, 3, 8, recordCheck(2, 8, 1));
        dueRecord("second erased", false, 3, NONE, recordCheck(2, 0, 1));
        // 22 would be right if the erased cell counted as the -6 that tells of it.
        due("the check for -6", recordCheck(9, NONE, 1), 22);
        dueRecord("second erased, with a check for -6", false, 10, NONE, 22);
        dueRecord("third erased", false, 3, 8, NONE);
        dueRecord("both erased", false, 3, NONE, NONE);
    }

    @Sentence("Cells and pages: its name is one of the settings of the version")
    static void recordsName() {
        dueRecord("c", true, 3, 8, recordCheck(2, 8, 1));
        dueRecord("j", true, 10, 5, recordCheck(9, 5, 1));
        dueRecord("a, there in version 0", false, 1, 0, recordCheck(0, 0, 1));
        dueRecord("b, there in version 0", false, 2, 0, recordCheck(1, 0, 1));
        dueRecord("d, never there", false, 4, 0, recordCheck(3, 0, 1));
        dueRecord("name -1", false, 0, 0, recordCheck(-1, 0, 1));
        dueRecord("name 10", false, 11, 0, recordCheck(10, 0, 1));
        dueRecord("name 254", false, 255, 0, recordCheck(254, 0, 1));
    }

    @Sentence("Cells and pages: the value is at most the greatest value")
    static void recordsValue() {
        dueRecord("0", true, 10, 0, recordCheck(9, 0, 1));
        dueRecord("the greatest", true, 10, 5, recordCheck(9, 5, 1));
        dueRecord("one more", false, 10, 6, recordCheck(9, 6, 1));
        dueRecord("255", false, 10, 255, recordCheck(9, 255, 1));
        dueRecord("255 as the greatest", true, 3, 255, recordCheck(2, 255, 1));
    }

    @Sentence("Cells and pages: A record is good if [..] the check is right.")
    static void recordsCheck() {
        dueRecord("right", true, 3, 8, 127);
        dueRecord("one less", false, 3, 8, 126);
        dueRecord("one more", false, 3, 8, 128);
        dueRecord("that of another value", false, 3, 9, 127);
        dueRecord("that of another name", false, 10, 5, recordCheck(2, 5, 1));
        dueRecord("that of another version", false, 3, 8, recordCheck(2, 8, 0));
        int value = valueWithCheck(0);
        dueRecord("0", true, 3, value, 0);
        dueRecord("251 is not 0", false, 3, value, 251);
        dueRecord("250", true, 3, valueWithCheck(250), 250);
    }

    /** The value of c with which its record has this check in version 1. */
    private static int valueWithCheck(int check) {
        int value = 0;
        while (value < 250 && recordCheck(2, value, 1) != check) {
            value++;
        }
        due("there is a value with the check " + check, recordCheck(2, value, 1), check);
        return value;
    }

    // ---- promise 11: cell

    @Sentence("11 cell: Returns the value of a cell, whether the power is on or off.")
    static void cellWithoutPower() {
        SettingsVault vault = ready("+a9=1");
        due("on", vault.cell(0, 0), 200);
        vault.fail(1);
        due("set", vault.set(0, 5), 1);
        due("off", vault.state(0), 0);
        dueCells("off", vault, 0, 0, 200, 0, 99, 1, NONE);
    }

    @Sentence("11 cell: NO_SUCH if there is no such page or cell")
    static void cellNoSuch() {
        SettingsVault vault = ready("+a9=1");
        for (int[] row : NO_CELLS) {
            due("cell " + row[0] + " " + row[1], vault.cell(row[0], row[1]), NO_SUCH);
        }
        due("the first", vault.cell(0, 0), 200);
        due("the last", vault.cell(1, 47), NONE);
    }

    @Sentence("11 cell: NONE if it is erased")
    static void cellErased() {
        SettingsVault vault = ready("+a9=1");
        due("a new one", vault.cell(1, 0), NONE);
        due("behind the head", vault.cell(0, 3), NONE);
        vault.spoil(0, 47, 0);
        due("0", vault.cell(0, 47), 0);
        vault.spoil(0, 47, NONE);
        due("spoiled", vault.cell(0, 47), NONE);
        vault.compact();
        vault.factory(0);
        due("erased", vault.cell(1, 0), NONE);
    }

    @Sentence("Conventions for 11 cell: A call that returns an error changes nothing.")
    static void cellErrorsChangeNothing() {
        SettingsVault vault = ready("+a9=1");
        int[] before = look(vault);
        for (int[] row : NO_CELLS) {
            due("cell", vault.cell(row[0], row[1]), NO_SUCH);
        }
        dueUnchanged(vault, before);
    }

    // ---- promise 12: spoil

    @Sentence("12 spoil: Spoils a cell: it gets a value without writing, whether the power is on or off.")
    static void spoilWithoutWriting() {
        SettingsVault vault = ready("+a9=1");
        vault.fail(1);
        due("first", vault.spoil(0, 0, 9), 200);
        due("last", vault.spoil(1, 47, 9), NONE);
        due("first cell then", vault.cell(0, 0), 9);
        due("last cell then", vault.cell(1, 47), 9);
        dueStates("nothing is written", vault, 9, 1, 3, 2);
        due("the power fails at a write", vault.set(0, 5), 1);
        due("off", vault.spoil(0, 4, 7), NONE);
        due("cell while off", vault.cell(0, 4), 7);
        dueStates("nothing is written while off", vault, 9, NONE, 4, 2);
        due("still off", vault.state(0), 0);
    }

    @Sentence("12 spoil: (What was read before stays.)")
    static void spoilKeepsWhatWasRead() {
        SettingsVault vault = ready("+a9=1,+b9=1");
        vault.set(0, 5);
        spoilAll(vault, 0, NONE);
        spoilAll(vault, 1, 77);
        dueStates("spoiled", vault, 0, 1, 0, 0, 0, 14, 0, 2, 1);
        due("value", vault.get(0), 5);
        due("record", vault.record(0), 3);
        due("the next record is behind it", vault.set(1, 7), 3);
        due("its place", vault.record(1), 6);
        due("nothing is found then", vault.start(), NONE);
    }

    @Sentence("12 spoil: 0 to 255, or NONE for erased")
    static void spoilValues() {
        SettingsVault vault = new SettingsVault();
        for (int value : new int[] {0, 255, NONE, 128}) {
            vault.spoil(0, 3, value);
            due("value " + value, vault.cell(0, 3), value);
        }
    }

    @Sentence("12 spoil: Returns the previous value, NONE if it was erased")
    static void spoilReturnsThePrevious() {
        SettingsVault vault = ready("+a9=1");
        due("written", vault.spoil(0, 0, 255), 200);
        due("255", vault.spoil(0, 0, 0), 255);
        due("0", vault.spoil(0, 0, NONE), 0);
        due("erased", vault.spoil(0, 0, NONE), NONE);
        due("erased before", vault.spoil(0, 0, 1), NONE);
        due("the same", vault.spoil(0, 0, 1), 1);
    }

    @Sentence("12 spoil: NO_SUCH if there is no such page or cell")
    static void spoilNoSuch() {
        SettingsVault vault = ready("+a9=1");
        for (int[] row : NO_CELLS) {
            due("spoil " + row[0] + " " + row[1], vault.spoil(row[0], row[1], 5), NO_SUCH);
        }
        due("the first", vault.spoil(0, 0, 5), 200);
        due("the last", vault.spoil(1, 47, 5), NONE);
    }

    @Sentence("12 spoil: BAD_VALUE if value is out of range")
    static void spoilBadValue() {
        SettingsVault vault = ready("+a9=1");
        for (int value : NO_VALUES) {
            due("value " + value, vault.spoil(0, 0, value), BAD_VALUE);
        }
        due("255", vault.spoil(0, 0, 255), 200);
    }

    @Sentence("Conventions for 12 spoil: the first one that applies is returned")
    static void spoilOrder() {
        SettingsVault vault = new SettingsVault();
        due("no page ahead of a bad value", vault.spoil(2, 0, 256), NO_SUCH);
        due("no cell ahead of a bad value", vault.spoil(0, 48, -1), NO_SUCH);
    }

    @Sentence("Conventions for 12 spoil: A call that returns an error changes nothing.")
    static void spoilErrorsChangeNothing() {
        SettingsVault vault = ready("+a9=1");
        int[] before = look(vault);
        for (int[] row : NO_CELLS) {
            due("no cell", vault.spoil(row[0], row[1], 5), NO_SUCH);
        }
        for (int value : NO_VALUES) {
            due("bad value", vault.spoil(0, 0, value), BAD_VALUE);
        }
        dueUnchanged(vault, before);
    }

    // ---- promise 13: page

    @Sentence("13 page: Returns a number about a page, by its cells as they are.")
    static void pageByItsCells() {
        SettingsVault vault = ready("+a9=1");
        vault.set(0, 5);
        duePage("written", vault, 0, 6, 1, 1, 1, 0, 6);
        vault.spoil(0, 4, 6);
        duePage("a record is spoiled", vault, 0, 6, 1, 1, 0, 1, 6);
        vault.spoil(0, 2, NONE);
        duePage("the head is spoiled", vault, 0, 6, 1, 0, 0, 0, 5);
        due("what was read is another matter", vault.state(1), 0);
        spoilHead(vault, 1, 0, 3);
        spoilRecord(vault, 1, 3, 0, 9, 0);
        duePage("another page is made good", vault, 1, 0, 1, 1, 1, 0, 6);
    }

    @Sentence("13 page: 0 the writes")
    static void pageWrites() {
        SettingsVault vault = ready("+a9=1");
        due("head", vault.page(0, 0), 3);
        due("other page", vault.page(1, 0), 0);
        vault.fail(2);
        vault.set(0, 5);
        due("the record's first two", vault.page(0, 0), 5);
        vault.start();
        vault.compact();
        due("other page then", vault.page(1, 0), 3);
        due("they stay", vault.page(0, 0), 5);
        vault.factory(0);
        due("erasing takes none away", vault.page(1, 0), 3);
        due("one more head", vault.page(0, 0), 8);
    }

    @Sentence("13 page: 1 the erasures")
    static void pageErasures() {
        SettingsVault vault = vault("+a9=1");
        due("none", vault.page(0, 1), 0);
        vault.factory(0);
        due("factory, page 0", vault.page(0, 1), 1);
        due("factory, page 1", vault.page(1, 1), 1);
        vault.compact();
        due("compact, page 0", vault.page(0, 1), 1);
        due("compact, page 1", vault.page(1, 1), 2);
        spoilAll(vault, 0, NONE);
        due("spoiling erases cells, not the page", vault.page(0, 1), 1);
    }

    @Sentence("13 page: 2 whether its head is good (1 or 0)")
    static void pageHead() {
        SettingsVault vault = vault("+a9=1");
        due("erased", vault.page(0, 2), 0);
        vault.factory(0);
        due("written", vault.page(0, 2), 1);
        due("the other", vault.page(1, 2), 0);
        vault.compact();
        due("both, the first", vault.page(0, 2), 1);
        due("both, the second", vault.page(1, 2), 1);
        vault.fail(2);
        vault.compact();
        due("half written", vault.page(0, 2), 0);
    }

    @Sentence("13 page: 3 its good records")
    static void pageGoodRecords() {
        SettingsVault vault = ready("+a255=0");
        due("none", vault.page(0, 3), 0);
        for (int index = 3; index < 48; index += 3) {
            spoilRecord(vault, 0, index, 0, index, 0);
            due("good ones", vault.page(0, 3), index / 3);
        }
        due("no bad one", vault.page(0, 4), 0);
        vault.spoil(0, 45, NONE);
        due("the last one away", vault.page(0, 3), 14);
        vault.spoil(0, 24, NONE);
        due("nothing is read behind a gap", vault.page(0, 3), 7);
        vault.spoil(0, 3, NONE);
        due("the first one away", vault.page(0, 3), 0);
    }

    @Sentence("13 page: 4 its bad ones")
    static void pageBadRecords() {
        SettingsVault vault = ready("+a9=0");
        due("none", vault.page(0, 4), 0);
        for (int index = 3; index < 48; index += 3) {
            vault.spoil(0, index, 0);
            due("bad ones", vault.page(0, 4), index / 3);
        }
        due("no good one", vault.page(0, 3), 0);
        vault.spoil(0, 24, NONE);
        due("nothing is read behind a gap", vault.page(0, 4), 7);
    }

    @Sentence("13 page: (3 and 4: as they would be read, in the version of its head; 0 if the head is not good)")
    static void pageRecordsInItsVersion() {
        SettingsVault vault = ready("+a99=10", "a*2");
        spoilHead(vault, 1, 1, 0);
        spoilRecord(vault, 1, 3, 0, 198, 1);
        spoilRecord(vault, 1, 6, 0, 99, 0);
        spoilRecord(vault, 1, 9, 0, 199, 1);
        duePage("version 1", vault, 1, 0, 1, 1, 1, 2, 12);
        spoilHead(vault, 1, 0, 0);
        duePage("version 0", vault, 1, 0, 1, 1, 1, 2, 12);
        vault.spoil(1, 7, 100);
        duePage("no good one in version 0", vault, 1, 0, 1, 1, 0, 3, 12);
        vault.spoil(1, 0, NONE);
        duePage("no head", vault, 1, 0, 1, 0, 0, 0, 11);
        spoilHead(vault, 1, 2, 0);
        duePage("no such version", vault, 1, 0, 1, 0, 0, 0, 12);
    }

    @Sentence("13 page: 5 the cells that are not erased")
    static void pageFilledCells() {
        SettingsVault vault = vault("+a9=1");
        due("none", vault.page(1, 5), 0);
        vault.spoil(1, 47, 0);
        due("a 0 in the last", vault.page(1, 5), 1);
        vault.spoil(1, 0, 255);
        due("the first", vault.page(1, 5), 2);
        spoilAll(vault, 1, 1);
        due("all", vault.page(1, 5), 48);
        due("none of the other page", vault.page(0, 5), 0);
        vault.factory(0);
        due("erased", vault.page(1, 5), 0);
    }

    @Sentence("13 page: NO_SUCH if there is no such page")
    static void pageNoSuch() {
        SettingsVault vault = ready("+a9=1");
        for (int page : NO_PAGES) {
            due("page " + page, vault.page(page, 0), NO_SUCH);
        }
        due("the first", vault.page(0, 0), 3);
        due("the last", vault.page(1, 0), 0);
    }

    @Sentence("13 page: BAD_VALUE if what is out of range")
    static void pageBadWhat() {
        SettingsVault vault = ready("+a9=1");
        for (int what : NO_WHATS) {
            due("what " + what, vault.page(0, what), BAD_VALUE);
        }
        due("the last", vault.page(0, 5), 3);
    }

    @Sentence("Conventions for 13 page: the first one that applies is returned")
    static void pageOrder() {
        due("no page ahead of a bad what", new SettingsVault().page(2, 6), NO_SUCH);
        due("no page ahead of a bad what", new SettingsVault().page(-1, -1), NO_SUCH);
    }

    @Sentence("Conventions for 13 page: A call that returns an error changes nothing.")
    static void pageErrorsChangeNothing() {
        SettingsVault vault = ready("+a9=1");
        int[] before = look(vault);
        for (int page : NO_PAGES) {
            due("no page", vault.page(page, 0), NO_SUCH);
        }
        for (int what : NO_WHATS) {
            due("bad what", vault.page(0, what), BAD_VALUE);
        }
        dueUnchanged(vault, before);
    }
}
