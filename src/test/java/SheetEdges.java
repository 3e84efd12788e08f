/** The boundary cases of sheets and slots: promises 29 to 37. */
public final class SheetEdges {
  private static final int BAD = Due.BAD, NO = Due.NO, NONE = Due.NONE, NOTHING = Due.NOTHING, KIND = Due.KIND;
  private static final int INDEX = Due.INDEX, SIZE = Due.SIZE, LEAST = Due.LEAST, MOST = Due.MOST;
  private static final int MISSING = -1, SHORTS = 0, FLOATS = 1;
  private static final int HOUSE = 1, SHEET = 2, NUMBER = 3;
  private static final int[] NO_SHEET = {LEAST, NONE, -1, 4, 5, MOST};
  private static final int[] NO_SLOT = {LEAST, NONE, -1, 5, 6, MOST};

  private static final Due d = new Due();

  public static void main(String[] args) {
    sheet();
    sheetMadeAnew();
    markRefused();
    markShorts();
    markFloats();
    pour();
    pourHeldWithin();
    reads();
    copyRefused();
    copyPlaces();
    copyAsTheyWere();
    layRefused();
    layHolds();
    layForGood();
    ask();
    item();
    rest();
    d.end();
  }

  /** The places of a sheet, seen through slot 4. */
  private static void placesDue(Trial t, int sheet, int... want) {
    t.does("lay", 4, SHEET, sheet);
    for (int i = 0; i < want.length; i++) {
      t.due(want[i], "item", 4, i);
    }
    t.due(INDEX, "item", 4, want.length).does("lay", 4, 0, 0);
  }

  private static Trial marked(Trial t, int sheet, int sort, int... places) {
    t.does("sheet", sheet, sort, places.length);
    for (int i = 0; i < places.length; i++) {
      t.does("mark", sheet, i, places[i]);
    }
    return t;
  }

  private static void sheet() {
    d.says(29, "A SHEET becomes a row of n places of a sort, all 0 (sort -1: MISSING, n any): n (0). BAD: sheet, sort, n "
        + "above 24; SIZE.");
    Trial t = new Trial(d);
    for (int no : NO_SHEET) {
      t.due(BAD, "sheet", no, SHORTS, 1).due(BAD, "sheet", no, MISSING, 0);
    }
    for (int sort : new int[] {LEAST, NONE, -2, 2, MOST}) {
      t.due(BAD, "sheet", 0, sort, 1);
    }
    for (int n : new int[] {25, 26, MOST}) {
      t.due(BAD, "sheet", 0, SHORTS, n).due(BAD, "sheet", 0, FLOATS, n).due(0, "sheet", 0, MISSING, n);
    }
    d.says(29, "SIZE: a number of places is below 0");
    for (int n : new int[] {-1, -24, NONE, LEAST}) {
      t.due(SIZE, "sheet", 0, SHORTS, n).due(SIZE, "sheet", 0, FLOATS, n).due(0, "sheet", 0, MISSING, n);
    }
    t.due(NOTHING, "reads", 0);
    d.says(29, "of several the one that stands first with it");
    t.due(BAD, "sheet", 4, SHORTS, -1).due(BAD, "sheet", 0, 2, -1);
    d.says(29, "with 0 to 24 places, or MISSING (at first)");
    for (int sort = SHORTS; sort <= FLOATS; sort++) {
      t.due(0, "sheet", 0, sort, 0).due(INDEX, "mark", 0, 0, 1).due(1, "sheet", 0, sort, 1).due(1, "mark", 0, 0, 1);
      t.due(INDEX, "mark", 0, 1, 1).due(24, "sheet", 0, sort, 24).due(1, "mark", 0, 23, 1).due(INDEX, "mark", 0, 24, 1);
    }
    t.due(0, "sheet", 0, MISSING, 24).due(NOTHING, "mark", 0, 0, 1);
  }

  private static void sheetMadeAnew() {
    d.says(29, "A SHEET becomes a row of n places of a sort, all 0");
    Trial t = marked(new Trial(d), 0, FLOATS, 5, NONE, 7);
    t.due(3, "sheet", 0, FLOATS, 3);
    placesDue(t, 0, 0, 0, 0);
    marked(t, 0, FLOATS, 5, NONE, 7).due(2, "sheet", 0, SHORTS, 2);
    placesDue(t, 0, 0, 0);
    marked(t, 0, SHORTS, 5, 6, 7).due(1, "sheet", 0, SHORTS, 1).due(3, "sheet", 0, SHORTS, 3);
    placesDue(t, 0, 0, 0, 0);
    marked(t, 0, SHORTS, 5, 6, 7).due(0, "sheet", 0, MISSING, 3).due(3, "sheet", 0, SHORTS, 3);
    placesDue(t, 0, 0, 0, 0);
    d.says(29, "A call that is refused answers one of BAD, NO, FULL, or a FINDING");
    marked(t, 0, SHORTS, 5, 6).due(SIZE, "sheet", 0, FLOATS, -1).due(BAD, "sheet", 0, FLOATS, 25);
    placesDue(t, 0, 5, 6);
  }

  private static void markRefused() {
    d.says(30, "BAD: sheet; NOTHING; INDEX; KIND: NONE in a row of shorts; BAD: v of floats.");
    Trial t = new Trial(d).does("sheet", 1, SHORTS, 2).does("sheet", 2, FLOATS, 2);
    for (int no : NO_SHEET) {
      t.due(BAD, "mark", no, 0, 0).due(BAD, "mark", no, 9, NONE);
    }
    t.due(NOTHING, "mark", 0, 0, 0).due(NOTHING, "mark", 0, -1, NONE).due(NOTHING, "mark", 3, 0, MOST);
    for (int place : new int[] {LEAST, NONE, -1, 2, 24, MOST}) {
      t.due(INDEX, "mark", 1, place, 0).due(INDEX, "mark", 1, place, NONE);
      t.due(INDEX, "mark", 2, place, 0).due(INDEX, "mark", 2, place, 100000);
    }
    t.due(KIND, "mark", 1, 0, NONE).due(KIND, "mark", 1, 1, NONE);
    for (int v : new int[] {LEAST, NONE - 1, NONE + 1, -100000, 100000, MOST}) {
      t.due(BAD, "mark", 2, 0, v);
    }
    placesDue(t, 1, 0, 0);
    placesDue(t, 2, 0, 0);
  }

  private static void markShorts() {
    d.says(30, "A place of a SHEET becomes v (of shorts its lowest 16 bits");
    int[][] rows = {{0, 0}, {32767, 32767}, {32768, -32768}, {65535, -1}, {65536, 0}, {65537, 1}, {-1, -1},
        {-32768, -32768}, {-32769, 32767}, {-65536, 0}, {MOST, -1}, {LEAST, 0}, {LEAST + 32768, -32768},
        {NONE - 1, (short) (NONE - 1)}, {BAD, (short) BAD}, {99999, 99999 - 131072}};
    Trial t = new Trial(d).does("sheet", 0, SHORTS, 1);
    for (int[] row : rows) {
      t.due(1, "mark", 0, 0, row[0]).does("lay", 0, SHEET, 0).due(row[1], "item", 0, 0);
    }
  }

  private static void markFloats() {
    d.says(30, "of floats v, -99999 .. 99999; NONE: NO NUMBER): 1.");
    Trial t = new Trial(d).does("sheet", 0, FLOATS, 1);
    for (int v : new int[] {0, 1, -1, 32768, -32769, 65536, 99998, 99999, -99998, -99999}) {
      t.due(1, "mark", 0, 0, v).does("lay", 0, SHEET, 0).due(v, "item", 0, 0);
    }
    t.due(1, "mark", 0, 0, NONE).does("lay", 0, SHEET, 0).due(KIND, "item", 0, 0);
    t.due(1, "mark", 0, 0, NONE).due(1, "mark", 0, 0, 4).does("lay", 0, SHEET, 0).due(4, "item", 0, 0);
    t.due(BAD, "mark", 0, 0, 100000).does("lay", 0, SHEET, 0).due(4, "item", 0, 0);
  }

  private static void pour() {
    d.says(31, "how many are otherwise then. BAD; NOTHING.");
    Trial t = new Trial(d).due(NOTHING, "pour", 0).due(NOTHING, "pour", 3).does("sheet", 0, SHORTS, 24);
    for (int no : NO_SHEET) {
      t.due(BAD, "pour", no);
    }
    t.due(0, "pour", 0).does("sheet", 1, FLOATS, 0);
    for (int i = 0; i < 10; i++) {
      t.does("house", 0, 0, 50, 0);
    }
    t.due(0, "pour", 1).due(10, "pour", 0).due(0, "pour", 0);
    for (int i = 0; i < 10; i++) {
      t.due(0, "told", i, 2);
    }
    d.says(31, "NO NUMBER, and beyond the SHEET: it stays");
    marked(t, 2, FLOATS, 1, NONE, 0, 4).due(2, "pour", 2);
    int[] want = {1, 0, 0, 4, 0, 0, 0, 0, 0, 0};
    for (int i = 0; i < 10; i++) {
      t.due(want[i], "told", i, 2);
    }
    marked(t, 2, FLOATS, NONE, NONE).due(0, "pour", 2).due(1, "told", 0, 2);
  }

  private static void pourHeldWithin() {
    d.says(31, "PLATES of HOUSES, by numbers, become the places of a SHEET from 0 on (each held within 0 and 99;");
    Trial t = Trial.withHouses(d, 8, 0, 0, 50, 0);
    marked(t, 0, FLOATS, -1, 0, 99, 100, 99999, -99999, 98, 50).due(7, "pour", 0);
    int[] want = {0, 0, 99, 99, 99, 0, 98, 50};
    for (int i = 0; i < 8; i++) {
      t.due(want[i], "told", i, 2);
    }
    // A place above 99 that is held is not otherwise if the plate was 99 already.
    t.due(0, "pour", 0);
    marked(t, 1, SHORTS, 32767, -32768, 65535, 100).due(2, "pour", 1);
    int[] shorts = {99, 0, 0, 99, 99, 0, 98, 50};
    for (int i = 0; i < 8; i++) {
      t.due(shorts[i], "told", i, 2);
    }
    placesDue(t, 1, 32767, -32768, -1, 100);
  }

  private static void reads() {
    d.says(32, "The first place (of numbers alone) at which a SHEET is not STRAIGHT of that HOUSE (of places that are no "
        + "HOUSE all numbers are not). BAD; NOTHING; NONE: there is none.");
    Trial t = new Trial(d).due(NOTHING, "reads", 0).due(NOTHING, "reads", 3).does("sheet", 0, SHORTS, 0);
    for (int no : NO_SHEET) {
      t.due(BAD, "reads", no);
    }
    t.due(NONE, "reads", 0).does("sheet", 0, SHORTS, 1).due(0, "reads", 0);
    marked(t, 1, FLOATS, NONE, NONE, 0).due(2, "reads", 1).does("mark", 1, 2, NONE).due(NONE, "reads", 1);
    t.does("house", 0, 0, 0, 0).does("house", 0, 99, 0, 0).due(NONE, "reads", 0);
    marked(t, 2, FLOATS, 0, 99).due(NONE, "reads", 2).does("mark", 2, 1, 100).due(1, "reads", 2);
    t.does("mark", 2, 0, NONE).due(1, "reads", 2).does("mark", 2, 1, NONE).due(NONE, "reads", 2);
    t.does("mark", 2, 0, -1).due(0, "reads", 2);
    marked(t, 3, SHORTS, 0, 99, 0).due(2, "reads", 3).does("house", 0, 0, 0, 0).due(NONE, "reads", 3);
    // A row of 24 that is right up to the tenth house.
    Trial ten = Trial.withHouses(d, 10, 0, 0, 0, 0).does("sheet", 0, FLOATS, 24).due(10, "reads", 0);
    for (int i = 10; i < 23; i++) {
      ten.does("mark", 0, i, NONE);
    }
    ten.due(23, "reads", 0).does("mark", 0, 23, NONE).due(NONE, "reads", 0).does("set", 9, 1, 1).due(9, "reads", 0);
  }

  private static void copyRefused() {
    d.says(33, "BAD; NOTHING; KIND: they are not of one sort; INDEX (also if many is below 0).");
    Trial t = marked(marked(new Trial(d), 0, SHORTS, 1, 2, 3), 1, FLOATS, 4, 5, 6);
    for (int no : NO_SHEET) {
      t.due(BAD, "copy", no, 0, 0, 0, 1).due(BAD, "copy", 0, 0, no, 0, 1).due(BAD, "copy", no, -1, no, -1, -1);
      t.due(BAD, "copy", no, 0, 2, 0, 1).due(BAD, "copy", 2, 0, no, 0, 1);
    }
    t.due(NOTHING, "copy", 2, 0, 0, 0, 1).due(NOTHING, "copy", 0, 0, 2, 0, 1).due(NOTHING, "copy", 2, 0, 2, 0, 0);
    t.due(NOTHING, "copy", 2, -1, 1, -1, -1).due(NOTHING, "copy", 1, -1, 3, -1, -1);
    t.due(KIND, "copy", 0, 0, 1, 0, 1).due(KIND, "copy", 1, 0, 0, 0, 1).due(KIND, "copy", 0, 0, 1, 0, 0);
    t.due(KIND, "copy", 0, -1, 1, -1, -1).due(KIND, "copy", 1, 9, 0, 9, 9);
    for (int many : new int[] {LEAST, NONE, -1, 4, 24, MOST}) {
      t.due(INDEX, "copy", 0, 0, 0, 0, many);
    }
    for (int place : new int[] {LEAST, NONE, -1, 3, 4, MOST}) {
      t.due(INDEX, "copy", 0, place, 0, 0, 1).due(INDEX, "copy", 0, 0, 0, place, 1);
    }
    t.due(INDEX, "copy", 0, MOST, 0, MOST, MOST).due(INDEX, "copy", 0, 1, 0, 1, MOST).due(INDEX, "copy", 0, 2, 0, 0, 2);
    t.due(INDEX, "copy", 0, 0, 0, 2, 2).due(INDEX, "copy", 0, 4, 0, -1, -1).due(INDEX, "copy", 0, 1, 0, 0, -1);
    placesDue(t, 0, 1, 2, 3);
    placesDue(t, 1, 4, 5, 6);
  }

  private static void copyPlaces() {
    d.says(33, "INDEX: there is no such place");
    Trial t = marked(marked(new Trial(d), 0, SHORTS, 1, 2, 3), 1, SHORTS, 7, 8);
    t.due(INDEX, "copy", 0, 0, 1, 0, 3).due(INDEX, "copy", 0, 2, 1, 0, 2).due(INDEX, "copy", 0, 0, 1, 1, 2);
    t.due(2, "copy", 0, 1, 1, 0, 2);
    placesDue(t, 1, 2, 3);
    t.due(1, "copy", 0, 0, 1, 1, 1);
    placesDue(t, 1, 2, 1);
    // No places are to be found anywhere up to the place right behind the last.
    t.due(0, "copy", 0, 0, 1, 0, 0).due(0, "copy", 0, 3, 1, 2, 0).due(INDEX, "copy", 0, 4, 1, 0, 0);
    t.due(INDEX, "copy", 0, 0, 1, 3, 0).due(INDEX, "copy", 0, -1, 1, 0, 0).due(INDEX, "copy", 0, 0, 1, -1, 0);
    placesDue(t, 1, 2, 1);
    t.does("sheet", 2, SHORTS, 0).due(0, "copy", 2, 0, 2, 0, 0).due(0, "copy", 2, 0, 0, 3, 0);
    t.due(INDEX, "copy", 2, 0, 0, 0, 1).due(INDEX, "copy", 0, 0, 2, 0, 1).due(INDEX, "copy", 2, 1, 2, 0, 0);
    t.does("sheet", 2, SHORTS, 24).does("sheet", 3, SHORTS, 24).does("mark", 2, 23, 5).due(24, "copy", 2, 0, 3, 0, 24);
    t.does("lay", 0, SHEET, 3).due(5, "item", 0, 23).due(INDEX, "copy", 2, 0, 3, 0, 25);
  }

  private static void copyAsTheyWere() {
    d.says(33, "So many places of a SHEET come to another one (or the same), as they were: many.");
    Trial t = marked(new Trial(d), 0, FLOATS, 1, NONE, 3, 4, 5);
    t.due(4, "copy", 0, 0, 0, 1, 4);
    placesDue(t, 0, 1, 1, KIND, 3, 4);
    t.due(4, "copy", 0, 1, 0, 0, 4);
    placesDue(t, 0, 1, KIND, 3, 4, 4);
    t.due(5, "copy", 0, 0, 0, 0, 5);
    placesDue(t, 0, 1, KIND, 3, 4, 4);
    marked(t, 1, FLOATS, 9, 9, 9).due(2, "copy", 0, 1, 1, 1, 2);
    placesDue(t, 1, 9, KIND, 3);
    placesDue(t, 0, 1, KIND, 3, 4, 4);
  }

  private static void layRefused() {
    d.says(34, "BAD: slot, thing, k; NOTHING: that SHEET is MISSING.");
    Trial t = new Trial(d).does("lay", 0, NUMBER, 8).due(BAD, "lay", 0, HOUSE, 0).does("house", 0, 1, 2, 3);
    t.does("sheet", 1, SHORTS, 0);
    for (int no : NO_SLOT) {
      for (int thing = 0; thing <= 3; thing++) {
        t.due(BAD, "lay", no, thing, 0);
      }
    }
    for (int thing : new int[] {LEAST, NONE, -1, 4, MOST}) {
      t.due(BAD, "lay", 0, thing, 0);
    }
    for (int house : new int[] {LEAST, NONE, -1, 1, 10, MOST}) {
      t.due(BAD, "lay", 0, HOUSE, house);
    }
    for (int sheet : NO_SHEET) {
      t.due(BAD, "lay", 0, SHEET, sheet);
    }
    t.due(NOTHING, "lay", 0, SHEET, 0).due(NOTHING, "lay", 0, SHEET, 3).due(3, "rest", 0, 5);
    d.says(34, "of several the one that stands first with it");
    t.due(BAD, "lay", 5, SHEET, 0).due(BAD, "lay", 0, 4, 0);
  }

  private static void layHolds() {
    d.says(34, "A SLOT holds: thing 0 nothing, 1 HOUSE k, 2 SHEET k, 3 the number k: what it held (0 .. 3).");
    Trial t = new Trial(d).does("house", 0, 1, 2, 3).does("sheet", 0, SHORTS, 0);
    for (int slot = 0; slot < 5; slot++) {
      for (int was = 0; was < 4; was++) {
        for (int thing = 0; thing < 4; thing++) {
          t.does("lay", slot, was, 0).due(was, "lay", slot, thing, 0).due(thing, "lay", slot, 0, 0);
        }
      }
      if (slot < 4) {
        t.due(0, "lay", slot + 1, 0, 0);
      }
    }
    // Of nothing and of a number k is any.
    for (int k : new int[] {LEAST, NONE, -1, 0, 99, MOST}) {
      t.due(0, "lay", 0, 0, k).due(0, "lay", 0, NUMBER, k).due(k % 1000, "rest", 0, 1000).due(3, "lay", 0, 0, k);
    }
  }

  private static void layForGood() {
    d.says(34, "a HOUSE (as it is then, for good), a SHEET (a row of its own, as it was then), or a number");
    Trial t = new Trial(d).does("keep").does("house", 3, 51, 2, 40).does("set", 0, 4, 9).does("lay", 0, HOUSE, 0);
    t.does("set", 0, 1, 0).does("set", 0, 3, 0).does("set", 0, 4, 0).does("turns", 0, 5).due(45, "ask", 0, 3);
    t.does("nights", 10).due(45, "ask", 0, 1).due(0, "back").due(0, "count", 0).due(45, "ask", 0, 0);
    t.due(BAD, "lay", 1, HOUSE, 0);
    marked(t, 0, FLOATS, 5, NONE).does("lay", 1, SHEET, 0).does("lay", 2, SHEET, 0).does("mark", 0, 0, 6);
    t.does("mark", 0, 1, 7).due(5, "item", 1, 0).due(KIND, "item", 1, 1).does("sheet", 0, SHORTS, 1);
    t.due(5, "item", 1, 0).due(KIND, "item", 1, 1).due(INDEX, "item", 1, 2).does("sheet", 0, MISSING, 0);
    t.due(5, "item", 1, 0).due(NOTHING, "lay", 1, SHEET, 0).due(5, "item", 1, 0).due(5, "item", 2, 0);
  }

  private static void ask() {
    d.says(35, "WORTH of the HOUSE in a SLOT, taken for one of a KIND (0 .. 5). BAD; NOTHING; KIND: it is no HOUSE, or "
        + "not of that KIND, nor of one under it.");
    Trial t = new Trial(d).does("house", 4, 0, 0, 0).does("sheet", 0, SHORTS, 1).does("lay", 1, HOUSE, 0);
    t.does("lay", 2, SHEET, 0).does("lay", 3, NUMBER, 4);
    for (int no : NO_SLOT) {
      t.due(BAD, "ask", no, 0).due(BAD, "ask", no, 6);
    }
    for (int kind : new int[] {LEAST, NONE, -1, 6, MOST}) {
      for (int slot = 0; slot < 4; slot++) {
        t.due(BAD, "ask", slot, kind);
      }
    }
    for (int kind = 0; kind < 6; kind++) {
      t.due(NOTHING, "ask", 0, kind).due(KIND, "ask", 2, kind).due(KIND, "ask", 3, kind);
    }
    String[] under = {"0", "01", "02", "013", "024", "05"};
    int[] worth = {0, 0, 99, 0, 106, 9999};
    t.does("set", 0, 4, 9999);
    for (int kind = 0; kind < 6; kind++) {
      t.does("turns", 0, kind).does("lay", 1, HOUSE, 0);
      for (int as = 0; as < 6; as++) {
        t.due(under[kind].indexOf('0' + as) >= 0 ? worth[kind] : KIND, "ask", 1, as);
      }
    }
  }

  private static void item() {
    d.says(36, "A place of the SHEET in a SLOT. BAD: slot; NOTHING; KIND: it is no SHEET; INDEX; KIND: NO NUMBER.");
    Trial t = marked(new Trial(d).does("house", 4, 0, 0, 0), 0, FLOATS, 7, NONE, 9).does("lay", 1, SHEET, 0);
    t.does("lay", 2, HOUSE, 0).does("lay", 3, NUMBER, 4).does("sheet", 1, SHORTS, 0).does("lay", 4, SHEET, 1);
    for (int no : NO_SLOT) {
      t.due(BAD, "item", no, 0).due(BAD, "item", no, -1);
    }
    for (int place : new int[] {LEAST, NONE, -1, 3, 24, MOST}) {
      t.due(NOTHING, "item", 0, place).due(KIND, "item", 2, place).due(KIND, "item", 3, place);
      t.due(INDEX, "item", 1, place).due(INDEX, "item", 4, place);
    }
    t.due(NOTHING, "item", 0, 0).due(KIND, "item", 2, 0).due(KIND, "item", 3, 0).due(INDEX, "item", 4, 0);
    t.due(7, "item", 1, 0).due(KIND, "item", 1, 1).due(9, "item", 1, 2);
  }

  private static void rest() {
    d.says(37, "The rest of the number in a SLOT by n. BAD: slot; NOTHING; KIND: it is no number; NO: n is 0.");
    Trial t = new Trial(d).does("house", 4, 0, 0, 0).does("sheet", 0, SHORTS, 1).does("lay", 1, SHEET, 0);
    t.does("lay", 2, HOUSE, 0).does("lay", 3, NUMBER, 0);
    for (int no : NO_SLOT) {
      t.due(BAD, "rest", no, 0).due(BAD, "rest", no, 1);
    }
    for (int n : new int[] {LEAST, -1, 0, 1, MOST}) {
      t.due(NOTHING, "rest", 0, n).due(KIND, "rest", 1, n).due(KIND, "rest", 2, n).due(n == 0 ? NO : 0, "rest", 3, n);
    }
    d.says(37, "All numbers are whole; / cuts towards 0.");
    int[][] rows = {{7, 5, 2}, {-7, 5, -2}, {7, -5, 2}, {-7, -5, -2}, {LEAST, -1, 0}, {LEAST, 1, 0}, {LEAST, LEAST, 0},
        {MOST, LEAST, MOST}, {LEAST, MOST, -1}, {MOST, MOST, 0}, {-1, LEAST, -1}, {4, 5, 4}, {5, 5, 0}, {6, 5, 1}};
    for (int[] row : rows) {
      t.does("lay", 4, NUMBER, row[0]).due(row[2], "rest", 4, row[1]).due(NO, "rest", 4, 0);
    }
  }
}
