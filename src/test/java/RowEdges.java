/** The boundary cases of rows and images: promises 38 to 42. */
public final class RowEdges {
  private static final int BAD = Due.BAD, NO = Due.NO, FULL = Due.FULL, NONE = Due.NONE, LEAST = Due.LEAST;
  private static final int MOST = Due.MOST;
  private static final int EMPTY = 5;

  private static final Due d = new Due();

  public static void main(String[] args) {
    tell();
    checkRefused();
    checkRows();
    checkMostNights();
    checkUpToTheLastNight();
    checkByTheImage();
    keep();
    back();
    backToTenHouses();
    backAgainAndAgain();
    whatStays();
    count();
    d.end();
  }

  private static void tell() {
    d.says(38, "One more number waits: how many. FULL: 60 wait.");
    Trial t = new Trial(d);
    int[] any = {LEAST, MOST, 0, -1, NONE, BAD};
    for (int i = 1; i <= 60; i++) {
      t.due(i, "tell", any[i % any.length]);
    }
    t.due(FULL, "tell", 0).due(60, "count", 6).due(FULL, "tell", LEAST).due(60, "count", 6);
    t.due(NO, "check", 1).due(0, "count", 6).due(1, "tell", 0).due(2, "tell", 0);
  }

  private static void checkRefused() {
    d.says(39, "BAD; NO: there is no IMAGE.");
    Trial t = new Trial(d).due(NO, "check", 1).due(NO, "check", 30);
    for (int n : new int[] {LEAST, NONE, -1, 0, 31, MOST}) {
      t.due(BAD, "check", n);
    }
    d.says(39, "The numbers that wait (none do then, whatever is answered)");
    for (int n : new int[] {LEAST, -1, 0, 1, 30, 31, MOST}) {
      t.due(1, "tell", 5).due(2, "tell", 5).due(n < 1 || n > 30 ? BAD : NO, "check", n).due(0, "count", 6);
    }
    t.does("keep").does("tell", 0).does("tell", 0).due(0, "check", 1).due(0, "count", 6);
    t.does("tell", 0).does("tell", 1).due(2, "check", 1).due(0, "count", 6).does("tell", 0).due(BAD, "check", 0);
    t.due(0, "count", 6).due(1, "tell", 0).due(BAD, "check", 31).due(0, "count", 6);
  }

  /** NOISE goes up by one each night; COAL of all is 20, 40, 60, 80, 99, 99 .. */
  private static Trial steady() {
    return new Trial(d).does("house", EMPTY, 0, 0, 0).does("keep");
  }

  private static Trial told(Trial t, int many) {
    for (int i = 0; i < many; i++) {
      t.does("tell", i % 2 == 0 ? 1 + i / 2 : Math.min(99, 20 + i / 2 * 20));
    }
    return t;
  }

  private static void checkRows() {
    d.says(39, "two by two: 0; else 1 and how many stand right ahead of the first that is not (or is missing, or one too "
        + "many)");
    Trial t = steady();
    told(t, 2).due(0, "check", 1);
    told(t, 4).due(0, "check", 2);
    t.due(1, "check", 1).due(1, "check", 30);
    told(t, 1).due(2, "check", 1);
    told(t, 3).due(3, "check", 1);
    told(t, 4).due(3, "check", 1);
    told(t, 3).due(4, "check", 2);
    told(t, 2).due(3, "check", 2);
    told(t, 60).due(5, "check", 2);
    t.does("tell", 0).due(1, "check", 1);
    told(t, 1).does("tell", 21).due(2, "check", 1);
    told(t, 1).does("tell", 21).does("tell", 0).due(2, "check", 2);
    told(t, 2).does("tell", LEAST).due(3, "check", 2);
    told(t, 2).does("tell", 0).due(3, "check", 1);
    d.says(39, "THE NIGHTS TOLD: of n NIGHTS, one behind the other, by THE IMAGE");
    t.due(0, "count", 1).due(0, "terrace", 0).due(1, "count", 8).due(0, "told", 0, 3);
  }

  private static void checkMostNights() {
    d.says(39, "THE NIGHTS TOLD of n (1 .. 30;");
    told(steady(), 60).due(0, "check", 30);
    told(steady(), 59).due(60, "check", 30);
    told(steady(), 58).due(0, "check", 29);
    told(steady(), 60).due(59, "check", 29);
    // A number that did not come, as 60 waited, is not looked at.
    told(steady(), 60).due(FULL, "tell", 0).due(0, "check", 30);
    Trial none = new Trial(d).due(0, "keep").does(60, "tell", 0).due(0, "check", 30);
    none.does(59, "tell", 0).does("tell", 1).due(60, "check", 30);
  }

  private static void checkUpToTheLastNight() {
    d.says(39, "fewer, if THE NIGHT would be above 9999");
    Trial t = new Trial(d).does("house", EMPTY, 0, 0, 99).does(99, "nights", 100).does("nights", 97).does("keep");
    int[] row = {9998, 99, 9999, 99};
    t.due(9997, "count", 1);
    toldOf(t, row, 4).due(0, "check", 2);
    toldOf(t, row, 4).due(0, "check", 3);
    toldOf(t, row, 4).due(0, "check", 30);
    toldOf(t, row, 2).due(0, "check", 1);
    toldOf(t, row, 2).due(3, "check", 30);
    toldOf(t, row, 4).does("tell", 10000).due(5, "check", 30);
    toldOf(t, row, 4).does("tell", 10000).due(5, "check", 3);
    // It is the image's night that counts, not the one that is now.
    t.does("nights", 100).due(9999, "count", 1);
    toldOf(t, row, 4).due(0, "check", 30);
    toldOf(t, row, 3).due(4, "check", 2);
    t.due(1, "keep").due(0, "check", 1).due(0, "check", 30);
    t.does("tell", 10000).due(1, "check", 1).does("tell", 9999).due(1, "check", 30);
  }

  private static Trial toldOf(Trial t, int[] row, int many) {
    for (int i = 0; i < many; i++) {
      t.does("tell", row[i]);
    }
    return t;
  }

  private static void checkByTheImage() {
    d.says(39, "by THE IMAGE: NOISE; COAL of all, together, behind each");
    Trial t = steady().does("rule", 0, 99).does("rule", 1, 0).does("house", EMPTY, 0, 0, 50).does("turns", 0, 0);
    t.tells("fit 0").does("nights", 5);
    told(t, 4).due(0, "check", 2);
    t.due(2, "keep");
    told(t, 4).due(1, "check", 2);
    // What counts is the TEXT that the image kept, not one told since; and not the one that was gone with its return.
    Trial texts = new Trial(d).does("house", 0, 50, 0, 9).tells("fit 10").does("keep").tells("fit 0");
    texts.does("tell", 1).does("tell", 24).due(0, "check", 1).does("back").tells("fit 9");
    texts.does("tell", 1).does("tell", 24).due(0, "check", 1).does("keep").does("tell", 0).does("tell", 24);
    texts.due(0, "check", 1);
  }

  private static void keep() {
    d.says(40, "AN IMAGE is kept: how many HOUSES.");
    Trial t = new Trial(d).due(0, "keep").due(0, "back");
    for (int i = 1; i <= 10; i++) {
      t.does("house", 0, 0, 0, 0).due(i, "keep").due(i, "back");
    }
    // What is kept does not bear on what is asked now.
    new Trial(d).does("house", 0, 50, 0, 0).does("rule", 0, 0).does("keep").does("rule", 0, 10).due(1, "cement", 0)
        .due(1, "round").does("set", 0, 2, 50).due(0, "round").due(0, "shut", 0);
    // The image that is kept last takes the place of the one ahead of it.
    t.does("set", 0, 1, 7).due(10, "keep").does("set", 0, 1, 9).due(10, "back").due(7, "told", 0, 1);
  }

  private static void back() {
    d.says(41, "All is as THE IMAGE: how many HOUSES. NO: there is none.");
    Trial none = new Trial(d).does("house", 0, 7, 0, 0).due(NO, "back").due(1, "count", 0).due(7, "told", 0, 1);
    none.does("deal", 9).due(NO, "back").due(10, "count", 0);
    new Trial(d).due(0, "keep").does("deal", 10).due(0, "back").due(0, "count", 0).due(1, "count", 8).due(10, "deal", 10);
    Trial t = new Trial(d).does("house", 1, 50, 20, 30).does("house", 2, 50, 50, 30).does("rule", 0, 7).does("rule", 1, 8)
        .does("rule", 2, 9).does("seed", 5).does("nights", 3).does("load", 1).does("set", 1, 4, 66).tells("fee o * 2");
    int[] before = state(t);
    t.does("keep").does("turns", 0, 5).does("nights", 20).does("rule", 0, 1).does("rule", 1, 1).does("rule", 2, 1);
    t.does("seed", 1).tells("fit 1").tells("fee 1").tells("fine 1").does("deal", 5).does("set", 0, 2, 99).does("load", 0);
    t.due(2, "back");
    int[] after = state(t);
    for (int i = 0; i < before.length; i++) {
      d.answer("reading " + i + " behind back()", after[i], before[i]);
    }
    t.due(BAD, "told", 2, 0).due(BAD, "textTold", 1, 0);
  }

  private static void backToTenHouses() {
    d.says(41, "All is as THE IMAGE: how many HOUSES. NO: there is none.");
    Trial t = new Trial(d).does("deal", 10);
    int[][] row = new int[10][5];
    for (int i = 0; i < 10; i++) {
      t.does("set", i, 4, 100 + i);
      for (int what = 0; what < 5; what++) {
        row[i][what] = t.call("told", i, what);
      }
    }
    t.does("keep").does("nights", 50);
    for (int i = 0; i < 10; i++) {
      t.does("turns", i, i % 6).does("set", i, 1, i).does("set", i, 2, i).does("set", i, 3, i).does("set", i, 4, i);
    }
    t.due(10, "back");
    for (int i = 0; i < 10; i++) {
      for (int what = 0; what < 5; what++) {
        t.due(row[i][what], "told", i, what);
      }
    }
  }

  private static int[] state(Trial t) {
    int[] row = new int[9 + 7 + 3 + 2 + 2 * 10];
    int at = 0;
    for (int what = 0; what < 9; what++) {
      row[at++] = t.call("count", what);
    }
    for (int what = 0; what < 7; what++) {
      row[at++] = t.call("terrace", what);
    }
    for (int key = 0; key < 3; key++) {
      row[at++] = t.call("why", key);
    }
    row[at++] = t.call("fee");
    row[at++] = t.call("behind", 30, 0);
    for (int i = 0; i < 2; i++) {
      for (int what = 0; what < 9; what++) {
        row[at++] = t.call("told", i, what);
      }
      row[at++] = t.call("fine", i);
    }
    return row;
  }

  private static void backAgainAndAgain() {
    d.says(41, "all can become as it is (again and again)");
    Trial t = new Trial(d).does("house", 0, 50, 20, 30).does("keep");
    for (int i = 0; i < 5; i++) {
      t.does("nights", 7).does("set", 0, 2, i).tells("fit " + i).does("house", 0, 0, 0, 0).due(1, "back");
      t.due(30, "told", 0, 5).due(50, "told", 0, 1).due(20, "told", 0, 2).due(30, "told", 0, 3).due(0, "told", 0, 4);
      t.due(0, "count", 1).due(1, "count", 0).due(0, "count", 5).due(1, "count", 8).due(NONE, "why", 0);
    }
    t.due(1, "back").due(1, "back").due(30, "told", 0, 5);
  }

  private static void whatStays() {
    d.says(41, "AN IMAGE keeps all but SHEETS, SLOTS, numbers that wait, THE TAPE");
    Trial t = new Trial(d).does("keep").does("sheet", 0, 0, 3).does("mark", 0, 2, 77).does("lay", 0, 3, 12);
    t.does("tell", 1).does("tell", 2).feeds("fee 4").due(0, "back").due(5, "count", 7).due(2, "count", 6);
    t.due(2, "rest", 0, 5).due(0, "lay", 1, 2, 0).due(77, "item", 1, 2).due(0, "text").due(4, "fee");
    t.does("keep").does("sheet", 0, -1, 0).does("lay", 0, 0, 0).does("check", 1).feeds("fee 55").due(0, "back");
    t.due(Due.NOTHING, "reads", 0).due(Due.NOTHING, "rest", 0, 5).due(0, "count", 6).due(6, "count", 7);
  }

  private static void count() {
    d.says(42, "0 how many HOUSES, 1 THE NIGHT, 2 EAR, 3 LOAD, 4 TREADS, 5 TEXTS, 6 numbers that wait, 7 bytes of THE "
        + "TAPE, 8 z. BAD.");
    Trial t = new Trial(d);
    for (int what : new int[] {LEAST, NONE, -1, 9, 10, MOST}) {
      t.due(BAD, "count", what);
    }
    t.does("house", 0, 0, 0, 0).does("nights", 2).does("rule", 0, 99).does("rule", 1, 98).does("rule", 2, 100);
    t.tells("fee 1").tells("fee 1").tells("fee 1").does("tell", 0).does("tell", 0).does("tell", 0).does("tell", 0);
    t.does("feed", 0, 0, 0).does("seed", LEAST);
    int[] want = {1, 2, 99, 98, 100, 3, 4, 12, LEAST};
    for (int what = 0; what < want.length; what++) {
      t.due(want[what], "count", what);
    }
  }
}
