/** Each promise by itself: ordinary inputs, the edges that the document names, and wrong inputs. */
public final class Promises {
  private static final int BAD = Due.BAD, NO = Due.NO, FULL = Due.FULL, NONE = Due.NONE, NOTHING = Due.NOTHING;
  private static final int KIND = Due.KIND, INDEX = Due.INDEX, SIZE = Due.SIZE, LEAST = Due.LEAST, MOST = Due.MOST;

  private static int wrong = 0;

  private static void due(int promise, String call, int got, int want) {
    if (got != want) {
      wrong++;
      System.out.println("promise " + promise + ": " + call + " answered " + got + ", due is " + want);
    }
  }

  private static int text(CoalHoles x, String text) {
    Caller on = (name, with) -> Calls.OF_PROGRAM.answer(x, name, with);
    return on.text(text);
  }

  /** What a fee text gives with NOISE 3 and KNOCKS 1. */
  private static int fee(String expression) {
    CoalHoles x = new CoalHoles();
    for (int i = 0; i < 3; i++) {
      x.house(0, 90, 0, 50);
    }
    x.house(0, 50, 50, 50);
    x.round();
    x.load(3);
    int number = text(x, "fee " + expression);
    return number == 0 ? x.fee() : number;
  }

  private static CoalHoles withHouses(int n) {
    CoalHoles x = new CoalHoles();
    for (int i = 0; i < n; i++) {
      x.house(0, 50, 50, 50);
    }
    return x;
  }

  public static void main(String[] args) {
    newObject();
    houses();
    slacksAndKinds();
    setsAndRules();
    lots();
    rounds();
    nights();
    terrace();
    behind();
    coldAndShut();
    cement();
    castAndBecomes();
    ears();
    like();
    feeAndFine();
    tapes();
    texts();
    faults();
    values();
    sheets();
    pourAndReads();
    copies();
    slots();
    checks();
    images();
    System.out.println(wrong == 0 ? "all answers are as due" : wrong + " answers are not as due");
    if (wrong != 0) {
      System.exit(1);
    }
  }

  private static void newObject() {
    CoalHoles x = new CoalHoles();
    int[] counts = {0, 0, 10, 20, 0, 0, 0, 0, 1};
    for (int what = 0; what < counts.length; what++) {
      due(1, "count(" + what + ")", x.count(what), counts[what]);
    }
    for (int what = 0; what < 6; what++) {
      due(1, "terrace(" + what + ")", x.terrace(what), 0);
    }
    due(1, "told(0, 0)", x.told(0, 0), BAD);
    due(1, "back()", x.back(), NO);
    due(42, "count(-1)", x.count(-1), BAD);
    due(42, "count(9)", x.count(9), BAD);
    due(42, "count(least)", x.count(LEAST), BAD);
  }

  private static void houses() {
    CoalHoles x = new CoalHoles();
    due(2, "house(-1, ..)", x.house(-1, 0, 0, 0), BAD);
    due(2, "house(6, ..)", x.house(6, 0, 0, 0), BAD);
    due(2, "house straight -1", x.house(0, -1, 0, 0), BAD);
    due(2, "house plate -1", x.house(0, 0, -1, 0), BAD);
    due(2, "house coal -1", x.house(0, 0, 0, -1), BAD);
    due(2, "house straight 100", x.house(0, 100, 0, 0), BAD);
    due(2, "house plate 100", x.house(0, 0, 100, 0), BAD);
    due(2, "house coal 100", x.house(0, 0, 0, 100), BAD);
    due(2, "count(0)", x.count(0), 0);
    for (int i = 0; i < 10; i++) {
      due(2, "house", x.house(i % 6, 99 - i, i, 99), i);
    }
    due(2, "house: full", x.house(0, 0, 0, 0), FULL);
    due(2, "house: bad stands first", x.house(6, 0, 0, 0), BAD);
    due(3, "told(9, 0)", x.told(9, 0), 3);
    due(3, "told(9, 1)", x.told(9, 1), 90);
    due(3, "told(9, 2)", x.told(9, 2), 9);
    due(3, "told(9, 3)", x.told(9, 3), 99);
    due(3, "told(9, 4)", x.told(9, 4), 0);
    due(3, "told(9, -1)", x.told(9, -1), BAD);
    due(3, "told(9, 9)", x.told(9, 9), BAD);
    due(3, "told(-1, 0)", x.told(-1, 0), BAD);
    due(3, "told(10, 0)", x.told(10, 0), BAD);
    due(3, "told(most, 0)", x.told(MOST, 0), BAD);
  }

  private static void slacksAndKinds() {
    CoalHoles x = new CoalHoles();
    for (int kind = 0; kind < 6; kind++) {
      x.house(kind, 20, 61, 45);
    }
    int[][] want = {{41, -1, 5, 45}, {20, 1, 3, 65}, {41, -5, 10, 79}, {15, 2, 4, 32}, {51, -2, 6, 86}, {50, 0, 0, 0}};
    for (int kind = 0; kind < 6; kind++) {
      for (int k = 0; k < 4; k++) {
        due(3, "told(" + kind + ", " + (5 + k) + ")", x.told(kind, 5 + k), want[kind][k]);
      }
    }
    x.set(2, 3, 99);
    x.set(4, 3, 99);
    due(3, "a tenth of 99: LODGING", x.told(2, 6), -10);
    due(3, "a tenth of 99: CLUB", x.told(4, 6), -7);
    x.set(4, 3, 10);
    due(3, "a tenth of 10: CLUB", x.told(4, 6), 1);
    x.set(5, 4, 77);
    due(3, "worth of EMPTY", x.told(5, 8), 77);
    x.set(3, 2, 11);
    due(3, "slack of MANSE is 0 at least", x.told(3, 5), 0);
    x.round();
    due(3, "tune", x.terrace(3), 0b110111);
    due(3, "slack of LODGING with four others", x.told(2, 5), 49);
    due(3, "slack of CLUB with four others", x.told(4, 5), 59);
    x.set(2, 1, 99);
    x.set(2, 2, 4);
    x.set(4, 1, 99);
    x.set(4, 2, 14);
    due(3, "slack of LODGING is 99 at most", x.told(2, 5), 99);
    due(3, "slack of CLUB is 99 at most", x.told(4, 5), 99);

    boolean[][] under = new boolean[6][6];
    int[] above = {-1, 0, 0, 1, 2, 0};
    for (int kind = 0; kind < 6; kind++) {
      for (int at = kind; at >= 0; at = above[at]) {
        under[kind][at] = true;
      }
    }
    for (int kind = 0; kind < 6; kind++) {
      for (int as = 0; as < 6; as++) {
        due(4, "as(" + kind + ", " + as + ")", x.as(kind, as), under[kind][as] ? x.told(kind, 1) : KIND);
      }
    }
    due(4, "as(6, 0)", x.as(6, 0), BAD);
    due(4, "as(-1, 0)", x.as(-1, 0), BAD);
    due(4, "as(0, 6)", x.as(0, 6), BAD);
    due(4, "as(0, -1)", x.as(0, -1), BAD);
    due(5, "turns(0, 3)", x.turns(0, 3), 0);
    due(5, "turns(0, 5)", x.turns(0, 5), 3);
    due(5, "turns(0, 5) again", x.turns(0, 5), 5);
    due(5, "told(0, 5)", x.told(0, 5), 50);
    due(5, "turns(0, 6)", x.turns(0, 6), BAD);
    due(5, "turns(0, -1)", x.turns(0, -1), BAD);
    due(5, "turns(6, 0)", x.turns(6, 0), BAD);
    due(5, "told(0, 0)", x.told(0, 0), 5);
  }

  private static void setsAndRules() {
    CoalHoles x = withHouses(2);
    for (int what = 1; what <= 4; what++) {
      int most = what == 4 ? 9999 : 99;
      due(6, "set to most", x.set(1, what, most), what == 4 ? 0 : 50);
      due(6, "set above", x.set(1, what, most + 1), BAD);
      due(6, "set below", x.set(1, what, -1), BAD);
      due(6, "told", x.told(1, what), most);
      due(6, "set to 0", x.set(1, what, 0), most);
      due(6, "other house", x.told(0, what), what == 4 ? 0 : 50);
    }
    due(6, "set(1, 0, 1)", x.set(1, 0, 1), BAD);
    due(6, "set(1, 5, 1)", x.set(1, 5, 1), BAD);
    due(6, "set(2, 1, 1)", x.set(2, 1, 1), BAD);
    due(6, "set(-1, 1, 1)", x.set(-1, 1, 1), BAD);
    int[] first = {10, 20, 0};
    int[] most = {99, 99, 100};
    for (int what = 0; what < 3; what++) {
      due(7, "rule above", x.rule(what, most[what] + 1), BAD);
      due(7, "rule below", x.rule(what, -1), BAD);
      due(7, "rule to most", x.rule(what, most[what]), first[what]);
      due(7, "count", x.count(2 + what), most[what]);
      due(7, "rule to 0", x.rule(what, 0), most[what]);
    }
    due(7, "rule(3, 0)", x.rule(3, 0), BAD);
    due(7, "rule(-1, 0)", x.rule(-1, 0), BAD);
  }

  private static void lots() {
    CoalHoles x = new CoalHoles();
    due(8, "deal(0)", x.deal(0), BAD);
    due(8, "deal(11)", x.deal(11), BAD);
    due(8, "deal(-1)", x.deal(-1), BAD);
    due(8, "no draws for what is bad", x.count(8), 1);
    due(8, "deal(4)", x.deal(4), 4);
    int z = 1;
    for (int i = 0; i < 4; i++) {
      for (int what = 0; what < 4; what++) {
        z = z * 1103515245 + 12345;
        due(8, "told(" + i + ", " + what + ")", x.told(i, what), (z >>> 8) % (what == 0 ? 6 : 100));
      }
      due(8, "heard", x.told(i, 4), 0);
    }
    due(8, "z", x.count(8), z);
    due(8, "deal(1)", x.deal(1), 1);
    due(8, "deal(10)", x.deal(10), 5);
    int before = x.count(8);
    due(8, "deal(10), full", x.deal(10), 0);
    due(8, "no draws without room", x.count(8), before);
    due(9, "seed(-7)", x.seed(-7), before);
    due(9, "seed(least)", x.seed(LEAST), -7);
    due(9, "count(8)", x.count(8), LEAST);
  }

  private static void rounds() {
    CoalHoles x = new CoalHoles();
    x.house(0, 50, 40, 10);
    x.house(0, 50, 41, 10);
    x.house(2, 50, 42, 85);
    due(10, "round()", x.round(), 1);
    due(10, "round(): a LODGING hears the tune", x.round(), 5);
    due(10, "heard", x.told(0, 4), 2);
    due(10, "heard", x.told(1, 4), 0);
    due(10, "heard", x.told(2, 4), 1);
    due(10, "noise", x.terrace(0), 3);
    due(10, "the night", x.count(1), 0);
    due(10, "coal", x.told(0, 3), 10);
    x.set(0, 4, 9999);
    x.round();
    due(10, "heard is 9999 at most", x.told(0, 4), 9999);
    due(11, "load(2): 99 at most", x.load(2), 14);
    due(11, "load(0)", x.load(0), 20);
    due(11, "coal", x.told(0, 3), 30);
    x.set(1, 2, 50);
    due(11, "load(1): shut", x.load(1), 0);
    due(11, "coal", x.told(1, 3), 10);
    due(11, "knocks", x.terrace(1), 1);
    due(11, "load(2)", x.load(2), 0);
    due(11, "no knock", x.terrace(1), 1);
    due(11, "load(3)", x.load(3), BAD);
    due(11, "load(-1)", x.load(-1), BAD);
  }

  private static void nights() {
    CoalHoles x = new CoalHoles();
    due(12, "nights(0)", x.nights(0), BAD);
    due(12, "nights(101)", x.nights(101), BAD);
    due(12, "nights(3) of no houses", x.nights(3), 0);
    due(12, "the night", x.count(1), 3);
    int z = 1;
    for (int i = 0; i < 3; i++) {
      z = z * 1103515245 + 12345;
    }
    due(12, "a draw a night", x.count(8), z);
    x.house(0, 0, 50, 3);
    x.house(2, 50, 30, 55);
    x.house(1, 99, 99, 10);
    // THE NIGHT is 3: the delivery is to house 0; then to 1, then to 2, which is shut.
    due(12, "nights(1)", x.nights(1), 2);
    due(12, "straight is 0 at least", x.told(0, 1), 0);
    due(12, "coal", x.told(0, 3), 18);
    due(12, "straight by coal ahead of the fire", x.told(1, 1), 44);
    due(12, "coal", x.told(1, 3), 45);
    due(12, "straight is 99 at most", x.told(2, 1), 99);
    due(12, "coal", x.told(2, 3), 7);
    // House 1 bends to 44, then to 37: its slack is 16, then 9.
    due(12, "nights(2)", x.nights(2), 3);
    due(12, "coal", x.told(1, 3), 45);
    due(12, "coal of the shut one", x.told(2, 3), 1);
    due(12, "knocks", x.terrace(1), 1);
    due(12, "nights(1)", x.nights(1), 1);
    due(12, "coal is 0 at least", x.told(2, 3), 0);

    CoalHoles y = withHouses(3);
    y.seed(12);
    y.rule(2, 100);
    z = 12 * 1103515245 + 12345;
    z = z * 1103515245 + 12345;
    int trodden = (z >>> 8) % 3;
    z = z * 1103515245 + 12345;
    y.nights(1);
    due(12, "treads: plate", y.told(trodden, 2), (z >>> 8) % 100);
    due(12, "treads: other plate", y.told((trodden + 1) % 3, 2), 50);
    due(12, "treads: three draws", y.count(8), z);

    int first = ((77 * 1103515245 + 12345) >>> 8) % 100;
    y.seed(77);
    y.rule(2, first);
    y.nights(1);
    due(12, "treads: not below", y.count(8), 77 * 1103515245 + 12345);
    y.seed(77);
    y.rule(2, first + 1);
    y.nights(1);
    z = 77;
    for (int i = 0; i < 3; i++) {
      z = z * 1103515245 + 12345;
    }
    due(12, "treads: below", y.count(8), z);
    CoalHoles bare = new CoalHoles();
    bare.rule(2, 100);
    bare.nights(1);
    due(12, "treads: no houses, one draw", bare.count(8), 1103515245 + 12345);

    CoalHoles last = new CoalHoles();
    last.house(5, 0, 0, 0);
    for (int i = 0; i < 99; i++) {
      last.nights(100);
    }
    due(12, "nights(98)", last.nights(98), 98);
    due(12, "nights(100): up to 9999", last.nights(100), 1);
    due(12, "the night", last.count(1), 9999);
    int end = last.count(8);
    due(12, "nights(1) behind the last", last.nights(1), 0);
    due(12, "no draw", last.count(8), end);
    due(12, "heard", last.told(0, 4), 9999);
    due(14, "behind goes beyond the last night", last.behind(5, 0), 10004);
    last.keep();
    due(39, "check of no nights", last.check(30), 0);
    last.tell(1);
    due(39, "check of no nights, one too many", last.check(30), 1);

    CoalHoles loud = new CoalHoles();
    for (int i = 0; i < 10; i++) {
      loud.house(5, 0, 0, 0);
    }
    for (int i = 0; i < 99; i++) {
      loud.nights(100);
    }
    loud.nights(99);
    due(12, "noise", loud.terrace(0), 99990);
    due(10, "round", loud.round(), 1023);
    due(10, "noise is 99999 at most", loud.terrace(0), 99999);
    due(14, "noise is 99999 at most", loud.behind(3, 0), 99999);
  }

  private static void terrace() {
    CoalHoles x = new CoalHoles();
    due(13, "loudest of none", x.terrace(6), NONE);
    due(13, "terrace(7)", x.terrace(7), BAD);
    due(13, "terrace(-1)", x.terrace(-1), BAD);
    x.house(0, 10, 0, 0);
    x.house(5, 20, 20, 7);
    x.house(0, 30, 30, 0);
    x.house(1, 30, 30, 9);
    due(13, "loudest, none heard", x.terrace(6), 0);
    x.set(1, 4, 4);
    x.set(3, 4, 4);
    due(13, "loudest: the least", x.terrace(6), 1);
    x.load(2);
    x.load(2);
    x.round();
    due(13, "noise", x.terrace(0), 2);
    due(13, "knocks", x.terrace(1), 2);
    due(13, "cold", x.terrace(2), 0b101);
    due(13, "tune", x.terrace(3), 0b11);
    due(13, "coal", x.terrace(4), 16);
    due(13, "straight", x.terrace(5), 90);
  }

  private static void behind() {
    CoalHoles x = new CoalHoles();
    due(14, "behind(-1, 0)", x.behind(-1, 0), BAD);
    due(14, "behind(101, 0)", x.behind(101, 0), BAD);
    due(14, "behind(0, 5) of no houses", x.behind(0, 5), BAD);
    due(14, "behind(100, 4) of no houses", x.behind(100, 4), 0);
    x.deal(7);
    x.rule(2, 40);
    int z = x.count(8);
    int[] thought = new int[12];
    for (int what = 0; what < 12; what++) {
      thought[what] = x.behind(37, what);
    }
    due(14, "behind(0, -1)", x.behind(0, -1), BAD);
    due(14, "behind(0, 12)", x.behind(0, 12), BAD);
    due(14, "behind(0, most)", x.behind(0, MOST), BAD);
    due(14, "z stays", x.count(8), z);
    due(14, "the night stays", x.count(1), 0);
    due(14, "behind(0, 4)", x.behind(0, 4), x.terrace(4));
    x.nights(37);
    for (int what = 0; what < 12; what++) {
      due(14, "behind(37, " + what + ")", thought[what], what < 5 ? x.terrace(what) : x.told(what - 5, 4));
    }
  }

  private static void coldAndShut() {
    CoalHoles x = new CoalHoles();
    x.rule(1, 0);
    x.house(0, 90, 0, 12);
    x.house(0, 30, 27, 0);
    x.house(5, 30, 30, 1);
    due(15, "cold(0)", x.cold(0), 3);
    due(15, "cold(1)", x.cold(1), 0);
    due(15, "cold(2)", x.cold(2), NONE);
    due(15, "cold(3)", x.cold(3), BAD);
    due(15, "cold(-1)", x.cold(-1), BAD);
    due(16, "shut(0)", x.shut(0), 90);
    due(16, "shut(1)", x.shut(1), 3);
    due(16, "shut(2)", x.shut(2), NONE);
    due(16, "shut(3)", x.shut(3), BAD);
    due(16, "shut(-1)", x.shut(-1), BAD);
    due(16, "nothing changes", x.count(1), 0);
    x.set(1, 2, 30);
    due(16, "shut(1) now", x.shut(1), 0);

    CoalHoles hundred = new CoalHoles();
    hundred.house(0, 99, 0, 99);
    text(hundred, "fit s");
    hundred.rule(1, 5);
    // Each night brings 5 and burns 5 as long as the plate is slack: 99 nights, and 19 more to burn what it has.
    due(16, "shut by bending", hundred.shut(0), 99);
    due(15, "cold behind the shutting", hundred.cold(0), 99 + 19);

    // Every third night brings 14 and three nights burn 15: it is cold, and by this text shut, some 250 nights on.
    CoalHoles far = new CoalHoles();
    far.rule(1, 14);
    far.house(0, 50, 0, 99);
    far.house(5, 0, 0, 0);
    far.house(5, 0, 0, 0);
    text(far, "fit c");
    due(15, "cold(0): far off", far.cold(0), NONE);
    due(16, "shut(0): far off", far.shut(0), NONE);
    for (int k = 0; k < 100 && far.cold(0) == NONE; k++) {
      due(16, "shut(0): not by then", far.shut(0), NONE);
      far.nights(1);
    }
    due(15, "cold(0): the farthest", far.cold(0), 200);
    due(16, "shut(0): the farthest", far.shut(0), 200);
  }

  private static void cement() {
    CoalHoles x = new CoalHoles();
    due(17, "cement(-1)", x.cement(-1), BAD);
    due(17, "cement(21)", x.cement(21), BAD);
    due(17, "cement(20) of no houses", x.cement(20), 0);
    x.house(0, 50, 30, 50);
    x.house(0, 50, 45, 50);
    x.house(1, 50, 20, 50);
    x.house(3, 50, 50, 50);
    due(17, "cement(0)", x.cement(0), 0b101);
    // In five nights house 0 bends to 45, which its own plate then fits no better.
    due(17, "cement(5)", x.cement(5), 0b101);
    due(17, "cement(11): house 0 bends to its plate", x.cement(11), 0b100);
    due(17, "plates stay", x.told(0, 2), 30);
    x.rule(0, 0);
    due(17, "cement(0): none with EAR 0", x.cement(0), NONE);
    x.rule(0, 99);
    due(17, "cement(0): none needs it", x.cement(0), 0);
    x.rule(0, 50);
    x.house(5, 1, 1, 1);
    due(17, "cement(0): EMPTY clanks", x.cement(0), NONE);

    // A LODGING is quiet behind a night if either of two others does not clank: the least set is told.
    CoalHoles y = new CoalHoles();
    y.rule(1, 0);
    y.house(5, 0, 0, 0);
    y.house(0, 50, 0, 99);
    y.house(0, 50, 0, 99);
    y.house(2, 50, 50, 0);
    y.rule(0, 51);
    due(17, "cement(1): none needs it", y.cement(1), 0);
    y.turns(0, 0);
    y.rule(0, 5);
    due(17, "cement(0)", y.cement(0), 0b0110);
    // Houses 0 and 1 clank in the round and are quiet behind it; house 2, a LODGING, hears of one, not of both.
    CoalHoles two = new CoalHoles();
    two.rule(0, 4);
    two.house(0, 54, 50, 50);
    two.house(0, 54, 50, 50);
    two.house(2, 50, 50, 0);
    due(17, "cement(1): of two sets the least", two.cement(1), 0b001);
    two.set(0, 2, 55);
    two.set(0, 1, 59);
    due(17, "cement(1) again", two.cement(1), 0b001);
    two.set(0, 2, 54);
    due(17, "cement(1): house 0 stays loud", two.cement(1), 0b001);
    two.turns(0, 5);
    two.rule(0, 50);
    due(17, "cement(1): EMPTY", two.cement(1), NONE);
    // fit says that a fitting plate is a slack one: then none is made to fit, or there is none.
    CoalHoles odd = new CoalHoles();
    text(odd, "fit (s = p) * 50");
    odd.house(0, 50, 30, 50);
    odd.house(0, 50, 30, 50);
    due(17, "cement(0) by a text", odd.cement(0), 0);
    odd.set(1, 2, 50);
    due(17, "cement(0) by a text: none", odd.cement(0), NONE);
    CoalHoles none = new CoalHoles();
    none.house(0, 50, 40, 50);
    none.house(0, 50, 40, 50);
    text(none, "fit 20 - p / 5");
    due(17, "cement(0): least", none.cement(0), NONE);
    text(none, "fit (p < 50) * 10");
    due(17, "cement(0): both", none.cement(0), 3);
  }

  private static void castAndBecomes() {
    CoalHoles x = new CoalHoles();
    x.house(0, 60, 60, 10);
    x.house(0, 60, 60, 99);
    due(18, "cast(0, 1, 0)", x.cast(0, 1, 0), 0);
    due(18, "cast(0, 1, 1)", x.cast(0, 1, 1), 25);
    x.set(0, 1, 0);
    due(18, "cast(0, 1, 0): any but 0", x.cast(0, 1, 0), 1);
    due(18, "cast(1, 1, 1)", x.cast(1, 1, 1), 94);
    due(18, "cast(1, 1, 0)", x.cast(1, 1, 0), 0);
    due(18, "plate stays", x.told(0, 2), 60);
    due(18, "cast(2, 1, 0)", x.cast(2, 1, 0), BAD);
    due(18, "cast(-1, 1, 0)", x.cast(-1, 1, 0), BAD);
    due(18, "cast(0, 0, 0)", x.cast(0, 0, 0), BAD);
    due(18, "cast(0, 61, 0)", x.cast(0, 61, 0), BAD);
    due(18, "cast(0, 1, 2)", x.cast(0, 1, 2), BAD);
    due(18, "cast(0, 1, -1)", x.cast(0, 1, -1), BAD);
    due(18, "cast(0, 60, 1)", x.cast(0, 60, 1) >= 0 ? 1 : 0, 1);

    text(x, "fit p / 99");
    due(18, "cast(0, 1, 0): only the last plate is slack", x.cast(0, 1, 0), 99);
    due(18, "cast(0, 1, 1)", x.cast(0, 1, 1), 25);

    CoalHoles y = new CoalHoles();
    y.house(5, 60, 40, 10);
    due(19, "becomes(0, 1, 0): all but MANSE clank", y.becomes(0, 1, 0), 3);
    due(19, "becomes(0, 1, 1)", y.becomes(0, 1, 1), 0);
    y.rule(0, 0);
    due(19, "becomes(0, 2, 0): all clank", y.becomes(0, 2, 0), 0);
    due(19, "becomes(0, 2, 1)", y.becomes(0, 2, 1), 2);
    due(19, "kind stays", y.told(0, 0), 5);
    due(19, "becomes(1, 1, 0)", y.becomes(1, 1, 0), BAD);
    due(19, "becomes(0, 0, 0)", y.becomes(0, 0, 0), BAD);
    due(19, "becomes(0, 61, 0)", y.becomes(0, 61, 0), BAD);
    due(19, "becomes(0, 60, 1)", y.becomes(0, 60, 1), 60);
    due(19, "becomes(0, 1, 2)", y.becomes(0, 1, 2), BAD);
    due(19, "becomes(0, 1, -1)", y.becomes(0, 1, -1), BAD);
  }

  private static void ears() {
    CoalHoles x = new CoalHoles();
    x.house(0, 50, 30, 50);
    x.house(0, 50, 45, 50);
    due(20, "ears(1, 0)", x.ears(1, 0), 21);
    due(20, "ears(1, 1)", x.ears(1, 1), 6);
    due(20, "ears(1, 2)", x.ears(1, 2), 0);
    due(20, "ears(0, 0)", x.ears(0, 0), 0);
    x.round();
    due(20, "ears(0, 0): noise is there already", x.ears(0, 0), NONE);
    // Both bend to 0, where the second one's plate of 45 is the slackest.
    due(20, "ears(60, 1)", x.ears(60, 1), 46);
    due(20, "ear stays", x.count(2), 10);
    due(20, "ears(-1, 0)", x.ears(-1, 0), BAD);
    due(20, "ears(61, 0)", x.ears(61, 0), BAD);
    due(20, "ears(0, -1)", x.ears(0, -1), BAD);
    due(20, "ears(0, 100000)", x.ears(0, 100000), BAD);
    due(20, "ears(0, 99999)", x.ears(0, 99999), 0);
    x.set(0, 1, 98);
    x.set(0, 2, 0);
    due(20, "ears(1, 1): a slack of 98", x.ears(1, 1), 99);
    x.set(0, 1, 99);
    due(20, "ears(1, 1): a slack of 99", x.ears(1, 1), NONE);
  }

  private static void like() {
    CoalHoles x = new CoalHoles();
    due(21, "like(-1, 0)", x.like(-1, 0), BAD);
    due(21, "like(4, 0)", x.like(4, 0), BAD);
    due(21, "like(0, 2)", x.like(0, 2), BAD);
    due(21, "like(0, -1)", x.like(0, -1), BAD);
    due(21, "like(0, 0)", x.like(0, 0), NOTHING);
    x.sheet(0, 0, 3);
    due(21, "like(0, 0)", x.like(0, 0), NONE);
    x.rule(1, 0);
    x.house(0, 50, 0, 40);
    x.house(1, 50, 0, 30);
    x.house(1, 50, 0, 30);
    x.mark(0, 0, 30);
    x.mark(0, 1, 29);
    x.mark(0, 2, 20);
    due(21, "like(0, 0)", x.like(0, 0), 1);
    due(21, "like(0, 1): 0, 2, 4", x.like(0, 1), 6);
    x.sheet(1, 1, 2);
    x.mark(1, 0, NONE);
    x.mark(1, 1, 35);
    due(21, "like(1, 0): NO NUMBER does not count", x.like(1, 0), 0);
    due(21, "like(1, 1)", x.like(1, 1), 0);
    x.sheet(2, 1, 0);
    due(21, "like(2, 0) of no places", x.like(2, 0), 0);
    due(21, "like(2, 1) of no places", x.like(2, 1), 0);
    x.sheet(3, 0, 1);
    x.mark(3, 0, -5);
    due(21, "like(3, 1): signs left out", x.like(3, 1), 35);
    due(21, "nothing changes", x.count(1), 0);
  }

  private static void feeAndFine() {
    CoalHoles x = withHouses(1);
    x.set(0, 2, 0);
    x.round();
    due(22, "fee() without a text", x.fee(), 1);
    due(23, "fine(0) without a text", x.fine(0), 50);
    due(23, "fine(1)", x.fine(1), BAD);
    due(23, "fine(-1)", x.fine(-1), BAD);
    text(x, "fee 0 - o * 5 + k");
    text(x, "fine c * 100 + s");
    x.set(0, 1, 7);
    due(22, "fee() by a text", x.fee(), -5);
    due(23, "fine(0) by a text", x.fine(0), 5007);
    due(23, "fine(1)", x.fine(1), BAD);
  }

  private static void tapes() {
    CoalHoles x = new CoalHoles();
    for (int i = 1; i <= 8; i++) {
      due(24, "feed", x.feed(-1, 0, 1), 12 * i);
    }
    due(24, "feed: full", x.feed(0, 0, 0), FULL);
    due(24, "count(7)", x.count(7), 96);
    due(25, "trim(97)", x.trim(97), BAD);
    due(25, "trim(-1)", x.trim(-1), BAD);
    due(25, "trim(85)", x.trim(85), 85);
    due(24, "feed: full", x.feed(0, 0, 0), FULL);
    due(25, "trim(84)", x.trim(84), 84);
    due(24, "feed", x.feed(0, 0, 0), 96);
    due(25, "trim(0)", x.trim(0), 0);
    due(25, "trim(1)", x.trim(1), BAD);
    due(25, "count(7)", x.count(7), 0);
    // The highest byte of each number comes first: "fee " "o+k " "+ 12".
    due(24, "feed", x.feed(0x66656520, 0x6f2b6b20, 0x2b203132), 12);
    due(26, "text()", x.text(), 0);
    due(22, "fee()", x.fee(), 12);
  }

  private static void texts() {
    CoalHoles x = new CoalHoles();
    due(28, "why(0)", x.why(0), NONE);
    due(28, "why(-1)", x.why(-1), BAD);
    due(28, "why(3)", x.why(3), BAD);
    due(27, "textTold(0, 0)", x.textTold(0, 0), BAD);
    due(26, "text() of nothing", x.text(), -100);
    due(26, "text fine", text(x, "fine (s + c) * !2"), 0);
    due(26, "the tape is used up", x.count(7), 0);
    due(26, "text fit", text(x, "  fit(s)  "), 1);
    due(26, "text fine", text(x, "fine 1"), 2);
    due(26, "text fee", text(x, "fee!o"), 3);
    due(27, "textTold(0, 0)", x.textTold(0, 0), 2);
    due(27, "textTold(0, 1)", x.textTold(0, 1), 3);
    due(27, "textTold(1, 0)", x.textTold(1, 0), 0);
    due(27, "textTold(1, 1)", x.textTold(1, 1), 1);
    due(27, "textTold(3, 0)", x.textTold(3, 0), 1);
    due(27, "textTold(3, 2)", x.textTold(3, 2), BAD);
    due(27, "textTold(3, -1)", x.textTold(3, -1), BAD);
    due(27, "textTold(4, 0)", x.textTold(4, 0), BAD);
    due(27, "textTold(-1, 0)", x.textTold(-1, 0), BAD);
    due(28, "why(0)", x.why(0), 1);
    due(28, "why(1)", x.why(1), 3);
    due(28, "why(2): told last", x.why(2), 2);
    due(26, "a fault changes no text", text(x, "fine fine"), -105);
    due(26, "the tape is used up", x.count(7), 0);
    due(42, "count(5)", x.count(5), 4);
    for (int i = 4; i < 14; i++) {
      due(26, "text", text(x, "fit " + i), i);
    }
    due(26, "text: full", text(x, "fit 1"), FULL);
    due(26, "the tape is used up", x.count(7), 0);
    due(26, "text: the fault stands first", text(x, "fit"), -103);
    due(42, "count(5)", x.count(5), 14);
    due(28, "why(0)", x.why(0), 13);
  }

  private static void faults() {
    String[] faulty = {"f|0", "fita s|0", "fitz s|0", "afit s|0", "afine s|0", "zfee o|0", "fitfine s|0", "finefine|0",
        "fee a|4", "fit z|4", "fit s+a|6", "fit s/|6", "fit 1:|5", "fit `|4", "fit {|4",
        "fits|0", "fitt s|0", " fi t|1", "FIT s|0", "12|0", "(fit)|0", "fit|3", "fit   |6",
        "fit o|4", "fit sp|4", "fit s p|6", "fit 1s|5", "fit1|3", "fit12345|3", "fee s|4", "fee n|4", "fine p|5",
        "fine o|5", "fit 12345|4", "fit 00001|4", "fit s 12345|6", "fit s+|6", "fit s+ |7", "fit +s|4", "fit -1|4",
        "fit s<p<c|7", "fit s<p=c|7", "fit s<p&c<n<s|11", "fit (s|6", "fit s)|5", "fit ()|5", "fit (s))|7",
        "fit !|5", "fit s!p|5", "fit s(p)|5", "fit (s)p|7", "fit (s)(p)|7", "fit s%p|5", "fit s\t|5", "fit \0s|4",
        "fit s||p|6", "fit s\u00e9|5", "fit\u00a0s|3", "fit S|4", "fit s + fit|8", "fit ((((((((("
        + "s|12", "fit !!!!!!!!!s|12", "fit (((((((((|12", "fit !(!(!(!(!(!(!(!(!|20", "fit ((((((((s|13",
        "fit !!!!!!!!|12", "|0", "   |3"};
    for (String row : faulty) {
      int bar = row.lastIndexOf('|');
      int place = Integer.parseInt(row.substring(bar + 1));
      due(26, "text of '" + row.substring(0, bar) + "'", text(new CoalHoles(), row.substring(0, bar)), -100 - place);
    }
    String[] good = {"fit s", "  fit   s  ", "fit(s)", "fit!s", "fee(o)", "fit s<p", "fit(s<p)<c", "fit s<p&c<n|s=p",
        "fit ((((((((s))))))))", "fit !!!!!!!!s", "fit !(!(!(!(!(!(!(!(s))))))))", "fit !!!!!!!!s&!!!!!!!!p",
        "fit ((((((((s))))))))+((((((((s))))))))", "fit 0000", "fit 9999/0", "fine s*c", "fit s+p-c*n/2",
        "fit !((!((!((!((!s)))))))", "fit s\u0020+\u0020p"};
    for (String text : good) {
      due(26, "text of '" + text + "'", text(new CoalHoles(), text), brackets(text));
    }
    StringBuilder longest = new StringBuilder("fit s");
    while (longest.length() < 95) {
      longest.append("+1");
    }
    CoalHoles x = new CoalHoles();
    due(26, "a text of 95 bytes", text(x, longest.toString()), 0);
    due(27, "its pieces", x.textTold(0, 1), 46);
    due(26, "a text of 96 bytes", text(x, longest + " "), 1);
    due(26, "a text of 96 bytes that ends too soon", text(x, longest + "+"), -196);
  }

  /** A text whose brackets are not all closed ends too soon. */
  private static int brackets(String text) {
    int open = 0;
    for (char c : text.toCharArray()) {
      open += c == '(' ? 1 : c == ')' ? -1 : 0;
    }
    return open == 0 ? 0 : -100 - text.length();
  }

  private static void values() {
    Object[][] rows = {{"1+2*3", 7}, {"(1+2)*3", 9}, {"9-4-3", 2}, {"100/7/2", 7}, {"7/2*2", 6}, {"1/0", 0},
        {"(0-7)/2", -3}, {"2<3", 1}, {"3<3", 0}, {"3=3", 1}, {"3>2", 1}, {"2>3", 0}, {"3>3", 0}, {"2=3", 0},
        {"1+1<3", 1}, {"5&6", 1},
        {"5&0", 0}, {"0|0", 0}, {"4|0", 1}, {"!4", 0}, {"!0", 1}, {"!!4", 1}, {"!0*5", 5}, {"!(0*5)", 1}, {"!0+1", 2},
        {"1|0&0", 1}, {"(1|0)&0", 0}, {"0&1|1", 1}, {"1&2<3", 1}, {"o", 3}, {"k", 1}, {"o*10+k", 31}, {"007", 7},
        {"9999*9999*9999", 9999 * 9999 * 9999}, {"0-o", -3}, {"1-!1-!0", 0}, {"2*!0*3", 6}, {"((2))", 2},
        {"8/(3-o)", 0}, {"1<2&2<1", 0}, {"1<2|2<1", 1}, {"5=5*1", 1}, {"2*3=6", 1}, {"(1<2)+(2<3)", 2}};
    for (Object[] row : rows) {
      due(22, "fee of " + row[0], fee((String) row[0]), (Integer) row[1]);
    }
    CoalHoles x = new CoalHoles();
    x.house(0, 50, 10, 33);
    x.house(4, 50, 10, 33);
    text(x, "fit s - p + c + n");
    due(3, "slack by a text", x.told(0, 5), 75);
    due(3, "slack of CLUB by a text", x.told(1, 5), 85);
    text(x, "fit p - s");
    due(3, "slack by a text is 0 at least", x.told(0, 5), 0);
    text(x, "fit s * p");
    due(3, "slack by a text is 99 at most", x.told(0, 5), 99);
  }

  private static void sheets() {
    CoalHoles x = new CoalHoles();
    due(29, "sheet(-1, 0, 1)", x.sheet(-1, 0, 1), BAD);
    due(29, "sheet(4, 0, 1)", x.sheet(4, 0, 1), BAD);
    due(29, "sheet(0, 2, 1)", x.sheet(0, 2, 1), BAD);
    due(29, "sheet(0, -2, 1)", x.sheet(0, -2, 1), BAD);
    due(29, "sheet(0, 0, 25)", x.sheet(0, 0, 25), BAD);
    due(29, "sheet(0, 0, -1)", x.sheet(0, 0, -1), SIZE);
    due(29, "sheet(0, 2, -1): bad stands first", x.sheet(0, 2, -1), BAD);
    due(29, "sheet(0, 0, least)", x.sheet(0, 0, LEAST), SIZE);
    due(30, "mark: missing", x.mark(0, 0, 1), NOTHING);
    due(29, "sheet(0, 0, 24)", x.sheet(0, 0, 24), 24);
    due(29, "sheet(1, 1, 0)", x.sheet(1, 1, 0), 0);
    due(29, "sheet(3, -1, 99)", x.sheet(3, -1, 99), 0);
    due(29, "sheet(3, -1, -99)", x.sheet(3, -1, -99), 0);
    due(30, "mark(-1, 0, 1)", x.mark(-1, 0, 1), BAD);
    due(30, "mark(4, 0, 1)", x.mark(4, 0, 1), BAD);
    due(30, "mark(0, 24, 1)", x.mark(0, 24, 1), INDEX);
    due(30, "mark(0, -1, 1)", x.mark(0, -1, 1), INDEX);
    due(30, "mark(0, 24, NONE)", x.mark(0, 24, NONE), INDEX);
    due(30, "mark(1, 0, 1)", x.mark(1, 0, 1), INDEX);
    due(30, "mark(0, 0, NONE)", x.mark(0, 0, NONE), KIND);
    due(30, "mark(0, 0, 65535)", x.mark(0, 0, 65535), 1);
    due(30, "mark(0, 1, 32768)", x.mark(0, 1, 32768), 1);
    due(30, "mark(0, 23, least)", x.mark(0, 23, LEAST + 9), 1);
    x.lay(0, 2, 0);
    due(36, "item(0, 0)", x.item(0, 0), -1);
    due(36, "item(0, 1)", x.item(0, 1), -32768);
    due(36, "item(0, 2)", x.item(0, 2), 0);
    due(36, "item(0, 23)", x.item(0, 23), 9);
    x.sheet(1, 1, 3);
    due(30, "mark(1, 0, 99999)", x.mark(1, 0, 99999), 1);
    due(30, "mark(1, 1, -99999)", x.mark(1, 1, -99999), 1);
    due(30, "mark(1, 1, 100000)", x.mark(1, 1, 100000), BAD);
    due(30, "mark(1, 1, -100000)", x.mark(1, 1, -100000), BAD);
    due(30, "mark(1, 3, 100000)", x.mark(1, 3, 100000), INDEX);
    due(30, "mark(1, 2, NONE)", x.mark(1, 2, NONE), 1);
    x.lay(0, 2, 1);
    due(36, "item(0, 0)", x.item(0, 0), 99999);
    due(36, "item(0, 1)", x.item(0, 1), -99999);
    due(36, "item(0, 2)", x.item(0, 2), KIND);
    x.sheet(1, 1, 3);
    x.lay(0, 2, 1);
    due(29, "all 0 anew", x.item(0, 2), 0);
    x.sheet(1, -1, 3);
    due(29, "missing again", x.mark(1, 0, 1), NOTHING);
    due(36, "a slot's row is its own", x.item(0, 2), 0);
  }

  private static void pourAndReads() {
    CoalHoles x = withHouses(4);
    due(31, "pour(-1)", x.pour(-1), BAD);
    due(31, "pour(4)", x.pour(4), BAD);
    due(31, "pour(0)", x.pour(0), NOTHING);
    due(32, "reads(-1)", x.reads(-1), BAD);
    due(32, "reads(4)", x.reads(4), BAD);
    due(32, "reads(0)", x.reads(0), NOTHING);
    x.sheet(0, 1, 3);
    due(32, "reads(0)", x.reads(0), 0);
    x.mark(0, 0, NONE);
    x.mark(0, 1, 50);
    x.mark(0, 2, 51);
    due(32, "reads(0)", x.reads(0), 2);
    due(31, "pour(0)", x.pour(0), 1);
    due(31, "NO NUMBER stays", x.told(0, 2), 50);
    due(31, "plate", x.told(2, 2), 51);
    due(31, "pour(0) again", x.pour(0), 0);
    x.mark(0, 2, NONE);
    due(32, "reads(0)", x.reads(0), NONE);
    x.sheet(1, 0, 6);
    for (int i = 0; i < 4; i++) {
      x.mark(1, i, 50);
    }
    due(32, "reads(1): no house", x.reads(1), 4);
    x.mark(1, 0, 50);
    x.mark(1, 1, -3);
    x.mark(1, 3, 1000);
    due(31, "pour(1)", x.pour(1), 3);
    due(31, "held within 0", x.told(1, 2), 0);
    due(31, "held within 99", x.told(3, 2), 99);
    x.sheet(2, 0, 1);
    due(31, "pour: beyond the sheet it stays", x.pour(2), 1);
    due(31, "plate", x.told(0, 2), 0);
    due(31, "plate beyond", x.told(2, 2), 50);
    due(31, "plate beyond", x.told(3, 2), 99);
    x.sheet(2, 0, 0);
    due(31, "pour of no places", x.pour(2), 0);
    due(32, "reads of no places", x.reads(2), NONE);
    x.sheet(3, 1, 6);
    for (int i = 0; i < 4; i++) {
      x.mark(3, i, 50);
    }
    x.mark(3, 4, NONE);
    x.mark(3, 5, NONE);
    due(32, "reads(3): no numbers where no house is", x.reads(3), NONE);
  }

  private static void copies() {
    CoalHoles x = new CoalHoles();
    x.sheet(0, 0, 5);
    x.sheet(1, 0, 3);
    x.sheet(2, 1, 3);
    for (int i = 0; i < 5; i++) {
      x.mark(0, i, 10 + i);
    }
    due(33, "copy(-1, ..)", x.copy(-1, 0, 0, 0, 1), BAD);
    due(33, "copy(4, ..)", x.copy(4, 0, 0, 0, 1), BAD);
    due(33, "copy to -1", x.copy(0, 0, -1, 0, 1), BAD);
    due(33, "copy to 4", x.copy(0, 0, 4, 0, 1), BAD);
    due(33, "copy of the missing to 4: bad stands first", x.copy(3, 0, 4, 0, 1), BAD);
    due(33, "copy of the missing", x.copy(3, 0, 0, 0, 1), NOTHING);
    due(33, "copy to the missing", x.copy(0, 0, 3, 0, 1), NOTHING);
    due(33, "copy to the other sort", x.copy(0, 0, 2, 0, -1), KIND);
    due(33, "copy many -1", x.copy(0, 0, 1, 0, -1), INDEX);
    due(33, "copy place -1", x.copy(0, -1, 1, 0, 1), INDEX);
    due(33, "copy at -1", x.copy(0, 0, 1, -1, 1), INDEX);
    due(33, "copy beyond the first", x.copy(0, 4, 1, 0, 2), INDEX);
    due(33, "copy beyond the second", x.copy(0, 0, 1, 0, 4), INDEX);
    due(33, "copy most", x.copy(0, 1, 1, 1, MOST), INDEX);
    due(33, "copy from most", x.copy(0, MOST, 1, 1, 1), INDEX);
    due(33, "copy to most", x.copy(0, 1, 1, MOST, MOST), INDEX);
    due(33, "copy least", x.copy(0, 1, 1, 1, LEAST), INDEX);
    due(33, "copy none", x.copy(0, 5, 1, 3, 0), 0);
    due(33, "copy three", x.copy(0, 2, 1, 0, 3), 3);
    due(33, "copy within itself", x.copy(0, 0, 0, 1, 4), 4);
    x.lay(0, 2, 0);
    x.lay(1, 2, 1);
    int[] want = {10, 10, 11, 12, 13};
    for (int i = 0; i < 5; i++) {
      due(33, "item(0, " + i + ")", x.item(0, i), want[i]);
    }
    for (int i = 0; i < 3; i++) {
      due(33, "item(1, " + i + ")", x.item(1, i), 12 + i);
    }
    x.copy(0, 1, 0, 0, 4);
    x.lay(0, 2, 0);
    int[] down = {10, 11, 12, 13, 13};
    for (int i = 0; i < 5; i++) {
      due(33, "downwards: item(0, " + i + ")", x.item(0, i), down[i]);
    }
  }

  private static void slots() {
    CoalHoles x = new CoalHoles();
    x.house(4, 20, 10, 40);
    x.house(5, 20, 10, 40);
    x.sheet(1, 0, 2);
    due(34, "lay(-1, 0, 0)", x.lay(-1, 0, 0), BAD);
    due(34, "lay(5, 0, 0)", x.lay(5, 0, 0), BAD);
    due(34, "lay(0, -1, 0)", x.lay(0, -1, 0), BAD);
    due(34, "lay(0, 4, 0)", x.lay(0, 4, 0), BAD);
    due(34, "lay(0, 1, 2)", x.lay(0, 1, 2), BAD);
    due(34, "lay(0, 1, -1)", x.lay(0, 1, -1), BAD);
    due(34, "lay(0, 2, 4)", x.lay(0, 2, 4), BAD);
    due(34, "lay(0, 2, -1)", x.lay(0, 2, -1), BAD);
    due(34, "lay(0, 2, 0): missing", x.lay(0, 2, 0), NOTHING);
    due(35, "ask(0, 0)", x.ask(0, 0), NOTHING);
    due(36, "item(0, 0)", x.item(0, 0), NOTHING);
    due(37, "rest(0, 0)", x.rest(0, 0), NOTHING);
    due(34, "lay(0, 1, 0)", x.lay(0, 1, 0), 0);
    due(35, "ask(0, 4)", x.ask(0, 4), 86);
    due(35, "ask(0, 2)", x.ask(0, 2), 86);
    due(35, "ask(0, 0)", x.ask(0, 0), 86);
    due(35, "ask(0, 1)", x.ask(0, 1), KIND);
    due(35, "ask(0, 5)", x.ask(0, 5), KIND);
    due(35, "ask(0, 6)", x.ask(0, 6), BAD);
    due(35, "ask(0, -1)", x.ask(0, -1), BAD);
    due(35, "ask(5, 0)", x.ask(5, 0), BAD);
    due(35, "ask(-1, 0)", x.ask(-1, 0), BAD);
    x.set(0, 1, 99);
    x.turns(0, 0);
    due(35, "as it was, for good", x.ask(0, 4), 86);
    due(36, "item(0, 0): a house", x.item(0, 0), KIND);
    due(37, "rest(0, 0): a house", x.rest(0, 0), KIND);
    x.set(1, 4, 55);
    x.lay(3, 1, 1);
    due(35, "worth of an EMPTY", x.ask(3, 5), 55);
    due(34, "lay(0, 2, 1)", x.lay(0, 2, 1), 1);
    x.mark(1, 0, 5);
    due(36, "item(0, 0): as it was", x.item(0, 0), 0);
    due(36, "item(0, 2)", x.item(0, 2), INDEX);
    due(36, "item(0, -1)", x.item(0, -1), INDEX);
    due(36, "item(5, 0)", x.item(5, 0), BAD);
    due(36, "item(-1, 0)", x.item(-1, 0), BAD);
    due(35, "ask(0, 0): a sheet", x.ask(0, 0), KIND);
    due(34, "lay(0, 3, -17)", x.lay(0, 3, -17), 2);
    due(37, "rest(0, 5)", x.rest(0, 5), -2);
    due(37, "rest(0, -5)", x.rest(0, -5), -2);
    due(37, "rest(0, 0)", x.rest(0, 0), NO);
    due(37, "rest(5, 0)", x.rest(5, 0), BAD);
    due(37, "rest(-1, 0)", x.rest(-1, 0), BAD);
    due(36, "item(0, 0): a number", x.item(0, 0), KIND);
    due(35, "ask(0, 0): a number", x.ask(0, 0), KIND);
    due(34, "lay(0, 3, least)", x.lay(0, 3, LEAST), 3);
    due(37, "rest(0, -1)", x.rest(0, -1), 0);
    due(34, "a refused lay changes nothing", x.lay(0, 2, 0), NOTHING);
    due(34, "lay(0, 0, most)", x.lay(0, 0, MOST), 3);
    due(37, "rest(0, 1)", x.rest(0, 1), NOTHING);
  }

  private static void checks() {
    CoalHoles x = new CoalHoles();
    for (int i = 1; i <= 60; i++) {
      due(38, "tell", x.tell(i), i);
    }
    due(38, "tell: full", x.tell(0), FULL);
    due(42, "count(6)", x.count(6), 60);
    due(39, "check(0)", x.check(0), BAD);
    due(39, "none wait", x.count(6), 0);
    x.tell(1);
    due(39, "check(1)", x.check(1), NO);
    due(39, "none wait", x.count(6), 0);
    x.tell(1);
    due(39, "check(31)", x.check(31), BAD);
    due(39, "none wait", x.count(6), 0);
    x.house(0, 50, 0, 20);
    x.house(1, 50, 0, 20);
    x.rule(2, 70);
    x.keep();
    int[] row = new int[60];
    for (int k = 0; k < 30; k++) {
      x.nights(1);
      row[2 * k] = x.terrace(0);
      row[2 * k + 1] = x.terrace(4);
    }
    int z = x.count(8);
    // A text told behind the image does not count in it.
    text(x, "fit 0");
    for (int n = 1; n <= 30; n++) {
      tellAll(x, row, 2 * n);
      due(39, "check(" + n + ")", x.check(n), 0);
    }
    due(39, "none wait", x.count(6), 0);
    due(39, "z stays", x.count(8), z);
    due(39, "check(1): all are missing", x.check(1), 1);
    tellAll(x, row, 7);
    due(39, "check(4): one is missing", x.check(4), 8);
    tellAll(x, row, 9);
    due(39, "check(4): one too many", x.check(4), 9);
    row[5]++;
    tellAll(x, row, 8);
    due(39, "check(4): one is wrong", x.check(4), 6);
  }

  private static void tellAll(CoalHoles x, int[] row, int many) {
    for (int i = 0; i < many; i++) {
      x.tell(row[i]);
    }
  }

  private static void images() {
    CoalHoles x = new CoalHoles();
    due(41, "back()", x.back(), NO);
    due(40, "keep() of no houses", x.keep(), 0);
    x.deal(5);
    text(x, "fit s / 2");
    text(x, "fee 4");
    x.rule(0, 3);
    x.rule(1, 4);
    x.rule(2, 50);
    x.nights(9);
    x.load(0);
    due(40, "keep()", x.keep(), 5);
    int[] before = state(x, 5);
    x.deal(5);
    text(x, "fit 9");
    text(x, "fine 9");
    x.rule(0, 9);
    x.rule(1, 9);
    x.rule(2, 9);
    x.turns(0, 5);
    x.nights(20);
    x.set(1, 4, 1234);
    x.sheet(0, 0, 3);
    x.lay(0, 3, 8);
    x.tell(4);
    x.feed(1, 2, 3);
    for (int time = 0; time < 2; time++) {
      due(41, "back()", x.back(), 5);
      int[] after = state(x, 5);
      for (int i = 0; i < before.length; i++) {
        due(41, "state " + i, after[i], before[i]);
      }
      due(41, "why(2)", x.why(2), NONE);
      due(41, "textTold(2, 0)", x.textTold(2, 0), BAD);
      due(41, "numbers wait", x.count(6), 1);
      due(41, "the tape", x.count(7), 12);
      due(41, "the slot", x.rest(0, 5), 3);
      due(41, "the sheet", x.pour(0) >= 0 ? 1 : 0, 1);
      x.nights(3);
    }
    x.back();
    x.trim(0);
    due(41, "texts go on from the image", text(x, "fine 7"), 2);
    due(41, "fine(0)", x.fine(0), 7);
    x.back();
    due(41, "fine(0)", x.fine(0), x.told(0, 3));
  }

  private static int[] state(CoalHoles x, int houses) {
    int[] row = new int[18 + 9 * houses];
    int at = 0;
    for (int what = 0; what < 9; what++) {
      row[at++] = what == 6 || what == 7 ? 0 : x.count(what);
    }
    for (int what = 0; what < 7; what++) {
      row[at++] = x.terrace(what);
    }
    row[at++] = x.why(0);
    row[at++] = x.why(1);
    for (int i = 0; i < houses; i++) {
      for (int what = 0; what < 9; what++) {
        row[at++] = x.told(i, what);
      }
    }
    return row;
  }
}
