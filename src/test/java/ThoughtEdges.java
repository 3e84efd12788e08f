/** The boundary cases of what will be: promises 14 to 23. */
public final class ThoughtEdges {
  private static final int BAD = Due.BAD, NONE = Due.NONE, NOTHING = Due.NOTHING, LEAST = Due.LEAST, MOST = Due.MOST;
  private static final int HOUSE = 0, CHAPEL = 1, LODGING = 2, MANSE = 3, CLUB = 4, EMPTY = 5;
  private static final int SHORTS = 0, FLOATS = 1;

  private static final Due d = new Due();

  public static void main(String[] args) {
    behind();
    behindTheLastNight();
    cold();
    coldOrShutByThen();
    shut();
    cement();
    cementAtTheEdges();
    cementFewestAheadOfLeast();
    cementByTheTuneOfThen();
    cast();
    castAtTheEdges();
    becomes();
    becomesEachKind();
    ears();
    like();
    likeAtTheEdges();
    fee();
    fine();
    d.end();
  }

  private static void behind() {
    d.says(14, "BEHIND n (0 .. 100) NIGHTS: what 0 NOISE, 1 KNOCKS, 2 COLD ones, 3 THE TUNE, 4 COAL of all; 5 and k: "
        + "HEARD of HOUSE k. BAD: 5 and k of no HOUSE, too.");
    Trial none = new Trial(d).due(BAD, "behind", 0, 5).due(BAD, "behind", 100, 5).due(0, "behind", 0, 4);
    for (int what = 0; what < 5; what++) {
      none.due(0, "behind", 100, what);
    }
    Trial t = new Trial(d).does("house", EMPTY, 0, 0, 0).does("house", HOUSE, 7, 7, 3);
    for (int n : new int[] {LEAST, NONE, -1, 101, 200, MOST}) {
      t.due(BAD, "behind", n, 0);
    }
    for (int what : new int[] {LEAST, NONE, -1, 7, 14, 15, MOST - 5, MOST - 4, MOST}) {
      t.due(BAD, "behind", 0, what).due(BAD, "behind", 100, what);
    }
    t.due(0, "behind", 0, 0).due(0, "behind", 0, 1).due(0, "behind", 0, 3);
    t.due(1, "behind", 0, 2).due(3, "behind", 0, 4).due(0, "behind", 0, 5).due(0, "behind", 0, 6);
    t.due(1, "behind", 1, 0).due(2, "behind", 1, 2).due(1, "behind", 1, 3).due(20, "behind", 1, 4);
    t.due(100, "behind", 100, 5).due(100, "behind", 100, 0);
    // House 1 is knocked at in the second night, when it has bent away from its plate by 1: it is no vain knock.
    t.due(0, "behind", 2, 1).does("load", 1).due(1, "behind", 0, 1);
    d.says(14, "(All that follows is only thought, z as it is, without the bound of THE NIGHT: nothing changes.)");
    t.due(0, "count", 1).due(1, "count", 8).due(0, "terrace", 0).due(0, "told", 0, 4).due(3, "told", 1, 3);
  }

  private static void behindTheLastNight() {
    d.says(14, "(All that follows is only thought, z as it is, without the bound of THE NIGHT: nothing changes.)");
    Trial t = Trial.withHouses(d, 4, EMPTY, 0, 0, 0).does(100, "nights", 100).due(9999, "count", 1);
    for (int i = 0; i < 4; i++) {
      t.does("set", i, 3, 0);
    }
    // The rests of 9999, 10000, 10001 and 10002 by four are 3, 0, 1 and 2.
    t.due(0b1111, "behind", 0, 2).due(0b0111, "behind", 1, 2).due(0b0110, "behind", 2, 2).due(0b0100, "behind", 3, 2);
    t.due(0, "behind", 4, 2);
    d.says(15, "COLD of one: behind how many NIGHTS (0 .. 200) it is COLD first.");
    t.does("set", 2, 3, 9).does("turns", 2, HOUSE).due(2, "cold", 2).does("set", 2, 3, 11).due(3, "cold", 2);
    d.says(16, "SHUT of one: behind how many NIGHTS (0 .. 200) its SLACK is 0 first.");
    t.does("set", 2, 1, 30).does("set", 2, 2, 10).due(20, "shut", 2);
    d.says(18, "so that its COAL is most behind n NIGHTS");
    t.does("turns", 2, EMPTY).does("set", 2, 3, 0).due(0, "cast", 2, 3, 1).due(20, "cast", 2, 4, 1);
    d.says(21, "the HOUSE of which COAL behind k NIGHTS and places k that are numbers (k from 0 on) differ least");
    t.does("sheet", 0, SHORTS, 3).does("mark", 0, 2, 20).due(0, "like", 0, 0).due(0, "like", 0, 1);
    t.due(9999, "count", 1);
  }

  private static void cold() {
    d.says(15, "COLD of one. BAD; NONE: not by then.");
    Trial t = new Trial(d).due(BAD, "cold", 0).does("rule", 1, 0).does("house", HOUSE, 0, 50, 0);
    for (int house : new int[] {LEAST, NONE, -1, 1, 10, MOST}) {
      t.due(BAD, "cold", house);
    }
    int[][] rows = {{0, 0}, {1, 1}, {5, 1}, {6, 2}, {10, 2}, {11, 3}, {95, 19}, {96, 20}, {99, 20}};
    for (int[] row : rows) {
      t.does("set", 0, 3, row[0]).due(row[1], "cold", 0);
    }
    t.does("turns", 0, EMPTY).due(NONE, "cold", 0).does("set", 0, 3, 0).due(0, "cold", 0);
    // A load in the night keeps it warm; one that is knocked at in vain gets cold.
    t.does("turns", 0, HOUSE).does("rule", 1, 5).does("set", 0, 3, 1).due(NONE, "cold", 0);
    t.does("set", 0, 2, 0).due(1, "cold", 0);
  }

  /** One of three gets 14 every third night and burns 15 meanwhile. */
  private static Trial everyThird(int house, int coal) {
    return Trial.withHouses(d, 3, EMPTY, 0, 50, 99).does("rule", 1, 14).does("turns", house, HOUSE)
        .does("set", house, 3, coal);
  }

  private static void coldOrShutByThen() {
    d.says(15, "COLD of one: behind how many NIGHTS (0 .. 200) it is COLD first.");
    // House 2 has 10 and k less than at first behind 3 k and 2 NIGHTS, house 1 has 5 and k less behind 3 k and 1,
    // house 0 has k less behind 3 k, and all have more in between: one is COLD first if that is all it had.
    everyThird(1, 71).due(199, "cold", 1);
    everyThird(2, 75).due(197, "cold", 2);
    everyThird(2, 76).due(200, "cold", 2);
    everyThird(2, 77).due(NONE, "cold", 2).does("nights", 3).due(200, "cold", 2);
    everyThird(0, 67).due(NONE, "cold", 0).does("nights", 1).due(200, "cold", 0);
    d.says(16, "SHUT of one: behind how many NIGHTS (0 .. 200) its SLACK is 0 first.");
    everyThird(1, 71).tells("fit c").due(199, "shut", 1);
    everyThird(2, 75).tells("fit c").due(197, "shut", 2);
    everyThird(2, 76).tells("fit c").due(200, "shut", 2);
    everyThird(2, 77).tells("fit c").due(NONE, "shut", 2).does("nights", 3).due(200, "shut", 2);
    everyThird(0, 67).tells("fit c").due(NONE, "shut", 0).does("nights", 1).due(200, "shut", 0);
  }

  private static void shut() {
    d.says(16, "SHUT of one. BAD; NONE: not by then.");
    Trial t = new Trial(d).due(BAD, "shut", 0).does("house", HOUSE, 40, 40, 0);
    for (int house : new int[] {LEAST, NONE, -1, 1, 10, MOST}) {
      t.due(BAD, "shut", house);
    }
    t.due(0, "shut", 0).does("set", 0, 2, 39).due(1, "shut", 0).does("set", 0, 2, 0).due(40, "shut", 0);
    t.does("set", 0, 2, 41).due(NONE, "shut", 0).does("turns", 0, CHAPEL).due(0, "shut", 0);
    t.does("set", 0, 2, 42).due(1, "shut", 0).does("set", 0, 2, 39).due(0, "shut", 0).does("set", 0, 2, 38);
    t.due(NONE, "shut", 0).does("turns", 0, MANSE).does("set", 0, 2, 51).due(0, "shut", 0).does("set", 0, 2, 52);
    t.due(1, "shut", 0).does("turns", 0, CLUB).does("set", 0, 2, 40).due(NONE, "shut", 0);
    t.does("turns", 0, EMPTY).due(NONE, "shut", 0);
    // A LODGING that fits is kept slack by another in the tune, until that one is quiet in a round.
    Trial heard = new Trial(d).does("house", HOUSE, 10, 0, 0).does("house", LODGING, 0, 0, 0).due(1, "round");
    heard.due(2, "told", 1, 5).due(2, "shut", 1).does("set", 0, 1, 9).due(1, "shut", 1);
  }

  private static void cement() {
    d.says(17, "CEMENT for n (0 .. 20): a set. BAD; NONE: by none.");
    Trial none = new Trial(d).due(0, "cement", 0).due(0, "cement", 20).does("rule", 0, 0).due(0, "cement", 0);
    for (int n : new int[] {LEAST, NONE, -1, 21, 100, MOST}) {
      none.due(BAD, "cement", n);
    }
    d.says(17, "no SLACK is EAR or more behind n NIGHTS");
    Trial t = new Trial(d).does("house", HOUSE, 9, 0, 0).due(0, "cement", 0).does("set", 0, 1, 10).due(1, "cement", 0);
    t.does("rule", 0, 11).due(0, "cement", 0).does("rule", 0, 1).due(1, "cement", 0);
    t.does("rule", 0, 0).due(NONE, "cement", 0).does("set", 0, 2, 10).due(NONE, "cement", 0).does("rule", 0, 1);
    t.due(0, "cement", 0).due(NONE, "cement", 1);
    Trial empty = new Trial(d).does("house", EMPTY, 7, 7, 7).does("rule", 0, 50).due(NONE, "cement", 0)
        .due(NONE, "cement", 20);
    empty.does("rule", 0, 51).due(0, "cement", 0).due(0, "cement", 20);
    Trial club = new Trial(d).does("house", CLUB, 30, 50, 0).due(NONE, "cement", 0).does("rule", 0, 11)
        .due(1, "cement", 0);
    // Two that clanked last make it louder now, not behind a quiet night.
    club.does("house", HOUSE, 50, 0, 0).does("house", HOUSE, 50, 0, 0).due(7, "round").due(NONE, "cement", 0);
    club.does("rule", 0, 15).due(7, "cement", 0);
  }

  private static void cementAtTheEdges() {
    d.says(17, "if PLATE of each of these is as its STRAIGHT is now, no SLACK is EAR or more behind n NIGHTS");
    // As STRAIGHT is now, not then: behind 20 nights the fitted ones have bent away by 20.
    Trial t = Trial.withHouses(d, 10, HOUSE, 50, 0, 0).due(1023, "cement", 0).due(NONE, "cement", 20);
    t.does("rule", 0, 20).due(NONE, "cement", 20).due(1023, "cement", 19).does("rule", 0, 21).due(1023, "cement", 20);
    t.does("rule", 0, 31).due(0, "cement", 20).due(1023, "cement", 19).does("rule", 0, 99).due(0, "cement", 0);
    t.does("set", 9, 1, 99).due(1 << 9, "cement", 0).does("set", 0, 1, 99).due(1 << 9 | 1, "cement", 0);
    t.due(0, "told", 0, 2).due(0, "told", 9, 2);
    d.says(17, "if PLATE of each of these is as its STRAIGHT is now");
    for (int straight = 0; straight < 100; straight++) {
      int plate = straight < 50 ? straight + 10 : straight - 10;
      new Trial(d).does("house", HOUSE, straight, plate, 0).due(1, "cement", 0).does("set", 0, 2, straight)
          .due(0, "cement", 0);
    }
    Trial five = new Trial(d).does("rule", 0, 15);
    for (int kind = HOUSE; kind <= CLUB; kind++) {
      five.does("house", kind, 90, 5, 5).does("set", kind, 4, 5);
    }
    five.due(31, "cement", 0);
  }

  private static void cementFewestAheadOfLeast() {
    d.says(17, "the set of fewest HOUSES such that");
    // The LODGING hears of two that clank for the last time: it alone had best be fitted, else both of them.
    Trial t = new Trial(d).does("rule", 0, 5).does("house", HOUSE, 55, 50, 0).does("house", HOUSE, 55, 50, 0)
        .does("house", LODGING, 0, 3, 0).due(0b100, "cement", 1);
    d.says(17, "of several the least");
    // By a plate of 1 it is quiet with one of the two, and so is each of three sets of one.
    t.does("set", 2, 2, 1).due(0b001, "cement", 1);
    t.does("set", 2, 2, 0).due(0, "cement", 1);
  }

  private static void cementByTheTuneOfThen() {
    d.says(17, "no SLACK is EAR or more behind n NIGHTS");
    // The CLUB fits, and clanks only as long as it hears of the HOUSE: that one is all that must be fitted.
    new Trial(d).does("rule", 0, 12).does("house", HOUSE, 50, 0, 0).does("house", CLUB, 99, 99, 0).due(1, "cement", 1);
    // By this text the HOUSE clanks for one night if it is made to fit, and then the CLUB would hear of it.
    new Trial(d).does("rule", 0, 12).tells("fit (s = p) * 50 * (c < 50) + (c > 50) * (s - p)")
        .does("house", HOUSE, 50, 0, 0).does("house", CLUB, 60, 40, 99).due(2, "cement", 1);
    // The LODGING, which fits, hears of the HOUSE in its last loud night, takes the load and bends by ten. If the HOUSE
    // is made to fit, it is knocked at in vain and bends by five. It may be the first house or the last.
    Trial first = new Trial(d).does("rule", 0, 9).does("rule", 1, 80).does("house", LODGING, 50, 50, 40);
    first.does("house", HOUSE, 59, 50, 0).due(2, "cement", 1).does("rule", 0, 12).due(0, "cement", 1);
    Trial last = new Trial(d).does("nights", 1).does("rule", 0, 9).does("rule", 1, 80).does("house", HOUSE, 59, 50, 0);
    last.does("house", LODGING, 50, 50, 40).due(1, "cement", 1).does("rule", 0, 5).due(NONE, "cement", 1);
  }

  private static void cast() {
    d.says(18, "CAST of one, for n (1 .. 60): what 0 the PLATE, 1 COAL then. BAD.");
    new Trial(d).due(BAD, "cast", 0, 1, 0);
    Trial t = new Trial(d).does("house", EMPTY, 0, 0, 50);
    for (int house : new int[] {LEAST, NONE, -1, 1, 10, MOST}) {
      t.due(BAD, "cast", house, 1, 0);
    }
    for (int n : new int[] {LEAST, NONE, -1, 0, 61, 100, MOST}) {
      t.due(BAD, "cast", 0, n, 0).due(BAD, "cast", 0, n, 1);
    }
    for (int what : new int[] {LEAST, NONE, -1, 2, MOST}) {
      t.due(BAD, "cast", 0, 1, what);
    }
    t.due(0, "cast", 0, 1, 0).due(70, "cast", 0, 1, 1).due(0, "cast", 0, 60, 0).due(99, "cast", 0, 60, 1);
    t.due(0, "told", 0, 2).due(50, "told", 0, 3);
  }

  private static void castAtTheEdges() {
    d.says(18, "the PLATE (0 .. 99) that it had best have now, so that its COAL is most behind n NIGHTS; of several the "
        + "least");
    Trial t = new Trial(d).does("house", HOUSE, 50, 50, 10).due(0, "cast", 0, 1, 0).due(25, "cast", 0, 1, 1);
    t.does("set", 0, 1, 0).due(1, "cast", 0, 1, 0).due(25, "cast", 0, 1, 1);
    t.tells("fit p / 99").due(99, "cast", 0, 1, 0).due(25, "cast", 0, 1, 1);
    t.tells("fit p / 98").due(98, "cast", 0, 1, 0).tells("fit p / 100").due(0, "cast", 0, 1, 0).due(5, "cast", 0, 1, 1);
    t.tells("fit 0").due(0, "cast", 0, 1, 0).due(5, "cast", 0, 1, 1).due(0, "cast", 0, 60, 1);
    t.tells("fit p = 0").due(0, "cast", 0, 60, 0).due(94, "cast", 0, 60, 1);
    // By a plate of 0 it is shut in the last of the nights, by one of 1 in the last but one: the last load fills it.
    Trial late = new Trial(d).does("house", HOUSE, 59, 0, 99).due(1, "cast", 0, 60, 0).due(94, "cast", 0, 60, 1);
    late.due(0, "cast", 0, 59, 0).does("set", 0, 1, 60).due(0, "cast", 0, 60, 0).due(94, "cast", 0, 60, 1);
  }

  private static void becomes() {
    d.says(19, "BECOMES of one, for n (1 .. 60): what 0 the KIND, 1 NOISE then. BAD.");
    new Trial(d).due(BAD, "becomes", 0, 1, 0);
    Trial t = new Trial(d).does("house", EMPTY, 0, 0, 50);
    for (int house : new int[] {LEAST, NONE, -1, 1, 10, MOST}) {
      t.due(BAD, "becomes", house, 1, 0);
    }
    for (int n : new int[] {LEAST, NONE, -1, 0, 61, 100, MOST}) {
      t.due(BAD, "becomes", 0, n, 0).due(BAD, "becomes", 0, n, 1);
    }
    for (int what : new int[] {LEAST, NONE, -1, 2, MOST}) {
      t.due(BAD, "becomes", 0, 1, what);
    }
    t.due(0, "becomes", 0, 1, 0).due(0, "becomes", 0, 1, 1).due(0, "becomes", 0, 60, 0).due(0, "becomes", 0, 60, 1);
    t.due(5, "told", 0, 0);
    d.says(19, "so that NOISE is least behind n NIGHTS; of several the least");
    t.does("rule", 0, 0).does("round").due(0, "becomes", 0, 60, 0).due(61, "becomes", 0, 60, 1);
  }

  private static void becomesEachKind() {
    d.says(19, "BECOMES of one, for n: the KIND of which it had best be from now on, so that NOISE is least behind n "
        + "NIGHTS; of several the least.");
    Trial one = new Trial(d).does("house", EMPTY, 9, 0, 0).due(0, "becomes", 0, 1, 0).due(0, "becomes", 0, 1, 1);
    one.does("set", 0, 1, 19).due(CHAPEL, "becomes", 0, 1, 0).does("set", 0, 1, 20).due(MANSE, "becomes", 0, 1, 0);
    one.does("set", 0, 1, 29).due(MANSE, "becomes", 0, 1, 0).due(0, "becomes", 0, 1, 1);
    one.does("set", 0, 1, 30).due(HOUSE, "becomes", 0, 1, 0).due(1, "becomes", 0, 1, 1);
    // A LODGING with coal bends by ten a night to its plate; all others clank in each of four nights.
    new Trial(d).does("house", HOUSE, 70, 40, 99).due(LODGING, "becomes", 0, 4, 0).due(3, "becomes", 0, 4, 1);
    // A CLUB whose load is what it burns stays as it is; all others bend away from the plate, or have 50.
    Trial club = new Trial(d).does("rule", 0, 20).does("rule", 1, 6).does("house", HOUSE, 30, 30, 20);
    club.due(CLUB, "becomes", 0, 60, 0).due(0, "becomes", 0, 60, 1);
    // As EMPTY it clanks each night, but the LODGINGS hear of it: they are never shut, and each load keeps them at 20.
    Trial empty = new Trial(d).does("rule", 0, 30).does("rule", 1, 30).does("house", HOUSE, 50, 50, 99);
    empty.does(2, "house", LODGING, 50, 50, 40).tells("fit (c < 20) * 50");
    empty.due(EMPTY, "becomes", 0, 60, 0).due(60, "becomes", 0, 60, 1);
    // All get cold, a CHAPEL in the second of the nights: there is no KIND that burns nothing but EMPTY, which clanks.
    Trial cold = new Trial(d).does("rule", 0, 5).does("rule", 1, 0).does("house", HOUSE, 50, 50, 5);
    cold.tells("fit (c = 0) * 50").due(CHAPEL, "becomes", 0, 10, 0).due(8, "becomes", 0, 10, 1);
  }

  private static void ears() {
    d.says(20, "EARS for n (0 .. 60), v (0 .. 99999). BAD; NONE: with none.");
    Trial t = new Trial(d).due(0, "ears", 0, 0).due(0, "ears", 60, 0).due(0, "ears", 60, 99999);
    for (int n : new int[] {LEAST, NONE, -1, 61, 100, MOST}) {
      t.due(BAD, "ears", n, 0);
    }
    for (int v : new int[] {LEAST, NONE, -1, 100000, MOST}) {
      t.due(BAD, "ears", 0, v);
    }
    d.says(20, "the least EAR (0 .. 99) with which, were it that from now on, NOISE is v or less behind n NIGHTS");
    Trial one = new Trial(d).does("house", CHAPEL, 99, 99, 0).due(1, "ears", 60, 0).due(1, "ears", 60, 59);
    one.due(0, "ears", 60, 60).due(1, "ears", 1, 0).due(0, "ears", 1, 1).due(0, "ears", 0, 0);
    one.does("turns", 0, HOUSE).does("set", 0, 2, 1).due(99, "ears", 1, 0).does("set", 0, 2, 0);
    one.due(NONE, "ears", 1, 0).due(NONE, "ears", 60, 0).due(99, "ears", 60, 1).due(0, "ears", 60, 60);
    one.does("round").due(NONE, "ears", 0, 0).due(0, "ears", 0, 1).due(10, "count", 2);
    new Trial(d).does("house", EMPTY, 0, 0, 0).due(51, "ears", 60, 0).due(51, "ears", 60, 59).due(0, "ears", 60, 60);
  }

  private static void like() {
    d.says(21, "LIKE by a SHEET: what 0 the HOUSE, 1 the differences, together. BAD; NOTHING; NONE: there are no "
        + "HOUSES.");
    Trial t = new Trial(d).due(NOTHING, "like", 0, 0).due(NOTHING, "like", 3, 1);
    for (int sheet : new int[] {LEAST, NONE, -1, 4, MOST}) {
      t.due(BAD, "like", sheet, 0);
    }
    for (int what : new int[] {LEAST, NONE, -1, 2, MOST}) {
      t.due(BAD, "like", 0, what);
    }
    t.does("sheet", 0, SHORTS, 0).due(NONE, "like", 0, 0).due(NONE, "like", 0, 1).due(BAD, "like", 0, 2);
    t.does("house", EMPTY, 0, 0, 99).due(0, "like", 0, 0).due(0, "like", 0, 1).due(NOTHING, "like", 1, 0);
    d.says(21, "of several the least");
    t.does("house", EMPTY, 0, 0, 99).does("house", EMPTY, 0, 0, 98).does("sheet", 1, SHORTS, 1);
    t.due(2, "like", 1, 0).due(98, "like", 1, 1).does("mark", 1, 0, 99).due(0, "like", 1, 0).due(0, "like", 1, 1);
    t.does("set", 0, 3, 98).due(1, "like", 1, 0).does("set", 1, 3, 98).due(0, "like", 1, 0).due(1, "like", 1, 1);
    t.does("set", 2, 3, 99).due(2, "like", 1, 0);
    Trial ten = Trial.withHouses(d, 10, EMPTY, 0, 0, 50).does("set", 9, 3, 51).does("sheet", 0, SHORTS, 2);
    ten.does("mark", 0, 0, 51).does("mark", 0, 1, 51).due(9, "like", 0, 0).due(0, "like", 0, 1);
  }

  private static void likeAtTheEdges() {
    d.says(21, "the HOUSE of which COAL behind k NIGHTS and places k that are numbers (k from 0 on) differ least (signs "
        + "left out), together");
    Trial t = new Trial(d).does("rule", 1, 0).does("house", HOUSE, 0, 50, 99).does("sheet", 0, SHORTS, 24);
    t.does("sheet", 1, FLOATS, 24);
    int coal = 0;
    for (int k = 0; k < 24; k++) {
      t.does("mark", 0, k, Math.max(0, 99 - 5 * k)).does("mark", 1, k, -99999);
      coal += Math.max(0, 99 - 5 * k);
    }
    t.due(0, "like", 0, 1).does("mark", 0, 23, -1).due(1, "like", 0, 1).does("mark", 0, 0, 98).due(2, "like", 0, 1);
    t.does("mark", 0, 0, 100).due(2, "like", 0, 1);
    t.due(24 * 99999 + coal, "like", 1, 1);
    for (int k = 0; k < 24; k++) {
      t.does("mark", 1, k, 99999);
    }
    t.due(24 * 99999 - coal, "like", 1, 1);
    // NO NUMBER counts for nothing, and the nights go on past it.
    for (int k = 0; k < 23; k++) {
      t.does("mark", 1, k, NONE);
    }
    t.does("mark", 1, 23, 0).due(0, "like", 1, 1).does("mark", 1, 23, NONE).due(0, "like", 1, 0).due(0, "like", 1, 1);
    t.does("mark", 1, 20, 0).due(0, "like", 1, 1).does("mark", 1, 19, 4).due(0, "like", 1, 1);
    t.due(0, "count", 1).due(99, "told", 0, 3);
  }

  private static void fee() {
    d.says(22, "(what fee gives is told by fee(); without a TEXT: NOISE)");
    Trial t = new Trial(d).due(0, "fee").does("house", EMPTY, 0, 0, 0).does("round").due(1, "fee");
    t.tells("fit 7").tells("fine 8").due(1, "fee").tells("fee 0").due(0, "fee").tells("fee 0 - 9999").due(-9999, "fee");
    t.tells("fee 9999").due(9999, "fee").tells("fee 2048 * 1024 * 1024").due(LEAST, "fee");
    t.tells("fee 2048 * 1024 * 1024 - 1").due(MOST, "fee").textDue(-107, "fee 1 +").due(MOST, "fee");
  }

  private static void fine() {
    d.says(23, "What fine gives for one. BAD.");
    Trial t = new Trial(d).due(BAD, "fine", 0).does("house", EMPTY, 99, 0, 0).does("house", EMPTY, 0, 0, 99);
    for (int house : new int[] {LEAST, NONE, -1, 2, 10, MOST}) {
      t.due(BAD, "fine", house);
    }
    d.says(23, "(what fine gives for one is told by fine(); without a TEXT: COAL)");
    t.due(0, "fine", 0).due(99, "fine", 1).tells("fit 7").tells("fee 8").due(99, "fine", 1);
    t.tells("fine 0 - s - c").due(-99, "fine", 0).due(-99, "fine", 1).tells("fine 9999 * 9999 * 9999");
    t.due(9999 * 9999 * 9999, "fine", 0).due(BAD, "fine", 2).due(BAD, "fine", -1);
  }
}
