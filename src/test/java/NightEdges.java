/** The boundary cases of rounds, deliveries and nights: promises 10 to 13. */
public final class NightEdges {
  private static final int BAD = Due.BAD, NONE = Due.NONE, LEAST = Due.LEAST, MOST = Due.MOST;
  private static final int HOUSE = 0, CHAPEL = 1, LODGING = 2, MANSE = 3, CLUB = 4, EMPTY = 5;

  private static final Due d = new Due();

  public static void main(String[] args) {
    whoClanks();
    roundAsAllIsAhead();
    heardAtMost();
    noiseAtMost();
    shutOrNot();
    coalAtMost();
    load();
    nights();
    nightsUpToTheLast();
    nightsOfNoHouses();
    whoIsDelivered();
    burning();
    bending();
    treads();
    terrace();
    loudest();
    d.end();
  }

  private static void whoClanks() {
    d.says(10, "all HOUSES whose SLACK is EAR or more, as all is ahead of it, clank");
    new Trial(d).due(0, "round").due(0, "terrace", 0).does("rule", 0, 0).due(0, "round");
    Trial t = new Trial(d).does("house", HOUSE, 9, 0, 0).does("house", HOUSE, 10, 0, 0).does("house", HOUSE, 11, 0, 0)
        .does("house", HOUSE, 0, 0, 0).does("house", HOUSE, 99, 0, 0).does("house", HOUSE, 98, 0, 0);
    t.due(0b110110, "round").due(0b110110, "terrace", 3).due(4, "terrace", 0);
    t.does("rule", 0, 0).due(0b111111, "round").does("rule", 0, 1).due(0b110111, "round");
    t.does("rule", 0, 98).due(0b110000, "round").does("rule", 0, 99).due(0b010000, "round");
    t.does("set", 4, 1, 98).due(0, "round").due(0, "terrace", 3);
    t.due(0, "count", 1);
    new Trial(d).does("house", EMPTY, 0, 0, 0).does("rule", 0, 50).due(1, "round").does("rule", 0, 51).due(0, "round");
  }

  private static void roundAsAllIsAhead() {
    d.says(10, "all HOUSES whose SLACK is EAR or more, as all is ahead of it, clank: these are THE TUNE from then on");
    // The LODGINGS hear of the HOUSE one round late, on both sides of it, and of its quiet one round late too.
    Trial t = new Trial(d).does("house", LODGING, 59, 50, 0).does("house", HOUSE, 60, 50, 0)
        .does("house", LODGING, 59, 50, 0);
    t.due(0b010, "round").due(0b111, "round").does("set", 1, 2, 60).due(0b101, "round").due(0b101, "round");
    t.does("set", 0, 2, 59).due(0b100, "round").due(0, "round").due(0, "round");
  }

  private static void heardAtMost() {
    d.says(10, "HEARD of each is 1 more (9999 at most)");
    Trial t = Trial.withHouses(d, 2, EMPTY, 0, 0, 0).does("set", 0, 4, 9998).due(3, "round").due(9999, "told", 0, 4);
    t.due(1, "told", 1, 4).due(3, "round").due(9999, "told", 0, 4).due(2, "told", 1, 4).due(4, "terrace", 0);
    t.due(6, "nights", 3).due(9999, "told", 0, 4).due(5, "told", 1, 4);
    t.due(9999, "behind", 100, 5).due(105, "behind", 100, 6);
  }

  /** Ten that clank always, up to a NOISE of 99000 at THE NIGHT 9800. */
  private static Trial nearlyAtMost() {
    return Trial.withHouses(d, 10, EMPTY, 0, 0, 0).does(100, "round").does(98, "nights", 100);
  }

  private static void noiseAtMost() {
    d.says(10, "NOISE more by how many they are (99999 at most)");
    Trial t = nearlyAtMost().due(99000, "terrace", 0).due(990, "nights", 99).due(99990, "terrace", 0);
    t.does("keep").due(1023, "round").due(99999, "terrace", 0).due(1023, "round").due(99999, "terrace", 0);
    t.due(0, "nights", 1).due(99999, "fee");
    d.says(39, "NOISE; COAL of all, together, behind each.");
    t.does("tell", 99999).does("tell", 990).does("tell", 99999).does("tell", 990).due(0, "check", 2);
    t.does("tell", 100000).due(1, "check", 2);
    d.says(12, "by how much NOISE is more.");
    nearlyAtMost().due(999, "nights", 100).due(99999, "terrace", 0).due(9900, "count", 1);
    d.says(14, "BEHIND n NIGHTS: NOISE; KNOCKS; COLD ones, as a set; THE TUNE; COAL of all, together; HEARD of one.");
    nearlyAtMost().due(99990, "behind", 99, 0).due(99999, "behind", 100, 0).due(99000, "terrace", 0);
    d.says(19, "so that NOISE is least behind n NIGHTS; of several the least");
    t.due(0, "becomes", 9, 60, 0).due(99999, "becomes", 9, 60, 1);
    d.says(20, "the least EAR (0 .. 99) with which, were it that from now on, NOISE is v or less behind n NIGHTS");
    t.due(0, "ears", 60, 99999).due(NONE, "ears", 60, 99998).due(NONE, "ears", 0, 99998);
  }

  private static void shutOrNot() {
    d.says(11, "if its SLACK is 0, KNOCKS are 1 more (99999 at most), else COAL is LOAD more (99 at most)");
    // KNOCKS can't come near 99999 within 512 calls: 9999 NIGHTS have one each, and so has each call beside.
    new Trial(d).does("house", HOUSE, 50, 50, 0).tells("fit 0").does(100, "nights", 100).due(9999, "terrace", 1)
        .due(0, "load", 0).due(10000, "terrace", 1).due(0, "load", 0).due(10001, "terrace", 1).due(10101, "behind", 100, 1);
    int[][] rows = {{HOUSE, 0, 0}, {HOUSE, 1, 20}, {CHAPEL, 1, 0}, {CHAPEL, 2, 20}, {MANSE, 11, 0}, {MANSE, 12, 20},
        {LODGING, 0, 0}, {LODGING, 1, 20}, {CLUB, 0, 20}, {EMPTY, 0, 20}};
    for (int[] row : rows) {
      Trial t = new Trial(d).does("house", row[0], row[1], 0, 3).due(row[2], "load", 0).due(3 + row[2], "told", 0, 3);
      t.due(row[2] == 0 ? 1 : 0, "terrace", 1).due(row[2], "load", 0).due(row[2] == 0 ? 2 : 0, "terrace", 1);
      t.due(0, "count", 1).due(0, "terrace", 0);
    }
    // Another one in the tune makes a LODGING slack that fits.
    new Trial(d).does("house", LODGING, 50, 50, 0).does("house", EMPTY, 0, 0, 0).due(0, "load", 0).due(2, "round")
        .due(20, "load", 0).due(1, "terrace", 1);
  }

  private static void coalAtMost() {
    d.says(11, "else COAL is LOAD more (99 at most)");
    Trial t = new Trial(d).does("house", EMPTY, 0, 0, 78);
    t.due(20, "load", 0).due(98, "told", 0, 3).due(1, "load", 0).due(99, "told", 0, 3).due(0, "load", 0);
    t.due(99, "told", 0, 3).due(0, "terrace", 1).does("set", 0, 3, 79).due(20, "load", 0).due(99, "told", 0, 3);
    t.does("set", 0, 3, 0).does("rule", 1, 99).due(99, "load", 0).due(99, "told", 0, 3);
    t.does("set", 0, 3, 1).due(98, "load", 0).due(99, "told", 0, 3);
    t.does("set", 0, 3, 0).does("rule", 1, 0).due(0, "load", 0).due(0, "told", 0, 3).due(0, "terrace", 1);
  }

  private static void load() {
    d.says(11, "A DELIVERY to one now: by how much COAL is more. BAD.");
    Trial t = new Trial(d).due(BAD, "load", 0).does("house", EMPTY, 0, 0, 0).due(20, "load", 0);
    for (int house : new int[] {LEAST, NONE, -1, 1, 9, 10, MOST}) {
      t.due(BAD, "load", house);
    }
    t.due(20, "told", 0, 3).due(0, "terrace", 1);
  }

  private static void nights() {
    d.says(12, "n (1 .. 100) NIGHTS (no more than up to 9999): by how much NOISE is more. BAD.");
    Trial t = new Trial(d).does("house", EMPTY, 0, 0, 0);
    for (int n : new int[] {LEAST, NONE, -1, 0, 101, 9999, MOST}) {
      t.due(BAD, "nights", n);
    }
    t.due(0, "count", 1).due(1, "count", 8).due(0, "terrace", 0);
    t.due(1, "nights", 1).due(1, "count", 1).due(100, "nights", 100).due(101, "count", 1).due(101, "terrace", 0);
  }

  private static void nightsUpToTheLast() {
    d.says(12, "n (1 .. 100) NIGHTS (no more than up to 9999): by how much NOISE is more. BAD.");
    Trial t = new Trial(d).does("house", EMPTY, 0, 0, 0).does(99, "nights", 100).due(9900, "count", 1);
    t.does("keep").due(99, "nights", 99).due(9999, "count", 1);
    t.does("back").due(99, "nights", 100).due(9999, "count", 1).due(9999, "terrace", 0).due(9999, "told", 0, 4);
    // Behind the last night there is none: no round, no delivery, no fire, no draw.
    int z = t.call("count", 8);
    t.does("turns", 0, HOUSE).does("set", 0, 1, 50).does("set", 0, 3, 40);
    t.due(0, "nights", 1).due(0, "nights", 100).due(9999, "count", 1).due(z, "count", 8).due(1, "terrace", 3);
    t.due(9999, "terrace", 0).due(40, "told", 0, 3).due(50, "told", 0, 1);
    t.due(BAD, "nights", 0).due(BAD, "nights", 101);
    d.says(14, "without the bound of THE NIGHT");
    t.does("turns", 0, EMPTY).due(10099, "behind", 100, 0).due(10000, "behind", 1, 0).due(9999, "behind", 0, 0);
    t.due(9999, "count", 1);
  }

  private static void nightsOfNoHouses() {
    d.says(12, "A DELIVERY to the HOUSE that is the rest of THE NIGHT by how many there are (if there are any).");
    new Trial(d).due(0, "nights", 1).due(1, "count", 1).due(0, "nights", 100).due(101, "count", 1).due(0, "terrace", 1);
    d.says(12, "A draw; if its rest by 100 is below TREADS, and there are HOUSES, two more");
    new Trial(d).does("rule", 2, 100).due(0, "nights", 1).due(1103515245 + 12345, "count", 8);
  }

  private static void whoIsDelivered() {
    d.says(12, "A DELIVERY to the HOUSE that is the rest of THE NIGHT by how many there are (if there are any).");
    Trial t = Trial.withHouses(d, 3, EMPTY, 0, 0, 0);
    for (int night = 0; night < 7; night++) {
      for (int i = 0; i < 3; i++) {
        t.does("set", i, 3, 0);
      }
      t.due(3, "nights", 1);
      for (int i = 0; i < 3; i++) {
        t.due(night % 3 == i ? 20 : 0, "told", i, 3);
      }
    }
    // THE NIGHT is 7: the rest by five is 2, by ten 7.
    t.does("set", 1, 3, 0).does("set", 2, 3, 0).does("house", EMPTY, 0, 0, 0).does("house", EMPTY, 0, 0, 0);
    t.does("nights", 1).due(20, "told", 2, 3).due(0, "told", 1, 3).due(0, "told", 4, 3);
    d.says(12, "(1) A ROUND. (2) A DELIVERY");
    // The round comes first: the LODGING hears of the other, and so is not knocked at in vain.
    new Trial(d).does("house", LODGING, 50, 50, 0).does("house", EMPTY, 0, 0, 0).due(1, "nights", 1)
        .due(0, "terrace", 1).due(10, "told", 0, 3);
  }

  private static void burning() {
    d.says(12, "COAL is less by what it BURNS (0 at least)");
    int[] burns = {5, 3, 10, 4, 6, 0};
    for (int kind = 0; kind < 6; kind++) {
      for (int coal : new int[] {0, 1, burns[kind] - 1, burns[kind], burns[kind] + 1, 99}) {
        if (coal >= 0) {
          new Trial(d).does("rule", 1, 0).does("house", kind, 50, 50, coal).does("nights", 1)
              .due(Math.max(0, coal - burns[kind]), "told", 0, 3);
        }
      }
    }
    d.says(12, "else COAL is LOAD more (99 at most)");
    // The load comes ahead of the fire, and what is above 99 is gone.
    new Trial(d).does("house", HOUSE, 90, 0, 99).does("nights", 1).due(94, "told", 0, 3);
    new Trial(d).does("house", HOUSE, 90, 0, 0).does("nights", 1).due(15, "told", 0, 3);
  }

  private static void bending() {
    d.says(12, "STRAIGHT is more by what it BENDS (held within 0 and 99; by COAL as it is ahead of this)");
    // KIND, STRAIGHT and COAL now, STRAIGHT then.
    int[][] rows = {{HOUSE, 0, 0, 0}, {HOUSE, 1, 0, 0}, {HOUSE, 2, 0, 1}, {HOUSE, 99, 0, 98}, {CHAPEL, 99, 0, 99},
        {CHAPEL, 98, 0, 99}, {CHAPEL, 0, 0, 1}, {MANSE, 99, 0, 99}, {MANSE, 98, 0, 99}, {MANSE, 97, 0, 99},
        {LODGING, 9, 99, 0}, {LODGING, 10, 99, 0}, {LODGING, 11, 99, 1}, {LODGING, 50, 10, 48}, {LODGING, 50, 9, 49},
        {CLUB, 99, 0, 99}, {CLUB, 98, 9, 99}, {CLUB, 98, 10, 99}, {CLUB, 6, 99, 0}, {CLUB, 8, 99, 1}, {CLUB, 50, 30, 49},
        {EMPTY, 0, 99, 0}, {EMPTY, 99, 99, 99}};
    for (int[] row : rows) {
      new Trial(d).does("rule", 1, 0).does("house", row[0], row[1], 50, row[2]).does("nights", 1)
          .due(row[3], "told", 0, 1);
    }
    // The load of the night counts in it: 9 and 20 are two tenths.
    new Trial(d).does("house", LODGING, 50, 0, 9).does("nights", 1).due(47, "told", 0, 1).due(19, "told", 0, 3);
  }

  private static void treads() {
    d.says(12, "A draw; if its rest by 100 is below TREADS, and there are HOUSES, two more: PLATE of the one that is the "
        + "rest of the first by how many there are becomes the rest of the second by 100.");
    for (int z : new int[] {1, 77, -5, LEAST, MOST, 123456}) {
      int first = z * 1103515245 + 12345;
      int second = first * 1103515245 + 12345;
      int third = second * 1103515245 + 12345;
      int rest = (first >>> 8) % 100;
      treadsDue(z, rest, first, -1, 0);
      treadsDue(z, rest + 1, third, (second >>> 8) % 3, (third >>> 8) % 100);
      treadsDue(z, 100, third, (second >>> 8) % 3, (third >>> 8) % 100);
      treadsDue(z, 0, first, -1, 0);
      Trial.withHouses(d, 1, EMPTY, 0, 55, 0).does("seed", z).does("rule", 2, 100).does("nights", 1)
          .due(third, "count", 8).due((third >>> 8) % 100, "told", 0, 2);
    }
  }

  private static void treadsDue(int z, int treads, int then, int trodden, int plate) {
    Trial t = Trial.withHouses(d, 3, EMPTY, 0, 55, 0).does("seed", z).does("rule", 2, treads).does("nights", 1);
    t.due(then, "count", 8);
    for (int i = 0; i < 3; i++) {
      t.due(i == trodden ? plate : 55, "told", i, 2);
    }
  }

  private static void terrace() {
    d.says(13, "What is 0 NOISE, 1 KNOCKS, 2 COLD ones, as a set, 3 THE TUNE, 4 COAL of all, together, 5 STRAIGHT of "
        + "all, together, 6 LOUDEST. BAD; NONE: (what 6) there are no HOUSES.");
    Trial none = new Trial(d);
    for (int what : new int[] {LEAST, NONE, -1, 7, 8, MOST}) {
      none.due(BAD, "terrace", what);
    }
    for (int what = 0; what < 6; what++) {
      none.due(0, "terrace", what);
    }
    none.due(NONE, "terrace", 6);
    Trial ten = Trial.withHouses(d, 10, EMPTY, 99, 0, 99).does("round");
    ten.due(0, "terrace", 2).due(1023, "terrace", 3).due(990, "terrace", 4).due(990, "terrace", 5);
    d.says(13, "One is COLD, if its COAL is 0.");
    for (int i = 0; i < 10; i++) {
      ten.does("set", i, 3, 1).due((1 << i) - 1, "terrace", 2).does("set", i, 3, 0).due((2 << i) - 1, "terrace", 2);
    }
    ten.due(0, "terrace", 4).due(990, "terrace", 5).does("set", 3, 1, 98).due(989, "terrace", 5);
  }

  private static void loudest() {
    d.says(13, "LOUDEST: the HOUSE with most HEARD; of several the least.");
    Trial t = new Trial(d).due(NONE, "terrace", 6).does("house", HOUSE, 0, 0, 0).due(0, "terrace", 6);
    t.does("house", HOUSE, 0, 0, 0).does("house", HOUSE, 0, 0, 0).due(0, "terrace", 6).does("set", 2, 4, 1);
    t.due(2, "terrace", 6).does("set", 1, 4, 1).due(1, "terrace", 6).does("set", 2, 4, 2).due(2, "terrace", 6);
    t.does("set", 0, 4, 9999).due(0, "terrace", 6).does("set", 2, 4, 9999).due(0, "terrace", 6).does("set", 0, 4, 9998);
    t.due(2, "terrace", 6);
  }
}
