/** The boundary cases of houses: promises 1 to 9, and what the document tells of HOUSES, KINDS and draws. */
public final class HouseEdges {
  private static final int BAD = Due.BAD, NO = Due.NO, FULL = Due.FULL, NONE = Due.NONE, NOTHING = Due.NOTHING;
  private static final int KIND = Due.KIND, LEAST = Due.LEAST, MOST = Due.MOST;
  private static final int HOUSE = 0, CHAPEL = 1, LODGING = 2, MANSE = 3, CLUB = 4, EMPTY = 5;
  private static final int[] FAR_OFF = {LEAST, LEAST + 1, NONE, -100, -1};

  private static final Due d = new Due();

  public static void main(String[] args) {
    newObject();
    house();
    houseNumbers();
    told();
    plainFit();
    slackOfChapelAndManse();
    slackOfLodgingAndClub();
    slackOfEmpty();
    bends();
    burns();
    worth();
    as();
    turns();
    set();
    rule();
    deal();
    seed();
    drawsWrap();
    d.end();
  }

  private static void newObject() {
    d.says(1, "As told; no HOUSES.");
    Trial t = new Trial(d).due(0, "count", 0);
    d.says(1, "RULES: 0 EAR 0 .. 99 (10 at first), 1 LOAD 0 .. 99 (20), 2 TREADS 0 .. 100 (0).");
    t.due(10, "count", 2).due(20, "count", 3).due(0, "count", 4);
    d.says(1, "THE TUNE (which clanked last, as a set; none at first).");
    t.due(0, "terrace", 3);
    d.says(1, "NOISE, KNOCKS are 0 at first, 99999 at most; THE NIGHT is 0 at first, 9999 at most.");
    t.due(0, "terrace", 0).due(0, "terrace", 1).due(0, "count", 1);
    d.says(1, "z is told (1 at first).");
    t.due(1, "count", 8);
    d.says(1, "with 0 to 24 places, or MISSING (at first).");
    for (int sheet = 0; sheet < 4; sheet++) {
      t.due(NOTHING, "reads", sheet);
    }
    d.says(1, "SLOTS 0 .. 4 each hold nothing (at first)");
    for (int slot = 0; slot < 5; slot++) {
      t.due(NOTHING, "rest", slot, 1).due(0, "lay", slot, 0, 0);
    }
    d.says(1, "As told; no HOUSES.");
    t.due(0, "count", 5).due(0, "count", 6).due(0, "count", 7);
    t.due(NONE, "why", 0).due(NONE, "why", 1).due(NONE, "why", 2);
    t.due(NO, "back").due(NO, "check", 1);
    t.due(0, "terrace", 2).due(0, "terrace", 4).due(0, "terrace", 5).due(NONE, "terrace", 6);
  }

  private static void house() {
    d.says(2, "One more of HOUSES: its number. BAD; FULL.");
    Trial t = new Trial(d);
    for (int far : FAR_OFF) {
      t.due(BAD, "house", far, 0, 0, 0).due(BAD, "house", 0, far, 0, 0);
      t.due(BAD, "house", 0, 0, far, 0).due(BAD, "house", 0, 0, 0, far);
    }
    d.says(2, "STRAIGHT 0 .. 99, a PLATE 0 .. 99, COAL 0 .. 99");
    for (int beyond : new int[] {100, 101, 65536, MOST}) {
      t.due(BAD, "house", 0, beyond, 0, 0).due(BAD, "house", 0, 0, beyond, 0).due(BAD, "house", 0, 0, 0, beyond);
      t.due(BAD, "house", beyond, 0, 0, 0);
    }
    t.due(BAD, "house", 6, 0, 0, 0).due(0, "count", 0);
    t.due(0, "house", 0, 0, 0, 0).due(1, "house", 5, 99, 99, 99);
    t.due(0, "told", 0, 1).due(0, "told", 0, 2).due(0, "told", 0, 3);
    t.due(99, "told", 1, 1).due(99, "told", 1, 2).due(99, "told", 1, 3);
  }

  private static void houseNumbers() {
    d.says(2, "HOUSES, 10 at most, numbered from 0");
    Trial t = new Trial(d);
    for (int i = 0; i < 10; i++) {
      t.due(i, "house", i % 6, 9 * i, i, 1 + i);
    }
    t.due(FULL, "house", 0, 1, 1, 1).due(10, "count", 0).due(FULL, "house", 5, 99, 99, 99).due(10, "count", 0);
    for (int i = 0; i < 10; i++) {
      t.due(i % 6, "told", i, 0).due(9 * i, "told", i, 1).due(i, "told", i, 2).due(1 + i, "told", i, 3);
    }
    d.says(2, "of several the one that stands first with it");
    t.due(BAD, "house", 6, 0, 0, 0).due(BAD, "house", 0, 100, 0, 0);
    t.due(BAD, "house", 0, 0, -1, 0).due(BAD, "house", 0, 0, 0, 100);
    d.says(2, "HEARD 0 .. 9999 (how often; 0 at first)");
    // A house that comes where one was ahead of the image's return is a new one.
    Trial again = new Trial(d).does("keep").does("house", 0, 1, 1, 1).does("set", 0, 4, 55).due(55, "told", 0, 4);
    again.due(0, "back").due(0, "house", 0, 1, 1, 1).due(0, "told", 0, 4);
    again.does("set", 0, 4, 55).due(0, "back").does("deal", 1).due(0, "told", 0, 4);
  }

  private static void told() {
    d.says(3, "Of one: what 0 KIND, 1 STRAIGHT, 2 PLATE, 3 COAL, 4 HEARD, 5 SLACK, 6 what it BENDS, 7 what it BURNS, "
        + "8 WORTH. BAD.");
    Trial none = new Trial(d).due(BAD, "told", 0, 0).due(BAD, "told", -1, 0);
    none.does("house", CHAPEL, 40, 31, 7).due(BAD, "told", 1, 0).due(BAD, "told", -1, 0);
    for (int far : FAR_OFF) {
      none.due(BAD, "told", far, 0).due(BAD, "told", 0, far).due(BAD, "told", far, far);
    }
    none.due(BAD, "told", 0, 9).due(BAD, "told", 0, MOST).due(BAD, "told", MOST, 0).due(BAD, "told", 10, 0);
    int[] want = {CHAPEL, 40, 31, 7, 0, 4, 1, 3, 47};
    for (int what = 0; what < want.length; what++) {
      none.due(want[what], "told", 0, what);
    }
  }

  /** The slack of a HOUSE by a text. */
  private static void plainDue(int want, String fit) {
    new Trial(d).does("house", HOUSE, 60, 70, 80).tells(fit).due(want, "told", 0, 5);
  }

  private static void plainFit() {
    d.says(3, "PLAIN fit: what fit gives, held within 0 and 99");
    plainDue(0, "fit 0 - 1");
    plainDue(0, "fit 0");
    plainDue(1, "fit 1");
    plainDue(98, "fit 98");
    plainDue(99, "fit 99");
    plainDue(99, "fit 100");
    plainDue(0, "fit 2048 * 1024 * 1024");
    plainDue(99, "fit 2048 * 1024 * 1024 - 1");
    d.says(3, "CHAPEL: half (cut) of as HOUSE.");
    // Held within first, and halved then.
    new Trial(d).does("house", CHAPEL, 0, 0, 0).tells("fit 150").due(49, "told", 0, 5);
    d.says(3, "LODGING: as HOUSE, and 2 for each other HOUSE (of any KIND) in THE TUNE (99 at most).");
    Trial.withHouses(d, 3, LODGING, 50, 0, 0).does("round").tells("fit 0 - 10").due(4, "told", 0, 5);
    d.says(3, "(without a TEXT: by how much STRAIGHT and PLATE differ, signs left out)");
    new Trial(d).does("house", HOUSE, 0, 99, 0).due(99, "told", 0, 5).does("set", 0, 1, 99).due(0, "told", 0, 5)
        .does("set", 0, 2, 0).due(99, "told", 0, 5).does("set", 0, 2, 98).due(1, "told", 0, 5);
  }

  private static void slackOfChapelAndManse() {
    d.says(3, "CHAPEL: half (cut) of as HOUSE. MANSE: as CHAPEL, less 5 (0 at least).");
    int[][] rows = {{0, 0, 0}, {1, 0, 0}, {2, 1, 0}, {9, 4, 0}, {10, 5, 0}, {11, 5, 0}, {12, 6, 1}, {13, 6, 1},
        {98, 49, 44}, {99, 49, 44}};
    for (int[] row : rows) {
      new Trial(d).does("house", CHAPEL, 0, row[0], 0).does("house", MANSE, row[0], 0, 0)
          .due(row[1], "told", 0, 5).due(row[2], "told", 1, 5);
    }
  }

  private static void slackOfLodgingAndClub() {
    d.says(3, "LODGING: as HOUSE, and 2 for each other HOUSE (of any KIND) in THE TUNE (99 at most).");
    // All ten clank: nine others, of each KIND, and not itself.
    Trial t = new Trial(d).does("rule", 0, 0).does("house", LODGING, 50, 50, 0).does("house", CLUB, 50, 50, 0);
    for (int i = 0; i < 8; i++) {
      t.does("house", i % 6, 50, 50, 0);
    }
    t.due(0, "told", 0, 5).due(10, "told", 1, 5).due(1023, "round").due(18, "told", 0, 5).due(28, "told", 1, 5);
    int[][] rows = {{80, 98}, {81, 99}, {82, 99}, {99, 99}};
    for (int[] row : rows) {
      t.does("set", 0, 1, row[0]).does("set", 0, 2, 0).due(row[1], "told", 0, 5);
    }
    d.says(3, "CLUB: as LODGING, and 10 (99 at most).");
    int[][] clubs = {{70, 98}, {71, 99}, {72, 99}, {81, 99}, {82, 99}, {99, 99}};
    for (int[] row : clubs) {
      t.does("set", 1, 1, 0).does("set", 1, 2, row[0]).due(row[1], "told", 1, 5);
    }
    // Alone in the tune there is no other.
    Trial alone = new Trial(d).does("house", LODGING, 90, 0, 0).due(1, "round").due(90, "told", 0, 5);
    alone.does("turns", 0, CLUB).does("set", 0, 2, 1).due(99, "told", 0, 5).does("set", 0, 2, 2).due(98, "told", 0, 5);
  }

  private static void slackOfEmpty() {
    d.says(3, "EMPTY: 50.");
    Trial t = Trial.withHouses(d, 3, EMPTY, 0, 99, 0).due(50, "told", 0, 5).does("round").due(50, "told", 0, 5);
    t.tells("fit 0").due(50, "told", 0, 5).tells("fit 99").due(50, "told", 0, 5).does("set", 0, 2, 0).due(50, "told", 0, 5);
  }

  private static void bends() {
    d.says(3, "BENDS (STRAIGHT by a night; may be below 0): HOUSE: 0 less 1. CHAPEL: as HOUSE, and 2. "
        + "MANSE: twice as CHAPEL. LODGING: as HOUSE, less a tenth (cut) of COAL. CLUB: as LODGING, and 3. EMPTY: 0.");
    Trial t = new Trial(d);
    for (int kind = 0; kind < 6; kind++) {
      t.does("house", kind, 50, 50, 0);
    }
    int[][] rows = {{0, -1, 1, -1, 2, 2, 0}, {9, -1, 1, -1, 2, 2, 0}, {10, -1, 1, -2, 2, 1, 0}, {19, -1, 1, -2, 2, 1, 0},
        {20, -1, 1, -3, 2, 0, 0}, {30, -1, 1, -4, 2, -1, 0}, {89, -1, 1, -9, 2, -6, 0}, {90, -1, 1, -10, 2, -7, 0},
        {99, -1, 1, -10, 2, -7, 0}};
    for (int[] row : rows) {
      for (int kind = 0; kind < 6; kind++) {
        t.does("set", kind, 3, row[0]).due(row[1 + kind], "told", kind, 6);
      }
    }
  }

  private static void burns() {
    d.says(3, "BURNS (COAL by a night): HOUSE: 5. CHAPEL: as HOUSE, less 2. MANSE: as CHAPEL, and 1. "
        + "LODGING: twice as HOUSE. CLUB: as LODGING, less 4. EMPTY: 0.");
    int[] want = {5, 3, 10, 4, 6, 0};
    Trial t = new Trial(d).does("house", 0, 0, 0, 0);
    for (int kind = 0; kind < 6; kind++) {
      // What it burns is told whether it has so much or not.
      t.does("turns", 0, kind).does("set", 0, 3, 0).due(want[kind], "told", 0, 7);
      t.does("set", 0, 3, 99).due(want[kind], "told", 0, 7);
    }
  }

  private static void worth() {
    d.says(3, "WORTH: HOUSE: COAL. CHAPEL: as HOUSE, and STRAIGHT. MANSE: half (cut) of as CHAPEL. "
        + "LODGING: 99 less STRAIGHT. CLUB: as LODGING, and 7. EMPTY: HEARD.");
    Trial t = new Trial(d).does("house", 0, 0, 0, 0);
    // STRAIGHT, COAL, HEARD, and what each KIND is worth then.
    int[][] rows = {{0, 0, 0, 0, 0, 99, 0, 106, 0}, {99, 99, 9999, 99, 198, 0, 99, 7, 9999},
        {0, 1, 1, 1, 1, 99, 0, 106, 1}, {1, 0, 2, 0, 1, 98, 0, 105, 2}, {98, 99, 7, 99, 197, 1, 98, 8, 7}};
    for (int[] row : rows) {
      t.does("set", 0, 1, row[0]).does("set", 0, 3, row[1]).does("set", 0, 4, row[2]);
      for (int kind = 0; kind < 6; kind++) {
        t.does("turns", 0, kind).due(row[3 + kind], "told", 0, 8);
      }
    }
  }

  private static void as() {
    d.says(4, "One as one of a KIND: STRAIGHT. BAD: house, kind; KIND: it is not of that KIND, nor of one under it.");
    new Trial(d).due(BAD, "as", 0, 0).due(BAD, "as", 0, 6);
    Trial t = new Trial(d);
    for (int kind = 0; kind < 6; kind++) {
      t.does("house", kind, 99 * (kind % 2), 0, 0);
    }
    for (int far : FAR_OFF) {
      t.due(BAD, "as", far, 0).due(BAD, "as", 0, far);
    }
    t.due(BAD, "as", 6, 0).due(BAD, "as", MOST, 0).due(BAD, "as", 0, 6).due(BAD, "as", 0, MOST);
    d.says(4, "0 HOUSE; 1 CHAPEL, 2 LODGING, 5 EMPTY, under HOUSE; 3 MANSE, under CHAPEL; 4 CLUB, under LODGING "
        + "(all are HOUSES)");
    String[] under = {"0", "01", "02", "013", "024", "05"};
    for (int kind = 0; kind < 6; kind++) {
      for (int as = 0; as < 6; as++) {
        t.due(under[kind].indexOf('0' + as) >= 0 ? 99 * (kind % 2) : KIND, "as", kind, as);
      }
    }
    d.says(4, "of several the one that stands first with it");
    t.due(BAD, "as", 6, 1).due(BAD, "as", 0, 7);
  }

  private static void turns() {
    d.says(5, "One is of another KIND from now on: what it was. BAD.");
    new Trial(d).due(BAD, "turns", 0, 0);
    Trial t = new Trial(d).does("house", 0, 12, 34, 56).does("set", 0, 4, 78);
    for (int far : FAR_OFF) {
      t.due(BAD, "turns", far, 1).due(BAD, "turns", 0, far);
    }
    t.due(BAD, "turns", 1, 1).due(BAD, "turns", MOST, 1).due(BAD, "turns", 0, 6).due(BAD, "turns", 0, MOST);
    t.due(0, "told", 0, 0);
    for (int kind = 1; kind < 6; kind++) {
      t.due(kind - 1, "turns", 0, kind).due(kind, "told", 0, 0);
    }
    t.due(5, "turns", 0, 5).due(5, "turns", 0, 0).due(0, "told", 0, 0);
    t.due(12, "told", 0, 1).due(34, "told", 0, 2).due(56, "told", 0, 3).due(78, "told", 0, 4);
  }

  private static void set() {
    d.says(6, "STRAIGHT (what 1), PLATE (2), COAL (3), HEARD (4) of one becomes v: what it was. BAD.");
    new Trial(d).due(BAD, "set", 0, 1, 0);
    Trial t = Trial.withHouses(d, 2, 0, 10, 20, 30);
    int[] was = {0, 10, 20, 30, 0};
    for (int what = 1; what <= 4; what++) {
      int most = what == 4 ? 9999 : 99;
      for (int far : FAR_OFF) {
        t.due(BAD, "set", 1, what, far);
      }
      t.due(BAD, "set", 1, what, most + 1).due(BAD, "set", 1, what, MOST).due(was[what], "told", 1, what);
      t.due(was[what], "set", 1, what, most).due(most, "set", 1, what, 0).due(0, "set", 1, what, most);
      t.due(most, "told", 1, what).due(was[what], "told", 0, what);
    }
    for (int what : new int[] {LEAST, -1, 0, 5, 6, MOST}) {
      t.due(BAD, "set", 1, what, 1);
    }
    t.due(0, "told", 1, 0);
    for (int house : new int[] {LEAST, -1, 2, 10, MOST}) {
      t.due(BAD, "set", house, 1, 1);
    }
  }

  private static void rule() {
    d.says(7, "A RULE becomes v: what it was. BAD.");
    Trial t = new Trial(d);
    int[] first = {10, 20, 0};
    int[] most = {99, 99, 100};
    for (int what = 0; what < 3; what++) {
      for (int far : FAR_OFF) {
        t.due(BAD, "rule", what, far);
      }
      t.due(BAD, "rule", what, most[what] + 1).due(BAD, "rule", what, MOST).due(first[what], "count", 2 + what);
      t.due(first[what], "rule", what, most[what]).due(most[what], "count", 2 + what);
      t.due(most[what], "rule", what, 0).due(0, "count", 2 + what).due(0, "rule", what, 1).due(1, "count", 2 + what);
    }
    for (int what : new int[] {LEAST, -1, 3, 4, MOST}) {
      t.due(BAD, "rule", what, 0);
    }
  }

  private static void deal() {
    d.says(8, "HOUSES are drawn, n (1 .. 10) of them, as many as there is room for (no draws for others): how many "
        + "came. BAD.");
    Trial t = new Trial(d);
    for (int far : FAR_OFF) {
      t.due(BAD, "deal", far);
    }
    t.due(BAD, "deal", 0).due(BAD, "deal", 11).due(BAD, "deal", MOST).due(1, "count", 8).due(0, "count", 0);
    t.due(1, "deal", 1).due(1, "count", 0).due(drawn(1, 4), "count", 8);
    t.due(9, "deal", 10).due(10, "count", 0).due(drawn(1, 40), "count", 8);
    t.due(0, "deal", 1).due(0, "deal", 10).due(10, "count", 0).due(drawn(1, 40), "count", 8);
    t.due(BAD, "deal", 0).due(BAD, "deal", 11);
    new Trial(d).due(10, "deal", 10).due(10, "count", 0);
    d.says(8, "HOUSES that are drawn: KIND the rest of a draw by 6, STRAIGHT that of one more by 100, PLATE that of one "
        + "more by 100, COAL that of one more by 100.");
    for (int i = 0; i < 10; i++) {
      for (int what = 0; what < 4; what++) {
        t.due(given(drawn(1, 4 * i + what + 1)) % (what == 0 ? 6 : 100), "told", i, what);
      }
    }
  }

  private static void seed() {
    d.says(9, "z becomes v: what it was.");
    new Trial(d).due(1, "seed", 0).due(0, "count", 8).due(0, "seed", LEAST).due(LEAST, "count", 8)
        .due(LEAST, "seed", MOST).due(MOST, "seed", -1).due(-1, "seed", BAD).due(BAD, "seed", 7).due(7, "count", 8);
  }

  private static void drawsWrap() {
    d.says(9, "A draw: z becomes z * 1103515245 + 12345 (an int); it gives z >>> 8.");
    boolean below = false;
    for (int z : new int[] {0, 1, -1, LEAST, MOST, 2, 12345, -987654321}) {
      Trial t = new Trial(d).does("seed", z).due(1, "deal", 1).due(drawn(z, 4), "count", 8);
      for (int what = 0; what < 4; what++) {
        below |= drawn(z, what + 1) < 0;
        t.due(given(drawn(z, what + 1)) % (what == 0 ? 6 : 100), "told", 0, what);
      }
    }
    d.holds("some z is below 0", below);
  }

  /** z behind so many draws, worked out in longs. */
  private static int drawn(int z, int draws) {
    long wide = z & 0xffffffffL;
    for (int i = 0; i < draws; i++) {
      wide = wide * 1103515245L + 12345L & 0xffffffffL;
    }
    return (int) wide;
  }

  private static int given(int z) {
    return (int) ((z & 0xffffffffL) / 256);
  }
}
