import java.util.Arrays;

/**
 * A terrace of houses whose coal-hole plates fit as their people are straight; the slack ones clank of a
 * night. The document (DOC.md) says what each call promises; words in its capitals mean the same here.
 */
public final class CoalHoles {
  public static final int BAD = -1000000001, NO = -1000000002, FULL = -1000000003, NONE = -1000000005,
      NOTHING = -1000000011, KIND = -1000000012, INDEX = -1000000013, SIZE = -1000000014;

  private static final int HOUSES = 10;
  private static final int TOP = 99;
  private static final int MOST_HEARD = 9999;
  private static final int MOST_NOISE = 99999;
  private static final int LAST_NIGHT = 9999;
  private static final int FAR = 200;

  private static final int HOUSE = 0, CHAPEL = 1, LODGING = 2, MANSE = 3, CLUB = 4, EMPTY = 5, KINDS = 6;
  private static final int[] ABOVE = {-1, HOUSE, HOUSE, CHAPEL, LODGING, HOUSE};
  private static final int[] BURNS = {5, 3, 10, 4, 6, 0};

  private static final int EAR = 0, LOAD = 1, TREADS = 2;
  private static final int[] FIRST_RULES = {10, 20, 0};
  private static final int[] MOST_RULES = {99, 99, 100};

  private static final int TEXTS = 14;
  private static final int TAPE = 96;
  private static final int FED = 12;
  private static final int FIT = 0, FEE = 1, FINE = 2, KEYS = 3;
  private static final int S = 0, P = 1, C = 2, N = 3, O = 4, K = 5;
  private static final String NAMES = "spcnok";

  private static final int SHEETS = 4;
  private static final int PLACES = 24;
  private static final int MISSING = -1, SHORTS = 0, FLOATS = 1;
  private static final int MOST_FLOAT = 99999;

  private static final int SLOTS = 5;
  private static final int HOLDS_NOTHING = 0, HOLDS_HOUSE = 1, HOLDS_SHEET = 2, HOLDS_NUMBER = 3;

  private static final int WAITING = 60;

  private final Laws laws = new Laws();
  private final Terrace now = new Terrace(laws);
  private final Terrace image = new Terrace(laws);
  /** Where all is worked out that is only thought; made once, as a run has no room for many. */
  private final Terrace thought = new Terrace(laws);
  private boolean kept;
  private final Reader reader = new Reader();
  private final int[] tape = new int[TAPE];
  private int taped;
  private final Sheet[] sheets = new Sheet[SHEETS];
  private final Slot[] slots = new Slot[SLOTS];
  private final int[] waiting = new int[WAITING];
  private int waits;
  private final int[] differences = new int[HOUSES];

  public CoalHoles() {
    for (int i = 0; i < SHEETS; i++) {
      sheets[i] = new Sheet();
    }
    for (int i = 0; i < SLOTS; i++) {
      slots[i] = new Slot();
    }
  }

  // ---- houses

  public int house(int kind, int straight, int plate, int coal) {
    if (!isKind(kind) || !isWithin(straight, TOP) || !isWithin(plate, TOP) || !isWithin(coal, TOP)) {
      return BAD;
    }
    return now.houses < HOUSES ? now.build(kind, straight, plate, coal) : FULL;
  }

  public int told(int house, int what) {
    if (!now.has(house)) {
      return BAD;
    }
    switch (what) {
      case 0: return now.kinds[house];
      case 1: return now.straights[house];
      case 2: return now.plates[house];
      case 3: return now.coals[house];
      case 4: return now.heards[house];
      case 5: return now.slack(house);
      case 6: return now.bends(house);
      case 7: return now.burns(house);
      case 8: return worth(now.kinds[house], now.straights[house], now.coals[house], now.heards[house]);
      default: return BAD;
    }
  }

  public int as(int house, int kind) {
    if (!now.has(house) || !isKind(kind)) {
      return BAD;
    }
    return isOf(now.kinds[house], kind) ? now.straights[house] : KIND;
  }

  public int turns(int house, int kind) {
    if (!now.has(house) || !isKind(kind)) {
      return BAD;
    }
    int was = now.kinds[house];
    now.kinds[house] = kind;
    return was;
  }

  public int set(int house, int what, int v) {
    if (!now.has(house) || !isWithin(v, what == 4 ? MOST_HEARD : TOP)) {
      return BAD;
    }
    switch (what) {
      case 1: return replaced(now.straights, house, v);
      case 2: return replaced(now.plates, house, v);
      case 3: return replaced(now.coals, house, v);
      case 4: return replaced(now.heards, house, v);
      default: return BAD;
    }
  }

  public int rule(int what, int v) {
    if (what < 0 || what >= MOST_RULES.length || !isWithin(v, MOST_RULES[what])) {
      return BAD;
    }
    return replaced(now.rules, what, v);
  }

  public int deal(int n) {
    if (n < 1 || n > HOUSES) {
      return BAD;
    }
    int came = Math.min(n, HOUSES - now.houses);
    for (int i = 0; i < came; i++) {
      now.buildByLot();
    }
    return came;
  }

  public int seed(int v) {
    int was = now.z;
    now.z = v;
    return was;
  }

  // ---- nights

  public int round() {
    now.clank();
    return now.tune;
  }

  public int load(int house) {
    return now.has(house) ? now.deliver(house) : BAD;
  }

  public int nights(int n) {
    if (n < 1 || n > 100) {
      return BAD;
    }
    int before = now.noise;
    now.pass(Math.min(n, LAST_NIGHT - now.night));
    return now.noise - before;
  }

  public int terrace(int what) {
    if (what < 0 || what > 6) {
      return BAD;
    }
    if (what == 6) {
      return now.loudest();
    }
    return what == 5 ? now.total(now.straights) : now.reading(what);
  }

  // ---- what will be

  public int behind(int n, int what) {
    if (!isWithin(n, 100) || what < 0 || what >= 5 + now.houses) {
      return BAD;
    }
    thought.become(now);
    thought.pass(n);
    return what < 5 ? thought.reading(what) : thought.heards[what - 5];
  }

  public int cold(int house) {
    if (!now.has(house)) {
      return BAD;
    }
    thought.become(now);
    for (int n = 0; n < FAR && thought.coals[house] != 0; n++) {
      thought.pass(1);
    }
    return thought.coals[house] == 0 ? thought.night - now.night : NONE;
  }

  public int shut(int house) {
    if (!now.has(house)) {
      return BAD;
    }
    thought.become(now);
    for (int n = 0; n <= FAR; n++) {
      if (thought.slack(house) == 0) {
        return n;
      }
      thought.pass(1);
    }
    return NONE;
  }

  public int cement(int n) {
    if (!isWithin(n, 20)) {
      return BAD;
    }
    // But for a LODGING, no house's coal and straightness hang on the others: without the tune, it is loud or
    // not as it is in the set itself or not, and the tune can only make it louder.
    int others = ~now.those(LODGING);
    int useful = now.misfits();
    int must = loudWith(0, n, false) & others;
    int mustNot = loudWith(useful, n, false) & others;
    if ((must & mustNot) != 0 || now.houses > 0 && now.rules[EAR] == 0) {
      return NONE;
    }
    int may = useful & ~mustNot;
    int sets = 1 << now.houses;
    for (int many = Integer.bitCount(must); many <= now.houses; many++) {
      for (int set = must; set < sets; set++) {
        if ((set & may) == set && (set & must) == must && Integer.bitCount(set) == many
            && loudWith(set, n, true) == 0) {
          return set;
        }
      }
    }
    return NONE;
  }

  public int cast(int house, int n, int what) {
    if (!now.has(house) || n < 1 || n > 60 || !isWithin(what, 1)) {
      return BAD;
    }
    int bound = now.mostCoal(house, n);
    int best = 0;
    int most = -1;
    for (int plate = 0; plate <= TOP && most < bound; plate++) {
      thought.become(now);
      thought.plates[house] = plate;
      thought.pass(n);
      if (thought.coals[house] > most) {
        best = plate;
        most = thought.coals[house];
      }
    }
    return what == 0 ? best : most;
  }

  public int becomes(int house, int n, int what) {
    if (!now.has(house) || n < 1 || n > 60 || !isWithin(what, 1)) {
      return BAD;
    }
    int best = 0;
    int least = MOST_NOISE + 1;
    for (int kind = 0; kind < KINDS; kind++) {
      thought.become(now);
      thought.kinds[house] = kind;
      thought.pass(n);
      if (thought.noise < least) {
        best = kind;
        least = thought.noise;
      }
    }
    return what == 0 ? best : least;
  }

  public int ears(int n, int v) {
    if (!isWithin(n, 60) || !isWithin(v, MOST_NOISE)) {
      return BAD;
    }
    for (int ear = 0; ear <= TOP; ear++) {
      thought.become(now);
      thought.rules[EAR] = ear;
      // Noise never grows less: a run that is too loud need not go on.
      for (int k = 0; k < n && thought.noise <= v; k++) {
        thought.pass(1);
      }
      if (thought.noise <= v) {
        return ear;
      }
    }
    return NONE;
  }

  public int like(int sheet, int what) {
    Sheet row = sheetAt(sheet);
    if (row == null || !isWithin(what, 1)) {
      return BAD;
    }
    if (row.sort == MISSING) {
      return NOTHING;
    }
    if (now.houses == 0) {
      return NONE;
    }
    compare(row);
    int best = 0;
    for (int i = 1; i < now.houses; i++) {
      if (differences[i] < differences[best]) {
        best = i;
      }
    }
    return what == 0 ? best : differences[best];
  }

  public int fee() {
    return now.feeNow();
  }

  public int fine(int house) {
    return now.has(house) ? now.fineOf(house) : BAD;
  }

  // ---- texts

  public int feed(int a, int b, int c) {
    if (taped + FED > TAPE) {
      return FULL;
    }
    feedOne(a);
    feedOne(b);
    feedOne(c);
    return taped;
  }

  public int trim(int n) {
    if (!isWithin(n, taped)) {
      return BAD;
    }
    taped = n;
    return n;
  }

  public int text() {
    int fault = reader.faultOf(tape, taped);
    taped = 0;
    if (fault >= 0) {
      return -100 - fault;
    }
    int number = now.texts;
    if (number >= TEXTS) {
      return FULL;
    }
    laws.texts[number] = reader.asText();
    now.counting[reader.key] = number;
    now.texts = number + 1;
    return number;
  }

  public int textTold(int text, int what) {
    Text law = text < now.texts ? laws.at(text) : null;
    if (law == null || !isWithin(what, 1)) {
      return BAD;
    }
    return what == 0 ? law.key : law.pieces;
  }

  public int why(int key) {
    return key >= 0 && key < KEYS ? now.counting[key] : BAD;
  }

  // ---- sheets, slots

  public int sheet(int sheet, int sort, int n) {
    Sheet row = sheetAt(sheet);
    if (row == null || sort < MISSING || sort > FLOATS) {
      return BAD;
    }
    int places = sort == MISSING ? 0 : n;
    if (places > PLACES) {
      return BAD;
    }
    if (places < 0) {
      return SIZE;
    }
    row.clear(sort, places);
    return places;
  }

  public int mark(int sheet, int place, int v) {
    Sheet row = sheetAt(sheet);
    if (row == null) {
      return BAD;
    }
    if (row.sort == MISSING) {
      return NOTHING;
    }
    if (!row.has(place)) {
      return INDEX;
    }
    if (row.sort == SHORTS) {
      if (v == NONE) {
        return KIND;
      }
      row.places[place] = (short) v;
      return 1;
    }
    if (v != NONE && (v < -MOST_FLOAT || v > MOST_FLOAT)) {
      return BAD;
    }
    row.places[place] = v;
    return 1;
  }

  public int pour(int sheet) {
    Sheet row = sheetAt(sheet);
    if (row == null) {
      return BAD;
    }
    if (row.sort == MISSING) {
      return NOTHING;
    }
    int otherwise = 0;
    for (int i = 0; i < now.houses && i < row.length; i++) {
      if (row.isNumber(i)) {
        int plate = heldWithin(row.places[i]);
        otherwise += replaced(now.plates, i, plate) == plate ? 0 : 1;
      }
    }
    return otherwise;
  }

  public int reads(int sheet) {
    Sheet row = sheetAt(sheet);
    if (row == null) {
      return BAD;
    }
    if (row.sort == MISSING) {
      return NOTHING;
    }
    for (int i = 0; i < row.length; i++) {
      if (row.isNumber(i) && (!now.has(i) || row.places[i] != now.straights[i])) {
        return i;
      }
    }
    return NONE;
  }

  public int copy(int from, int place, int to, int at, int many) {
    Sheet source = sheetAt(from);
    Sheet target = sheetAt(to);
    if (source == null || target == null) {
      return BAD;
    }
    if (source.sort == MISSING || target.sort == MISSING) {
      return NOTHING;
    }
    if (source.sort != target.sort) {
      return KIND;
    }
    if (!source.hasMany(place, many) || !target.hasMany(at, many)) {
      return INDEX;
    }
    System.arraycopy(source.places, place, target.places, at, many);
    return many;
  }

  public int lay(int slot, int thing, int k) {
    Slot place = slotAt(slot);
    if (place == null || thing < HOLDS_NOTHING || thing > HOLDS_NUMBER) {
      return BAD;
    }
    if (thing == HOLDS_HOUSE && !now.has(k)) {
      return BAD;
    }
    Sheet row = sheetAt(k);
    if (thing == HOLDS_SHEET && row == null) {
      return BAD;
    }
    if (thing == HOLDS_SHEET && row.sort == MISSING) {
      return NOTHING;
    }
    int held = place.holds;
    place.holds = thing;
    if (thing == HOLDS_HOUSE) {
      place.takeHouse(now, k);
    } else if (thing == HOLDS_SHEET) {
      place.row.become(row);
    } else {
      place.number = k;
    }
    return held;
  }

  public int ask(int slot, int kind) {
    Slot place = slotAt(slot);
    if (place == null || !isKind(kind)) {
      return BAD;
    }
    if (place.holds == HOLDS_NOTHING) {
      return NOTHING;
    }
    if (place.holds != HOLDS_HOUSE || !isOf(place.kind, kind)) {
      return KIND;
    }
    return worth(place.kind, place.straight, place.coal, place.heard);
  }

  public int item(int slot, int place) {
    Slot held = slotAt(slot);
    if (held == null) {
      return BAD;
    }
    if (held.holds == HOLDS_NOTHING) {
      return NOTHING;
    }
    if (held.holds != HOLDS_SHEET) {
      return KIND;
    }
    if (!held.row.has(place)) {
      return INDEX;
    }
    return held.row.isNumber(place) ? held.row.places[place] : KIND;
  }

  public int rest(int slot, int n) {
    Slot held = slotAt(slot);
    if (held == null) {
      return BAD;
    }
    if (held.holds == HOLDS_NOTHING) {
      return NOTHING;
    }
    if (held.holds != HOLDS_NUMBER) {
      return KIND;
    }
    return n == 0 ? NO : held.number % n;
  }

  // ---- rows, images

  public int tell(int v) {
    if (waits >= WAITING) {
      return FULL;
    }
    waiting[waits] = v;
    waits++;
    return waits;
  }

  public int check(int n) {
    int many = waits;
    waits = 0;
    if (n < 1 || n > 30) {
      return BAD;
    }
    if (!kept) {
      return NO;
    }
    int due = 2 * Math.min(n, LAST_NIGHT - image.night);
    thought.become(image);
    for (int i = 0; i < due; i++) {
      if (i % 2 == 0) {
        thought.pass(1);
      }
      int number = i % 2 == 0 ? thought.noise : thought.total(thought.coals);
      if (i >= many || i >= WAITING || waiting[i] != number) {
        return 1 + i;
      }
    }
    return many > due ? 1 + due : 0;
  }

  public int keep() {
    image.become(now);
    kept = true;
    return image.houses;
  }

  public int back() {
    if (!kept) {
      return NO;
    }
    now.become(image);
    return now.houses;
  }

  public int count(int what) {
    switch (what) {
      case 0: return now.houses;
      case 1: return now.night;
      case 2: return now.rules[EAR];
      case 3: return now.rules[LOAD];
      case 4: return now.rules[TREADS];
      case 5: return now.texts;
      case 6: return waits;
      case 7: return taped;
      case 8: return now.z;
      default: return BAD;
    }
  }

  // ---- what the calls share

  /** Those that are loud behind n nights, if a set's plates are made to fit now; by the tune of then, or by none. */
  private int loudWith(int set, int n, boolean hearTheTune) {
    thought.become(now);
    for (int i = 0; i < thought.houses; i++) {
      if ((set >> i & 1) == 1) {
        thought.plates[i] = thought.straights[i];
      }
    }
    thought.pass(n);
    thought.tune = hearTheTune ? thought.tune : 0;
    thought.clank();
    return thought.tune;
  }

  /** One run of nights serves all houses, as none of them is changed in thought. */
  private void compare(Sheet row) {
    Arrays.fill(differences, 0);
    thought.become(now);
    for (int k = 0; k < row.length; k++) {
      for (int i = 0; i < now.houses && row.isNumber(k); i++) {
        differences[i] += Math.abs(thought.coals[i] - row.places[k]);
      }
      thought.pass(1);
    }
  }

  private void feedOne(int word) {
    for (int shift = 24; shift >= 0 && taped < TAPE; shift -= 8) {
      tape[taped] = word >>> shift & 255;
      taped++;
    }
  }

  private Sheet sheetAt(int k) {
    return k >= 0 && k < sheets.length ? sheets[k] : null;
  }

  private Slot slotAt(int k) {
    return k >= 0 && k < slots.length ? slots[k] : null;
  }

  private static boolean isKind(int kind) {
    return kind >= 0 && kind < KINDS;
  }

  private static boolean isWithin(int v, int most) {
    return v >= 0 && v <= most;
  }

  private static int heldWithin(int v) {
    return Math.max(0, Math.min(TOP, v));
  }

  private static int replaced(int[] row, int place, int v) {
    if (place < 0 || place >= row.length) {
      return BAD;
    }
    int was = row[place];
    row[place] = v;
    return was;
  }

  /** Whether kind is the wanted one or stands under it. */
  private static boolean isOf(int kind, int wanted) {
    int at = kind;
    for (int step = 0; step < KINDS && isKind(at); step++) {
      if (at == wanted) {
        return true;
      }
      at = ABOVE[at];
    }
    return false;
  }

  private static int worth(int kind, int straight, int coal, int heard) {
    switch (kind) {
      case CHAPEL: return coal + straight;
      case MANSE: return (coal + straight) / 2;
      case LODGING: return TOP - straight;
      case CLUB: return TOP - straight + 7;
      case EMPTY: return heard;
      default: return coal;
    }
  }

  /** All that an image keeps: the houses, the rules, the nights, z, and which texts count. */
  private static final class Terrace {
    private final Laws laws;
    private final int[] kinds = new int[HOUSES];
    private final int[] straights = new int[HOUSES];
    private final int[] plates = new int[HOUSES];
    private final int[] coals = new int[HOUSES];
    private final int[] heards = new int[HOUSES];
    private final int[] rules = FIRST_RULES.clone();
    private final int[] counting = {NONE, NONE, NONE};
    private int houses;
    private int texts;
    private int tune;
    private int noise;
    private int knocks;
    private int night;
    private int z = 1;

    private Terrace(Laws laws) {
      this.laws = laws;
    }

    private void become(Terrace other) {
      houses = other.houses;
      System.arraycopy(other.kinds, 0, kinds, 0, HOUSES);
      System.arraycopy(other.straights, 0, straights, 0, HOUSES);
      System.arraycopy(other.plates, 0, plates, 0, HOUSES);
      System.arraycopy(other.coals, 0, coals, 0, HOUSES);
      System.arraycopy(other.heards, 0, heards, 0, HOUSES);
      System.arraycopy(other.rules, 0, rules, 0, rules.length);
      System.arraycopy(other.counting, 0, counting, 0, KEYS);
      texts = other.texts;
      tune = other.tune;
      noise = other.noise;
      knocks = other.knocks;
      night = other.night;
      z = other.z;
    }

    private boolean has(int house) {
      return house >= 0 && house < houses;
    }

    private int build(int kind, int straight, int plate, int coal) {
      int i = houses;
      if (i >= HOUSES) {
        return FULL;
      }
      kinds[i] = kind;
      straights[i] = straight;
      plates[i] = plate;
      coals[i] = coal;
      heards[i] = 0;
      houses = i + 1;
      return i;
    }

    private void buildByLot() {
      int kind = draw() % KINDS;
      int straight = draw() % 100;
      int plate = draw() % 100;
      int coal = draw() % 100;
      build(kind, straight, plate, coal);
    }

    private int draw() {
      z = z * 1103515245 + 12345;
      return z >>> 8;
    }

    // The nights stand in one loop, without a method for one night, to keep the calls shallow.
    private void pass(int n) {
      for (int k = 0; k < n; k++) {
        clank();
        if (houses > 0) {
          deliver(night % houses);
        }
        burnAndBend();
        tread();
        night++;
      }
    }

    // The tune changes only behind the loop: each slack is told by the tune ahead of the round.
    private void clank() {
      int loud = 0;
      for (int i = 0; i < houses; i++) {
        if (slack(i) >= rules[EAR]) {
          loud |= 1 << i;
          heards[i] = Math.min(MOST_HEARD, heards[i] + 1);
        }
      }
      noise = Math.min(MOST_NOISE, noise + Integer.bitCount(loud));
      tune = loud;
    }

    private int deliver(int i) {
      if (slack(i) == 0) {
        knocks = Math.min(MOST_NOISE, knocks + 1);
        return 0;
      }
      int was = coals[i];
      coals[i] = Math.min(TOP, was + rules[LOAD]);
      return coals[i] - was;
    }

    private void burnAndBend() {
      for (int i = 0; i < houses; i++) {
        int bent = straights[i] + bends(i);
        coals[i] = Math.max(0, coals[i] - burns(i));
        straights[i] = heldWithin(bent);
      }
    }

    private void tread() {
      if (draw() % 100 < rules[TREADS] && houses > 0) {
        int trodden = draw() % houses;
        plates[trodden] = draw() % 100;
      }
    }

    private int slack(int i) {
      switch (kinds[i]) {
        case CHAPEL: return plain(i) / 2;
        case MANSE: return Math.max(0, plain(i) / 2 - 5);
        case LODGING: return Math.min(TOP, plain(i) + tuneBeside(i));
        case CLUB: return Math.min(TOP, Math.min(TOP, plain(i) + tuneBeside(i)) + 10);
        case EMPTY: return 50;
        default: return plain(i);
      }
    }

    private int tuneBeside(int i) {
      return 2 * Integer.bitCount(tune & ~(1 << i));
    }

    private int plain(int i) {
      Text fit = laws.at(counting[FIT]);
      if (fit == null) {
        return Math.abs(straights[i] - plates[i]);
      }
      int[] names = laws.names;
      names[S] = straights[i];
      names[P] = plates[i];
      names[C] = coals[i];
      names[N] = houses;
      return heldWithin(fit.value(names, laws.stack));
    }

    private int bends(int i) {
      switch (kinds[i]) {
        case CHAPEL: return 1;
        case MANSE: return 2;
        case LODGING: return -1 - coals[i] / 10;
        case CLUB: return 2 - coals[i] / 10;
        case EMPTY: return 0;
        default: return -1;
      }
    }

    private int burns(int i) {
      return isKind(kinds[i]) ? BURNS[kinds[i]] : 0;
    }

    private int feeNow() {
      Text fee = laws.at(counting[FEE]);
      if (fee == null) {
        return noise;
      }
      laws.names[O] = noise;
      laws.names[K] = knocks;
      return fee.value(laws.names, laws.stack);
    }

    private int fineOf(int i) {
      Text fine = laws.at(counting[FINE]);
      if (fine == null) {
        return coals[i];
      }
      laws.names[S] = straights[i];
      laws.names[C] = coals[i];
      return fine.value(laws.names, laws.stack);
    }

    /** What terrace and behind tell alike: 0 .. 4. */
    private int reading(int what) {
      switch (what) {
        case 0: return noise;
        case 1: return knocks;
        case 2: return coldOnes();
        case 3: return tune;
        case 4: return total(coals);
        default: return BAD;
      }
    }

    private int coldOnes() {
      int set = 0;
      for (int i = 0; i < houses; i++) {
        if (coals[i] == 0) {
          set |= 1 << i;
        }
      }
      return set;
    }

    private int total(int[] row) {
      int sum = 0;
      for (int i = 0; i < houses && i < row.length; i++) {
        sum += row[i];
      }
      return sum;
    }

    private int loudest() {
      int best = NONE;
      int most = -1;
      for (int i = 0; i < houses; i++) {
        if (heards[i] > most) {
          best = i;
          most = heards[i];
        }
      }
      return best;
    }

    private int those(int kind) {
      int set = 0;
      for (int i = 0; i < houses; i++) {
        if (kinds[i] == kind) {
          set |= 1 << i;
        }
      }
      return set;
    }

    /** What COAL of one is behind n nights at most: no plate brings more than all its deliveries. */
    private int mostCoal(int i, int n) {
      int coal = coals[i];
      for (int k = 0; k < n && houses > 0; k++) {
        if ((night + k) % houses == i) {
          coal = Math.min(TOP, coal + rules[LOAD]);
        }
        coal = Math.max(0, coal - burns(i));
      }
      return coal;
    }

    /** Those that a plate made to fit could change at all: the others are in no set of the fewest. */
    private int misfits() {
      int set = 0;
      for (int i = 0; i < houses; i++) {
        if (plates[i] != straights[i] && kinds[i] != EMPTY) {
          set |= 1 << i;
        }
      }
      return set;
    }
  }

  /** The texts that were told, and the rows in which they are worked out. */
  private static final class Laws {
    // An image shares these: texts below its own number are never written anew while it can come back.
    private final Text[] texts = new Text[TEXTS];
    private final int[] names = new int[NAMES.length()];
    private final int[] stack = new int[TAPE];

    private Text at(int number) {
      return number >= 0 && number < texts.length ? texts[number] : null;
    }
  }

  /** One text, as a row of codes in which each sign stands behind its sides. */
  private static final class Text {
    /** Codes below NAME are numbers, from NAME on names, from SIGN on signs. */
    private static final int NAME = 10000, SIGN = 20000;

    private final int key;
    private final int pieces;
    private final int[] codes;

    private Text(int key, int pieces, int[] codes) {
      this.key = key;
      this.pieces = pieces;
      this.codes = codes;
    }

    private int value(int[] names, int[] stack) {
      int top = 0;
      for (int i = 0; i < codes.length; i++) {
        int code = codes[i];
        if (code < SIGN) {
          if (top < stack.length) {
            stack[top] = code < NAME ? code : named(names, code - NAME);
            top++;
          }
        } else if (code == SIGN + '!') {
          if (top > 0) {
            stack[top - 1] = stack[top - 1] == 0 ? 1 : 0;
          }
        } else if (top > 1) {
          top--;
          stack[top - 1] = joined(code - SIGN, stack[top - 1], stack[top]);
        }
      }
      return top > 0 ? stack[top - 1] : 0;
    }

    private static int named(int[] names, int k) {
      return k >= 0 && k < names.length ? names[k] : 0;
    }

    private static int joined(int sign, int a, int b) {
      switch (sign) {
        case '|': return a != 0 || b != 0 ? 1 : 0;
        case '&': return a != 0 && b != 0 ? 1 : 0;
        case '<': return a < b ? 1 : 0;
        case '=': return a == b ? 1 : 0;
        case '>': return a > b ? 1 : 0;
        case '+': return a + b;
        case '-': return a - b;
        case '*': return a * b;
        case '/': return b == 0 ? 0 : a / b;
        default: return 0;
      }
    }
  }

  /** Reads the tape as a text: finds its fault, or writes its codes. */
  private static final class Reader {
    private static final int NESTED = 8;
    private static final int LONGEST_NUMBER = 4;
    /** What may come next: a piece, or a sign behind one; or nothing, as there is a fault. */
    private static final int PIECE = 0, SIGN = 1, FAULT = 2;
    private static final int TESTS = 3;
    private static final int FIT_WORD = 0x666974, FEE_WORD = 0x666565, FINE_WORD = 0x66696e65;

    private final int[] codes = new int[TAPE];
    /** Signs that still wait for their right side, brackets and ! among them. */
    private final int[] open = new int[TAPE];
    private int written;
    private int opened;
    private int brackets;
    private int nots;
    private int pieces;
    private int key;

    /** The place of the fault in the tape's first bytes, or -1. */
    private int faultOf(int[] tape, int length) {
      written = 0;
      opened = 0;
      brackets = 0;
      nots = 0;
      pieces = 0;
      int place = pastBlanks(tape, length, 0);
      int end = endOf(tape, length, place);
      key = keyOf(tape, place, end);
      if (key < 0) {
        return place;
      }
      int next = PIECE;
      for (int turn = 0; turn < length && end < length; turn++) {
        boolean behindWord = isWord(tape[end - 1]);
        place = pastBlanks(tape, length, end);
        if (place >= length) {
          break;
        }
        if (place == end && behindWord && isWord(tape[place])) {
          return place;
        }
        end = endOf(tape, length, place);
        next = next == PIECE ? takePiece(tape, place, end) : takeSign(tape[place]);
        if (next == FAULT) {
          return place;
        }
      }
      if (next == PIECE || brackets > 0) {
        return length;
      }
      closeDownTo(1);
      return -1;
    }

    private Text asText() {
      return new Text(key, pieces, Arrays.copyOf(codes, written));
    }

    private static int pastBlanks(int[] tape, int length, int from) {
      int place = from;
      while (place < length && tape[place] == ' ') {
        place++;
      }
      return place;
    }

    /** Behind the word or sign that begins at a place. */
    private static int endOf(int[] tape, int length, int place) {
      int end = place;
      if (end < length && isLetter(tape[end])) {
        while (end < length && isLetter(tape[end])) {
          end++;
        }
        return end;
      }
      while (end < length && isDigit(tape[end])) {
        end++;
      }
      return end > place ? end : Math.min(length, place + 1);
    }

    private static int keyOf(int[] tape, int place, int end) {
      int word = 0;
      for (int i = place; i < end && end - place <= 4; i++) {
        word = word << 8 | tape[i];
      }
      switch (word) {
        case FIT_WORD: return FIT;
        case FEE_WORD: return FEE;
        case FINE_WORD: return FINE;
        default: return -1;
      }
    }

    private int takePiece(int[] tape, int place, int end) {
      int first = tape[place];
      if (isLetter(first)) {
        return end - place == 1 && namesOf(key).indexOf((char) first) >= 0
            ? takeValue(Text.NAME + NAMES.indexOf((char) first)) : FAULT;
      }
      if (isDigit(first)) {
        return end - place <= LONGEST_NUMBER ? takeValue(numberOf(tape, place, end)) : FAULT;
      }
      if (first == '(' && brackets < NESTED) {
        brackets++;
        leaveOpen(first);
        return PIECE;
      }
      if (first == '!' && nots < NESTED) {
        nots++;
        leaveOpen(first);
        return PIECE;
      }
      return FAULT;
    }

    private int takeValue(int code) {
      pieces++;
      write(code);
      closeNots();
      return SIGN;
    }

    private int takeSign(int sign) {
      if (sign == ')') {
        return takeBracket();
      }
      int rank = rankOf(sign);
      if (rank == 0) {
        return FAULT;
      }
      closeDownTo(rank + 1);
      if (rank == TESTS && opened > 0 && rankOf(open[opened - 1]) == TESTS) {
        return FAULT;
      }
      closeDownTo(rank);
      leaveOpen(sign);
      return PIECE;
    }

    private int takeBracket() {
      if (brackets == 0) {
        return FAULT;
      }
      closeDownTo(1);
      brackets--;
      opened = Math.max(0, opened - 1);
      closeNots();
      return SIGN;
    }

    /** Writes the waiting signs of a rank or a tighter one; a bracket has the rank 0. */
    private void closeDownTo(int rank) {
      while (opened > 0 && rankOf(open[opened - 1]) >= rank) {
        opened--;
        write(Text.SIGN + open[opened]);
      }
    }

    private void closeNots() {
      while (opened > 0 && open[opened - 1] == '!') {
        opened--;
        nots--;
        write(Text.SIGN + '!');
      }
    }

    private void leaveOpen(int sign) {
      if (opened < open.length) {
        open[opened] = sign;
        opened++;
      }
    }

    private void write(int code) {
      if (written < codes.length) {
        codes[written] = code;
        written++;
      }
    }

    /** How tight a sign between two sides binds; 0: it is none. */
    private static int rankOf(int sign) {
      switch (sign) {
        case '|': return 1;
        case '&': return 2;
        case '<': case '=': case '>': return TESTS;
        case '+': case '-': return 4;
        case '*': case '/': return 5;
        default: return 0;
      }
    }

    private static String namesOf(int key) {
      switch (key) {
        case FIT: return "spcn";
        case FEE: return "ok";
        default: return "sc";
      }
    }

    private static int numberOf(int[] tape, int place, int end) {
      int number = 0;
      for (int i = place; i < end; i++) {
        number = number * 10 + tape[i] - '0';
      }
      return number;
    }

    private static boolean isLetter(int b) {
      return b >= 'a' && b <= 'z';
    }

    private static boolean isDigit(int b) {
      return b >= '0' && b <= '9';
    }

    private static boolean isWord(int b) {
      return isLetter(b) || isDigit(b);
    }
  }

  /** A row of shorts or of floats; a place of NONE is NO NUMBER. */
  private static final class Sheet {
    // Floats are whole and below 100000, so that ints hold both sorts.
    private final int[] places = new int[PLACES];
    private int sort = MISSING;
    private int length;

    private void clear(int sort, int length) {
      this.sort = sort;
      this.length = length;
      Arrays.fill(places, 0);
    }

    private void become(Sheet other) {
      sort = other.sort;
      length = other.length;
      System.arraycopy(other.places, 0, places, 0, PLACES);
    }

    private boolean has(int place) {
      return place >= 0 && place < length;
    }

    private boolean hasMany(int place, int many) {
      return place >= 0 && many >= 0 && place <= length - many;
    }

    private boolean isNumber(int place) {
      return has(place) && places[place] != NONE;
    }
  }

  /** What a slot holds, by worth: a house as it was, a row of its own, or a number. */
  private static final class Slot {
    private int holds = HOLDS_NOTHING;
    private int kind;
    private int straight;
    private int coal;
    private int heard;
    private int number;
    private final Sheet row = new Sheet();

    private void takeHouse(Terrace from, int i) {
      if (from.has(i)) {
        kind = from.kinds[i];
        straight = from.straights[i];
        coal = from.coals[i];
        heard = from.heards[i];
      }
    }
  }
}
