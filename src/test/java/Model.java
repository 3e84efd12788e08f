import java.util.ArrayList;
import java.util.Arrays;
import java.util.List;

/**
 * A second writing of the document, to hold the program's answers against: slow and plain, with a class for
 * each KIND and a reader of texts that goes down by the grammar. Its calls are found by name.
 */
final class Model {
  private static final int BAD = Due.BAD, NO = Due.NO, FULL = Due.FULL, NONE = Due.NONE, NOTHING = Due.NOTHING;
  private static final int KIND = Due.KIND, INDEX = Due.INDEX, SIZE = Due.SIZE;

  State now = new State();
  State image;
  String tape = "";
  Row[] sheets = new Row[4];
  Object[] slots = new Object[5];
  List<Integer> waiting = new ArrayList<>();

  private boolean in(int v, int least, int most) {
    return v >= least && v <= most;
  }

  private boolean isHouse(int i) {
    return in(i, 0, now.houses.size() - 1);
  }

  private boolean isUnder(House h, int kind) {
    return House.of(kind).getClass().isInstance(h);
  }

  int house(int kind, int straight, int plate, int coal) {
    if (!in(kind, 0, 5) || !in(straight, 0, 99) || !in(plate, 0, 99) || !in(coal, 0, 99)) {
      return BAD;
    }
    if (now.houses.size() == 10) {
      return FULL;
    }
    House h = House.of(kind);
    h.straight = straight;
    h.plate = plate;
    h.coal = coal;
    now.houses.add(h);
    return now.houses.size() - 1;
  }

  int told(int house, int what) {
    if (!isHouse(house) || !in(what, 0, 8)) {
      return BAD;
    }
    House h = now.houses.get(house);
    return new int[] {h.number(), h.straight, h.plate, h.coal, h.heard, now.slack(house), h.bends(), h.burns(),
        h.worth()}[what];
  }

  int as(int house, int kind) {
    if (!isHouse(house) || !in(kind, 0, 5)) {
      return BAD;
    }
    return isUnder(now.houses.get(house), kind) ? now.houses.get(house).straight : KIND;
  }

  int turns(int house, int kind) {
    if (!isHouse(house) || !in(kind, 0, 5)) {
      return BAD;
    }
    House was = now.houses.get(house);
    now.houses.set(house, was.as(kind));
    return was.number();
  }

  int set(int house, int what, int v) {
    if (!isHouse(house) || !in(what, 1, 4) || !in(v, 0, what == 4 ? 9999 : 99)) {
      return BAD;
    }
    int was = told(house, what);
    House h = now.houses.get(house);
    h.straight = what == 1 ? v : h.straight;
    h.plate = what == 2 ? v : h.plate;
    h.coal = what == 3 ? v : h.coal;
    h.heard = what == 4 ? v : h.heard;
    return was;
  }

  int rule(int what, int v) {
    if (!in(what, 0, 2) || !in(v, 0, what == 2 ? 100 : 99)) {
      return BAD;
    }
    int was = count(2 + what);
    now.ear = what == 0 ? v : now.ear;
    now.load = what == 1 ? v : now.load;
    now.treads = what == 2 ? v : now.treads;
    return was;
  }

  int deal(int n) {
    if (!in(n, 1, 10)) {
      return BAD;
    }
    int came = 0;
    while (came < n && now.houses.size() < 10) {
      int kind = now.draw() % 6;
      int straight = now.draw() % 100;
      int plate = now.draw() % 100;
      house(kind, straight, plate, now.draw() % 100);
      came++;
    }
    return came;
  }

  int seed(int v) {
    int was = now.z;
    now.z = v;
    return was;
  }

  int round() {
    now.round();
    return now.tuneSet();
  }

  int load(int house) {
    return isHouse(house) ? now.deliver(house) : BAD;
  }

  int nights(int n) {
    if (!in(n, 1, 100)) {
      return BAD;
    }
    int was = now.noise;
    for (int i = 0; i < n && now.night < 9999; i++) {
      now.night();
    }
    return now.noise - was;
  }

  int terrace(int what) {
    if (!in(what, 0, 6)) {
      return BAD;
    }
    if (what < 5) {
      return now.reading(what);
    }
    int sum = 0;
    int best = NONE;
    int most = -1;
    for (int i = 0; i < now.houses.size(); i++) {
      House h = now.houses.get(i);
      sum += h.straight;
      if (h.heard > most) {
        most = h.heard;
        best = i;
      }
    }
    return what == 5 ? sum : best;
  }

  int behind(int n, int what) {
    if (!in(n, 0, 100) || !in(what, 0, 4 + now.houses.size())) {
      return BAD;
    }
    State s = now.behind(n);
    return what < 5 ? s.reading(what) : s.houses.get(what - 5).heard;
  }

  int cold(int house) {
    return first(house, true);
  }

  int shut(int house) {
    return first(house, false);
  }

  private int first(int house, boolean byCoal) {
    if (!isHouse(house)) {
      return BAD;
    }
    State s = now.copy();
    for (int n = 0; n <= 200; n++) {
      if ((byCoal ? s.houses.get(house).coal : s.slack(house)) == 0) {
        return n;
      }
      s.night();
    }
    return NONE;
  }

  int cement(int n) {
    if (!in(n, 0, 20)) {
      return BAD;
    }
    int best = NONE;
    for (int set = 0; set < 1 << now.houses.size(); set++) {
      if (best != NONE && Integer.bitCount(set) >= Integer.bitCount(best)) {
        continue;
      }
      State s = now.copy();
      for (int i = 0; i < s.houses.size(); i++) {
        if ((set & 1 << i) != 0) {
          s.houses.get(i).plate = s.houses.get(i).straight;
        }
      }
      s = s.behind(n);
      boolean quiet = true;
      for (int i = 0; i < s.houses.size(); i++) {
        quiet &= s.slack(i) < s.ear;
      }
      best = quiet ? set : best;
    }
    return best;
  }

  int cast(int house, int n, int what) {
    if (!isHouse(house) || !in(n, 1, 60) || !in(what, 0, 1)) {
      return BAD;
    }
    int best = 0;
    int most = -1;
    for (int plate = 0; plate < 100; plate++) {
      State s = now.copy();
      s.houses.get(house).plate = plate;
      int coal = s.behind(n).houses.get(house).coal;
      if (coal > most) {
        most = coal;
        best = plate;
      }
    }
    return what == 0 ? best : most;
  }

  int becomes(int house, int n, int what) {
    if (!isHouse(house) || !in(n, 1, 60) || !in(what, 0, 1)) {
      return BAD;
    }
    int best = 0;
    int least = Integer.MAX_VALUE;
    for (int kind = 0; kind < 6; kind++) {
      State s = now.copy();
      s.houses.set(house, s.houses.get(house).as(kind));
      int noise = s.behind(n).noise;
      if (noise < least) {
        least = noise;
        best = kind;
      }
    }
    return what == 0 ? best : least;
  }

  int ears(int n, int v) {
    if (!in(n, 0, 60) || !in(v, 0, 99999)) {
      return BAD;
    }
    for (int ear = 0; ear < 100; ear++) {
      State s = now.copy();
      s.ear = ear;
      if (s.behind(n).noise <= v) {
        return ear;
      }
    }
    return NONE;
  }

  int like(int sheet, int what) {
    if (!in(sheet, 0, 3) || !in(what, 0, 1)) {
      return BAD;
    }
    if (sheets[sheet] == null) {
      return NOTHING;
    }
    int best = NONE;
    long least = Long.MAX_VALUE;
    for (int i = 0; i < now.houses.size(); i++) {
      long sum = 0;
      for (int k = 0; k < sheets[sheet].places.length; k++) {
        Integer v = sheets[sheet].places[k];
        sum += v == null ? 0 : Math.abs(now.behind(k).houses.get(i).coal - v);
      }
      if (sum < least) {
        least = sum;
        best = i;
      }
    }
    return best == NONE ? NONE : what == 0 ? best : (int) least;
  }

  int fee() {
    Law law = now.law(1);
    return law == null ? now.noise : law.value("ok", now.noise, now.knocks);
  }

  int fine(int house) {
    if (!isHouse(house)) {
      return BAD;
    }
    House h = now.houses.get(house);
    Law law = now.law(2);
    return law == null ? h.coal : law.value("sc", h.straight, h.coal);
  }

  int feed(int a, int b, int c) {
    if (tape.length() + 12 > 96) {
      return FULL;
    }
    StringBuilder t = new StringBuilder(tape);
    for (int v : new int[] {a, b, c}) {
      for (int i = 3; i >= 0; i--) {
        t.append((char) (v >> 8 * i & 255));
      }
    }
    tape = t.toString();
    return tape.length();
  }

  int trim(int n) {
    if (!in(n, 0, tape.length())) {
      return BAD;
    }
    tape = tape.substring(0, n);
    return n;
  }

  int text() {
    String read = tape;
    tape = "";
    try {
      Law law = new Law(read);
      if (now.laws.size() == 14) {
        return FULL;
      }
      now.laws.add(law);
      return now.laws.size() - 1;
    } catch (Fault fault) {
      return -100 - fault.place;
    }
  }

  int textTold(int text, int what) {
    if (!in(text, 0, now.laws.size() - 1) || !in(what, 0, 1)) {
      return BAD;
    }
    return what == 0 ? now.laws.get(text).key : now.laws.get(text).pieces;
  }

  int why(int key) {
    if (!in(key, 0, 2)) {
      return BAD;
    }
    return now.law(key) == null ? NONE : now.laws.lastIndexOf(now.law(key));
  }

  int sheet(int sheet, int sort, int n) {
    if (!in(sheet, 0, 3) || !in(sort, -1, 1) || sort >= 0 && n > 24) {
      return BAD;
    }
    if (sort == -1) {
      sheets[sheet] = null;
      return 0;
    }
    if (n < 0) {
      return SIZE;
    }
    Integer[] places = new Integer[n];
    Arrays.fill(places, 0);
    sheets[sheet] = new Row(sort, places);
    return n;
  }

  int mark(int sheet, int place, int v) {
    if (!in(sheet, 0, 3)) {
      return BAD;
    }
    Row row = sheets[sheet];
    if (row == null) {
      return NOTHING;
    }
    if (!in(place, 0, row.places.length - 1)) {
      return INDEX;
    }
    if (row.sort == 0 && v == NONE) {
      return KIND;
    }
    if (row.sort == 1 && v != NONE && !in(v, -99999, 99999)) {
      return BAD;
    }
    row.places[place] = v == NONE ? null : Integer.valueOf(row.sort == 0 ? (short) v : v);
    return 1;
  }

  int pour(int sheet) {
    if (!in(sheet, 0, 3)) {
      return BAD;
    }
    if (sheets[sheet] == null) {
      return NOTHING;
    }
    int otherwise = 0;
    for (int i = 0; i < now.houses.size(); i++) {
      House h = now.houses.get(i);
      int was = h.plate;
      if (i < sheets[sheet].places.length && sheets[sheet].places[i] != null) {
        h.plate = Math.max(0, Math.min(99, sheets[sheet].places[i]));
      }
      otherwise += was == h.plate ? 0 : 1;
    }
    return otherwise;
  }

  int reads(int sheet) {
    if (!in(sheet, 0, 3)) {
      return BAD;
    }
    if (sheets[sheet] == null) {
      return NOTHING;
    }
    for (int i = 0; i < sheets[sheet].places.length; i++) {
      Integer v = sheets[sheet].places[i];
      if (v != null && (!isHouse(i) || now.houses.get(i).straight != v)) {
        return i;
      }
    }
    return NONE;
  }

  int copy(int from, int place, int to, int at, int many) {
    if (!in(from, 0, 3) || !in(to, 0, 3)) {
      return BAD;
    }
    Row a = sheets[from];
    Row b = sheets[to];
    if (a == null || b == null) {
      return NOTHING;
    }
    if (a.sort != b.sort) {
      return KIND;
    }
    if (many < 0 || place < 0 || at < 0 || (long) place + many > a.places.length
        || (long) at + many > b.places.length) {
      return INDEX;
    }
    Integer[] moved = Arrays.copyOfRange(a.places, place, place + many);
    for (int i = 0; i < many; i++) {
      b.places[at + i] = moved[i];
    }
    return many;
  }

  int lay(int slot, int thing, int k) {
    if (!in(slot, 0, 4) || !in(thing, 0, 3) || thing == 1 && !isHouse(k) || thing == 2 && !in(k, 0, 3)) {
      return BAD;
    }
    if (thing == 2 && sheets[k] == null) {
      return NOTHING;
    }
    Object was = slots[slot];
    switch (thing) {
      case 0: slots[slot] = null; break;
      case 1: slots[slot] = now.houses.get(k).as(now.houses.get(k).number()); break;
      case 2: slots[slot] = new Row(sheets[k].sort, sheets[k].places.clone()); break;
      default: slots[slot] = Integer.valueOf(k); break;
    }
    return was == null ? 0 : was instanceof House ? 1 : was instanceof Row ? 2 : 3;
  }

  int ask(int slot, int kind) {
    if (!in(slot, 0, 4) || !in(kind, 0, 5)) {
      return BAD;
    }
    if (slots[slot] == null) {
      return NOTHING;
    }
    return slots[slot] instanceof House && isUnder((House) slots[slot], kind) ? ((House) slots[slot]).worth() : KIND;
  }

  int item(int slot, int place) {
    if (!in(slot, 0, 4)) {
      return BAD;
    }
    if (slots[slot] == null) {
      return NOTHING;
    }
    if (!(slots[slot] instanceof Row)) {
      return KIND;
    }
    Row row = (Row) slots[slot];
    if (!in(place, 0, row.places.length - 1)) {
      return INDEX;
    }
    return row.places[place] == null ? KIND : row.places[place];
  }

  int rest(int slot, int n) {
    if (!in(slot, 0, 4)) {
      return BAD;
    }
    if (slots[slot] == null) {
      return NOTHING;
    }
    if (!(slots[slot] instanceof Integer)) {
      return KIND;
    }
    return n == 0 ? NO : (Integer) slots[slot] % n;
  }

  int tell(int v) {
    if (waiting.size() == 60) {
      return FULL;
    }
    waiting.add(v);
    return waiting.size();
  }

  int check(int n) {
    List<Integer> said = waiting;
    waiting = new ArrayList<>();
    if (!in(n, 1, 30)) {
      return BAD;
    }
    if (image == null) {
      return NO;
    }
    State s = image.copy();
    List<Integer> want = new ArrayList<>();
    for (int i = 0; i < n && s.night < 9999; i++) {
      s.night();
      want.add(s.noise);
      want.add(s.coal());
    }
    if (said.equals(want)) {
      return 0;
    }
    int right = 0;
    while (right < said.size() && right < want.size() && said.get(right).equals(want.get(right))) {
      right++;
    }
    return 1 + right;
  }

  int keep() {
    image = now.copy();
    return now.houses.size();
  }

  int back() {
    if (image == null) {
      return NO;
    }
    now = image.copy();
    return now.houses.size();
  }

  int count(int what) {
    if (!in(what, 0, 8)) {
      return BAD;
    }
    return new int[] {now.houses.size(), now.night, now.ear, now.load, now.treads, now.laws.size(), waiting.size(),
        tape.length(), now.z}[what];
  }

  // ---- what it is made of

  static class House {
    int straight, plate, coal, heard;
    int number() { return 0; }
    int slack(State s, int i) { return s.plain(this); }
    int bends() { return -1; }
    int burns() { return 5; }
    int worth() { return coal; }

    House as(int kind) {
      House h = of(kind);
      h.straight = straight;
      h.plate = plate;
      h.coal = coal;
      h.heard = heard;
      return h;
    }

    static House of(int kind) {
      switch (kind) {
        case 0: return new House();
        case 1: return new Chapel();
        case 2: return new Lodging();
        case 3: return new Manse();
        case 4: return new Club();
        default: return new Empty();
      }
    }
  }

  static class Chapel extends House {
    @Override int number() { return 1; }
    @Override int slack(State s, int i) { return super.slack(s, i) / 2; }
    @Override int bends() { return super.bends() + 2; }
    @Override int burns() { return super.burns() - 2; }
    @Override int worth() { return super.worth() + straight; }
  }

  static class Manse extends Chapel {
    @Override int number() { return 3; }
    @Override int slack(State s, int i) { return Math.max(0, super.slack(s, i) - 5); }
    @Override int bends() { return super.bends() * 2; }
    @Override int burns() { return super.burns() + 1; }
    @Override int worth() { return super.worth() / 2; }
  }

  static class Lodging extends House {
    @Override int number() { return 2; }
    @Override int slack(State s, int i) {
      int slack = super.slack(s, i);
      for (int k = 0; k < s.houses.size(); k++) {
        slack += k != i && s.tune.contains(k) ? 2 : 0;
      }
      return Math.min(99, slack);
    }
    @Override int bends() { return super.bends() - coal / 10; }
    @Override int burns() { return super.burns() * 2; }
    @Override int worth() { return 99 - straight; }
  }

  static class Club extends Lodging {
    @Override int number() { return 4; }
    @Override int slack(State s, int i) { return Math.min(99, super.slack(s, i) + 10); }
    @Override int bends() { return super.bends() + 3; }
    @Override int burns() { return super.burns() - 4; }
    @Override int worth() { return super.worth() + 7; }
  }

  static class Empty extends House {
    @Override int number() { return 5; }
    @Override int slack(State s, int i) { return 50; }
    @Override int bends() { return 0; }
    @Override int burns() { return 0; }
    @Override int worth() { return heard; }
  }

  static final class State {
    List<House> houses = new ArrayList<>();
    int ear = 10, load = 20, treads = 0, noise, knocks, night, z = 1;
    List<Integer> tune = new ArrayList<>();
    List<Law> laws = new ArrayList<>();

    State copy() {
      State s = new State();
      for (House h : houses) {
        s.houses.add(h.as(h.number()));
      }
      s.ear = ear;
      s.load = load;
      s.treads = treads;
      s.noise = noise;
      s.knocks = knocks;
      s.night = night;
      s.z = z;
      s.tune = new ArrayList<>(tune);
      s.laws = new ArrayList<>(laws);
      return s;
    }

    Law law(int key) {
      Law last = null;
      for (Law law : laws) {
        last = law.key == key ? law : last;
      }
      return last;
    }

    int plain(House h) {
      Law fit = law(0);
      int v = fit == null ? Math.abs(h.straight - h.plate)
          : fit.value("spcn", h.straight, h.plate, h.coal, houses.size());
      return v < 0 ? 0 : v > 99 ? 99 : v;
    }

    int slack(int i) {
      return houses.get(i).slack(this, i);
    }

    int draw() {
      z = z * 1103515245 + 12345;
      return z >>> 8;
    }

    void round() {
      List<Integer> loud = new ArrayList<>();
      for (int i = 0; i < houses.size(); i++) {
        if (slack(i) >= ear) {
          loud.add(i);
        }
      }
      for (int i : loud) {
        houses.get(i).heard = Math.min(9999, houses.get(i).heard + 1);
      }
      noise = Math.min(99999, noise + loud.size());
      tune = loud;
    }

    int deliver(int i) {
      House h = houses.get(i);
      if (slack(i) == 0) {
        knocks = Math.min(99999, knocks + 1);
        return 0;
      }
      int was = h.coal;
      h.coal = Math.min(99, h.coal + load);
      return h.coal - was;
    }

    void night() {
      round();
      if (!houses.isEmpty()) {
        deliver(night % houses.size());
      }
      for (House h : houses) {
        int bends = h.bends();
        h.coal = Math.max(0, h.coal - h.burns());
        h.straight = Math.max(0, Math.min(99, h.straight + bends));
      }
      if (draw() % 100 < treads && !houses.isEmpty()) {
        House h = houses.get(draw() % houses.size());
        h.plate = draw() % 100;
      }
      night++;
    }

    State behind(int n) {
      State s = copy();
      for (int i = 0; i < n; i++) {
        s.night();
      }
      return s;
    }

    int coal() {
      int sum = 0;
      for (House h : houses) {
        sum += h.coal;
      }
      return sum;
    }

    int cold() {
      int set = 0;
      for (int i = 0; i < houses.size(); i++) {
        set += houses.get(i).coal == 0 ? 1 << i : 0;
      }
      return set;
    }

    int tuneSet() {
      int set = 0;
      for (int i : tune) {
        set += 1 << i;
      }
      return set;
    }

    int reading(int what) {
      return new int[] {noise, knocks, cold(), tuneSet(), coal()}[what];
    }
  }

  private static final class Fault extends Exception {
    private static final long serialVersionUID = 1;
    final int place;
    Fault(int place) {
      super("fault");
      this.place = place;
    }
  }

  /** A node: a number, a name, or a sign with one or two sides. */
  private static final class Node {
    char sign;
    int number;
    Node left, right;

    Node(char sign, int number, Node left, Node right) {
      this.sign = sign;
      this.number = number;
      this.left = left;
      this.right = right;
    }

    int value(String names, int[] values) {
      if (sign == '#') {
        return number;
      }
      if (sign == '@') {
        return values[names.indexOf((char) number)];
      }
      int a = left.value(names, values);
      if (sign == '!') {
        return a == 0 ? 1 : 0;
      }
      int b = right.value(names, values);
      switch (sign) {
        case '+': return a + b;
        case '-': return a - b;
        case '*': return a * b;
        case '/': return b == 0 ? 0 : a / b;
        case '<': return a < b ? 1 : 0;
        case '>': return a > b ? 1 : 0;
        case '=': return a == b ? 1 : 0;
        case '&': return a != 0 && b != 0 ? 1 : 0;
        default: return a != 0 || b != 0 ? 1 : 0;
      }
    }
  }

  /** Goes down by the grammar; the words are cut beforehand. */
  static final class Law {
    final int key;
    int pieces;
    private final List<String> words = new ArrayList<>();
    private final List<Integer> places = new ArrayList<>();
    private final List<Boolean> glued = new ArrayList<>();
    private final int length;
    private int at;
    private final Node root;
    private final String names;

    Law(String tape) throws Fault {
      length = tape.length();
      cut(tape);
      key = Arrays.asList("fit", "fee", "fine").indexOf(word());
      if (key < 0) {
        throw new Fault(place());
      }
      at++;
      names = new String[] {"spcn", "ok", "sc"}[key];
      root = or(0, 0);
      if (at < words.size()) {
        throw new Fault(place());
      }
    }

    int value(String names, int... values) {
      return root.value(names, values);
    }

    private void cut(String tape) {
      java.util.regex.Matcher m = java.util.regex.Pattern.compile("[a-z]+|[0-9]+|[^ ]", java.util.regex.Pattern.DOTALL)
          .matcher(tape);
      int end = -1;
      boolean wordAhead = false;
      while (m.find()) {
        words.add(m.group());
        places.add(m.start());
        boolean isWord = m.group().matches("[a-z]+|[0-9]+");
        glued.add(isWord && wordAhead && end == m.start());
        wordAhead = isWord;
        end = m.end();
      }
    }

    private String word() {
      return at < words.size() && !glued.get(at) ? words.get(at) : "";
    }

    private int place() {
      return at < words.size() ? places.get(at) : length;
    }

    private boolean isOne(String signs) {
      return word().length() == 1 && signs.contains(word());
    }

    private char take() {
      return words.get(at++).charAt(0);
    }

    private Node or(int open, int nots) throws Fault {
      Node a = and(open, nots);
      while (isOne("|")) {
        a = new Node(take(), 0, a, and(open, nots));
      }
      return a;
    }

    private Node and(int open, int nots) throws Fault {
      Node a = test(open, nots);
      while (isOne("&")) {
        a = new Node(take(), 0, a, test(open, nots));
      }
      return a;
    }

    private Node test(int open, int nots) throws Fault {
      Node a = sum(open, nots);
      return isOne("<=>") ? new Node(take(), 0, a, sum(open, nots)) : a;
    }

    private Node sum(int open, int nots) throws Fault {
      Node a = term(open, nots);
      while (isOne("+-")) {
        a = new Node(take(), 0, a, term(open, nots));
      }
      return a;
    }

    private Node term(int open, int nots) throws Fault {
      Node a = piece(open, nots);
      while (isOne("*/")) {
        a = new Node(take(), 0, a, piece(open, nots));
      }
      return a;
    }

    private Node piece(int open, int nots) throws Fault {
      String word = word();
      if (word.matches("[0-9]{1,4}")) {
        pieces++;
        at++;
        return new Node('#', Integer.parseInt(word), null, null);
      }
      if (isOne(names)) {
        pieces++;
        return new Node('@', take(), null, null);
      }
      if (word.equals("!") && nots < 8) {
        at++;
        return new Node('!', 0, piece(open, nots + 1), null);
      }
      if (word.equals("(") && open < 8) {
        at++;
        Node e = or(open + 1, nots);
        if (!word().equals(")")) {
          throw new Fault(place());
        }
        at++;
        return e;
      }
      throw new Fault(place());
    }
  }

  /** A row of numbers; null is NO NUMBER. */
  private static final class Row {
    final int sort;
    final Integer[] places;
    Row(int sort, Integer[] places) {
      this.sort = sort;
      this.places = places;
    }
  }
}
