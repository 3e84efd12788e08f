import java.util.ArrayList;
import java.util.List;
import java.util.Random;

/** Long runs of calls by lot, each answer held against the model. */
public final class ModelRuns {
  private static final int RUNS = 400, CALLS = 512;

  public static void main(String[] args) {
    int runs = args.length > 0 ? Integer.parseInt(args[0]) : RUNS;
    int wrong = 0;
    for (int run = 0; run < runs; run++) {
      wrong += agrees(run) ? 0 : 1;
    }
    System.out.println(wrong == 0 ? "all answers are as due" : wrong + " runs are not as due");
    if (wrong != 0) {
      System.exit(1);
    }
  }

  private static boolean agrees(int run) {
    Lots lots = new Lots(new Random(run));
    Pair pair = new Pair();
    List<Call> row = new ArrayList<>();
    lots.begin(run, row);
    while (pair.calls() < CALLS) {
      if (row.isEmpty()) {
        lots.follow(lots.name(), pair.model, row);
      }
      Call next = row.remove(0);
      pair.call(next.name, next.with);
      if (!pair.agreed()) {
        return false;
      }
    }
    return true;
  }

  private record Call(String name, int[] with) {
  }

  /** Which call comes next, and with what: mostly what is good, at times what is not. */
  private static final class Lots {
    private final Random lot;
    private final boolean costly;
    private final boolean wordy;
    private final String[] names = Calls.OF_PROGRAM.names();

    Lots(Random lot) {
      this.lot = lot;
      this.costly = lot.nextInt(4) == 0;
      this.wordy = lot.nextInt(4) == 0;
    }

    /** Every third run begins with a terrace that can be made quiet, every second one with sheets. */
    void begin(int run, List<Call> row) {
      if (run % 3 == 0) {
        put(row, "rule", 0, 12 + lot.nextInt(30));
        for (int i = 2 + lot.nextInt(7); i > 0; i--) {
          int straight = lot.nextInt(100);
          int plate = lot.nextInt(3) == 0 ? straight : Math.max(0, Math.min(99, straight + lot.nextInt(61) - 30));
          put(row, "house", lot.nextInt(3) == 0 ? 2 : lot.nextInt(5), straight, plate, lot.nextInt(100));
        }
        put(row, "rule", 1, lot.nextInt(40));
        put(row, "rule", 2, lot.nextBoolean() ? 0 : lot.nextInt(101));
        if (lot.nextInt(3) == 0) {
          followText(row);
        }
        for (int n = 0; n <= 20; n += 1 + lot.nextInt(6)) {
          put(row, "cement", n);
          put(row, "cast", lot.nextInt(3), 1 + n, lot.nextInt(2));
          put(row, "ears", n, lot.nextInt(60));
          put(row, "round");
        }
      }
      for (int i = 0; i < 4 && run % 2 == 0; i++) {
        put(row, "sheet", i, lot.nextInt(2), 1 + lot.nextInt(24));
        put(row, "lay", i, 1 + lot.nextInt(3), i);
      }
    }

    String name() {
      if (wordy && lot.nextInt(4) == 0) {
        return "text";
      }
      String name = names[lot.nextInt(names.length)];
      boolean dear = name.equals("cement") || name.equals("cast") || name.equals("ears") || name.equals("becomes");
      if (dear && !costly && lot.nextInt(4) > 0) {
        return "told";
      }
      if (name.equals("back") && lot.nextInt(3) > 0) {
        return "round";
      }
      if (name.equals("feed") || name.equals("text") || name.equals("trim")) {
        return lot.nextInt(3) > 0 ? "text" : "told";
      }
      return name;
    }

    private void put(List<Call> row, String name, int... with) {
      row.add(new Call(name, with));
    }

    /** Within 0 and most, at times beside it. */
    private int near(int most) {
      int k = lot.nextInt(40);
      if (k == 0) {
        return -1 - lot.nextInt(3);
      }
      if (k == 1) {
        return most + 1 + lot.nextInt(3);
      }
      if (k == 2) {
        return new int[] {Integer.MIN_VALUE, Integer.MAX_VALUE, Due.NONE, Due.BAD}[lot.nextInt(4)];
      }
      if (k == 3) {
        return most;
      }
      return lot.nextInt(most + 1);
    }

    private int any() {
      return lot.nextBoolean() ? lot.nextInt() : lot.nextInt(200) - 100;
    }

    void follow(String name, Model m, List<Call> row) {
      int h = Math.max(0, m.now.houses.size() - 1);
      switch (name) {
        case "house": put(row, name, near(5), near(99), near(99), near(99)); break;
        case "told": put(row, name, near(h), near(8)); break;
        case "as": case "turns": put(row, name, near(h), near(5)); break;
        case "set": {
          int what = 1 + near(3);
          put(row, name, near(h), what, what == 4 ? near(9999) : what == 3 && lot.nextBoolean() ? 0 : near(99));
          break;
        }
        case "rule": {
          int what = near(2);
          put(row, name, what, lot.nextBoolean() ? near(30) : near(what == 2 ? 100 : 99));
          break;
        }
        case "deal": put(row, name, lot.nextInt(3) > 0 ? near(3) : near(10)); break;
        case "seed": put(row, name, any()); break;
        case "load": case "cold": case "shut": case "fine": put(row, name, near(h)); break;
        case "nights": put(row, name, lot.nextInt(4) > 0 ? near(5) : near(100)); break;
        case "terrace": put(row, name, near(6)); break;
        case "behind": put(row, name, near(100), near(5 + h)); break;
        case "cement": put(row, name, near(lot.nextBoolean() ? 3 : 20)); break;
        case "cast": case "becomes": put(row, name, near(h), near(lot.nextBoolean() ? 6 : 60), near(1)); break;
        case "ears": put(row, name, near(60), lot.nextBoolean() ? near(99999) : m.now.noise + lot.nextInt(60)); break;
        case "like": put(row, name, near(3), near(1)); break;
        case "text": followText(row); break;
        case "textTold": put(row, name, near(13), near(1)); break;
        case "why": put(row, name, near(2)); break;
        case "sheet": put(row, name, near(3), lot.nextInt(6) == 0 ? near(2) - 1 : lot.nextInt(2), near(24)); break;
        case "mark": followMarks(m, row); break;
        case "pour": case "reads": put(row, name, near(3)); break;
        case "copy": put(row, name, near(3), near(12), near(3), near(12), near(12)); break;
        case "lay": {
          int thing = near(3);
          put(row, name, near(4), thing, thing == 1 ? near(h) : thing == 2 ? near(3) : any());
          break;
        }
        case "ask": put(row, name, near(4), near(5)); break;
        case "item": put(row, name, near(4), near(23)); break;
        case "rest": put(row, name, near(4), lot.nextInt(5) == 0 ? 0 : any()); break;
        case "tell": put(row, name, any()); break;
        case "check": followCheck(m, row); break;
        case "count": put(row, name, near(8)); break;
        default: put(row, name); break;
      }
    }

    private void followMarks(Model m, List<Call> row) {
      int sheet = near(3);
      for (int i = lot.nextInt(4); i >= 0; i--) {
        int place = lot.nextInt(3) > 0 ? near(4) : near(24);
        int v = lot.nextInt(3) > 0 ? near(99) : lot.nextInt(3) == 0 ? Due.NONE : lot.nextInt(300000) - 150000;
        if (lot.nextInt(4) == 0 && place >= 0 && place < m.now.houses.size()) {
          v = m.now.houses.get(place).straight;
        }
        put(row, "mark", sheet, place, v);
      }
    }

    private void followCheck(Model m, List<Call> row) {
      int n = near(30);
      if (m.image != null && lot.nextInt(4) > 0) {
        Model.State s = m.image.copy();
        int many = Math.min(n, 9999 - s.night);
        for (int k = 0; k < many && k < 30; k++) {
          s.night();
          put(row, "tell", s.noise);
          put(row, "tell", s.coal());
        }
        if (lot.nextInt(3) == 0 && !row.isEmpty()) {
          row.get(lot.nextInt(row.size())).with[0] += lot.nextInt(2);
        }
        if (lot.nextInt(4) == 0 && !row.isEmpty()) {
          row.remove(row.size() - 1);
        }
      }
      put(row, "check", n);
    }

    private void followText(List<Call> row) {
      int key = lot.nextInt(3);
      StringBuilder b = new StringBuilder();
      b.append(new String[] {"fit", "fee", "fine"}[key]).append(' ');
      write(b, new String[] {"spcn", "ok", "sc"}[key], lot.nextInt(wordy ? 6 : 4));
      if (lot.nextInt(3) == 0) {
        spoil(b);
      }
      b.setLength(Math.min(b.length(), 96));
      put(row, "trim", 0);
      for (int at = 0; at < b.length(); at += 12) {
        int[] word = new int[3];
        for (int i = 0; i < 12; i++) {
          int c = at + i < b.length() ? b.charAt(at + i) : 32;
          word[i / 4] = word[i / 4] << 8 | c & 255;
        }
        put(row, "feed", word);
      }
      put(row, "trim", b.length());
      if (lot.nextInt(20) == 0) {
        put(row, "feed", any(), any(), any());
      }
      put(row, "text");
    }

    private void write(StringBuilder b, String names, int depth) {
      int k = depth <= 0 ? lot.nextInt(2) : lot.nextInt(12);
      if (lot.nextInt(5) == 0) {
        b.append(' ');
      }
      if (k == 0) {
        b.append(lot.nextInt(4) == 0 ? lot.nextInt(10000) : lot.nextInt(60));
      } else if (k == 1) {
        b.append(names.charAt(lot.nextInt(names.length())));
      } else if (k == 2) {
        b.append('!');
        write(b, names, depth - 1);
      } else if (k <= 4) {
        b.append('(');
        write(b, names, depth - 1);
        b.append(')');
      } else {
        write(b, names, depth - 1);
        b.append("+-*/<=>&|+-".charAt(lot.nextInt(11)));
        write(b, names, depth - 1);
      }
      if (lot.nextInt(8) == 0) {
        b.append(' ');
      }
    }

    private void spoil(StringBuilder b) {
      String signs = "spcnok019 ()!!((+-*/<=>&|%A~\u00e9";
      for (int i = lot.nextInt(3); i >= 0; i--) {
        int at = lot.nextInt(b.length());
        switch (lot.nextInt(4)) {
          case 0: b.deleteCharAt(at); break;
          case 1: b.setCharAt(at, signs.charAt(lot.nextInt(signs.length()))); break;
          case 2: b.insert(at, signs.charAt(lot.nextInt(signs.length()))); break;
          default: b.insert(at, (lot.nextBoolean() ? "(" : "!").repeat(lot.nextInt(11))); break;
        }
        if (b.length() == 0) {
          b.append('f');
        }
      }
    }
  }
}
