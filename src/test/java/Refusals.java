import java.util.ArrayList;
import java.util.Arrays;
import java.util.HashSet;
import java.util.List;
import java.util.Set;

/**
 * A call that is refused, or that only asks, changes nothing: two objects have the same scene behind them, one of them
 * has that call beside, and all that can be seen of both is the same.
 */
public final class Refusals {
  private static final Set<Integer> REFUSED = new HashSet<>(Arrays.asList(Due.BAD, Due.NO, Due.FULL, Due.NOTHING,
      Due.KIND, Due.INDEX, Due.SIZE));
  private static final Set<String> ASKING = new HashSet<>(Arrays.asList("told", "as", "terrace", "behind", "cold", "shut",
      "cement", "cast", "becomes", "ears", "like", "fee", "fine", "textTold", "why", "reads", "ask", "item", "rest",
      "count"));
  private static final int PARTS = 3;

  private static final Due d = new Due();

  public static void main(String[] args) {
    d.says(42, "A call that is refused answers one of BAD, NO, FULL, or a FINDING, of several the one that stands first "
        + "with it, and changes nothing (but the tape and the numbers that wait, where told).");
    for (Scene scene : new Scene[] {Scene.BARE, Scene.MIXED, Scene.FULL}) {
      List<List<Integer>> before = new ArrayList<>();
      for (int part = 0; part < PARTS; part++) {
        before.add(seen(made(scene), part));
      }
      for (String name : Calls.OF_PROGRAM.names()) {
        if (!name.equals("text") && !name.equals("check")) {
          changesNothing(scene, before, name);
        }
      }
      textUsesTheTapeUpAlone(scene);
      checkUsesTheNumbersUpAlone(scene);
    }
    d.end();
  }

  private static Trial made(Scene scene) {
    Trial t = new Trial(d);
    scene.make(t);
    return t;
  }

  private static void changesNothing(Scene scene, List<List<Integer>> before, String name) {
    for (int[] row : Corners.rows(Calls.OF_PROGRAM.parameters(name))) {
      Trial first = made(scene);
      boolean refused = REFUSED.contains(first.call(name, row));
      if (refused || ASKING.contains(name)) {
        d.holds(scene + ": " + Calls.told(name, row) + " changes nothing", seen(first, 0).equals(before.get(0)));
        for (int part = 1; part < PARTS; part++) {
          Trial next = made(scene).does(name, row);
          d.holds(scene + ": " + Calls.told(name, row) + " changes nothing", seen(next, part).equals(before.get(part)));
        }
      }
    }
  }

  private static void textUsesTheTapeUpAlone(Scene scene) {
    for (int part = 0; part < PARTS; part++) {
      Trial t = made(scene);
      int answer = t.call("text");
      d.holds(scene + ": text() is refused", answer == Due.FULL || answer <= -100 && answer >= -196);
      d.holds(scene + ": text() uses up the tape alone", seen(t, part).equals(seen(made(scene).does("trim", 0), part)));
    }
  }

  /** The other object has its numbers used up by another refused check. */
  private static void checkUsesTheNumbersUpAlone(Scene scene) {
    for (int n : new int[] {Integer.MIN_VALUE, -1, 0, 1, 30, 31, Integer.MAX_VALUE}) {
      for (int part = 0; part < PARTS; part++) {
        Trial t = made(scene).does("check", n).due(0, "count", 6);
        Trial twin = made(scene).does("check", 99);
        d.holds(scene + ": check(" + n + ") uses up the numbers alone", seen(t, part).equals(seen(twin, part)));
      }
    }
  }

  /** All that can be seen, in three parts, as one object may not be asked for all; to look uses the object up. */
  private static List<Integer> seen(Trial t, int part) {
    List<Integer> row = new ArrayList<>();
    if (part == 0) {
      seeTerrace(t, row);
    } else if (part == 1) {
      seeSlotsAndSheets(t, row);
    } else {
      row.add(t.call("check", 2));
      row.add(t.call("text"));
      row.add(t.call("fee"));
      row.add(t.call("back"));
      seeTerrace(t, row);
    }
    return row;
  }

  private static void seeTerrace(Trial t, List<Integer> row) {
    for (int what = 0; what < 9; what++) {
      row.add(t.call("count", what));
    }
    for (int what = 0; what < 7; what++) {
      row.add(t.call("terrace", what));
    }
    for (int key = 0; key < 3; key++) {
      row.add(t.call("why", key));
    }
    int texts = t.call("count", 5);
    for (int text = 0; text < texts; text++) {
      row.add(t.call("textTold", text, 0));
      row.add(t.call("textTold", text, 1));
    }
    row.add(t.call("fee"));
    int houses = t.call("count", 0);
    for (int house = 0; house < houses; house++) {
      row.add(t.call("fine", house));
      for (int what = 0; what < 9; what++) {
        row.add(t.call("told", house, what));
      }
    }
  }

  private static void seeSlotsAndSheets(Trial t, List<Integer> row) {
    for (int slot = 0; slot < 5; slot++) {
      row.add(t.call("rest", slot, 1000000));
      for (int kind = 0; kind < 6; kind++) {
        row.add(t.call("ask", slot, kind));
      }
      seePlaces(t, slot, row);
    }
    for (int sheet = 0; sheet < 4; sheet++) {
      row.add(t.call("lay", 0, 2, sheet));
      seePlaces(t, 0, row);
      // What is not of the sort of sheet 0 can't be copied there.
      row.add(t.call("copy", sheet, 0, 0, 0, 0));
    }
  }

  private static void seePlaces(Trial t, int slot, List<Integer> row) {
    int answer = 0;
    for (int place = 0; place < 24 && answer != Due.INDEX && answer != Due.NOTHING; place++) {
      answer = t.call("item", slot, place);
      row.add(answer);
    }
  }
}
