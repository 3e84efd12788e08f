import java.util.ArrayList;
import java.util.List;

/** The program and the model side by side: each call goes to both. */
final class Pair implements Caller {
  final Model model = new Model();
  private final CoalHoles program = new CoalHoles();
  private final List<String> calls = new ArrayList<>();
  private boolean agreed = true;

  /** The program's answer; if the model's is another one, both are printed with the calls that led there. */
  @Override public int call(String name, int... with) {
    int got = Calls.OF_PROGRAM.answer(program, name, with);
    int want = Calls.OF_MODEL.answer(model, name, with);
    calls.add(Calls.told(name, with));
    if (got != want) {
      agreed = false;
      System.out.println(String.join("; ", calls) + " answered " + got + ", the model " + want);
    }
    return got;
  }

  boolean agreed() {
    return agreed;
  }

  int calls() {
    return calls.size();
  }
}
