/** Every call with every row of corner arguments, in each scene, held against the model. */
public final class CornerCalls {
  private static final int CALLS = 512;

  public static void main(String[] args) {
    int wrong = 0;
    for (Scene scene : Scene.values()) {
      for (String name : Calls.OF_PROGRAM.names()) {
        wrong += agrees(scene, name) ? 0 : 1;
      }
    }
    System.out.println(wrong == 0 ? "all answers are as due" : wrong + " sweeps are not as due");
    if (wrong != 0) {
      System.exit(1);
    }
  }

  /** One object takes as many rows as it may; what a call has done, the next one finds. */
  private static boolean agrees(Scene scene, String name) {
    Pair pair = null;
    for (int[] row : Corners.rows(Calls.OF_PROGRAM.parameters(name))) {
      if (pair == null || pair.calls() + 10 > CALLS) {
        pair = new Pair();
        scene.make(pair);
      }
      pair.call(name, row);
      for (int what = 0; what < 9; what++) {
        pair.call("count", what);
      }
      if (!pair.agreed()) {
        return false;
      }
    }
    return true;
  }
}
