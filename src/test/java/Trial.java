/** One object on trial: each call is made by name, most of them with the answer that is due. */
final class Trial implements Caller {
  /** What later calls answer is free. */
  private static final int CALLS = 512;

  private final Due due;
  private final CoalHoles program = new CoalHoles();
  private int calls;

  Trial(Due due) {
    this.due = due;
  }

  /** A terrace with so many houses of one sort. */
  static Trial withHouses(Due due, int many, int kind, int straight, int plate, int coal) {
    return new Trial(due).does(many, "house", kind, straight, plate, coal);
  }

  @Override public int call(String name, int... with) {
    calls++;
    if (calls > CALLS) {
      throw new IllegalStateException("a trial of too many calls");
    }
    return Calls.OF_PROGRAM.answer(program, name, with);
  }

  /** A call whose answer is not looked at. */
  Trial does(String name, int... with) {
    call(name, with);
    return this;
  }

  Trial does(int times, String name, int... with) {
    for (int i = 0; i < times; i++) {
      call(name, with);
    }
    return this;
  }

  Trial due(int want, String name, int... with) {
    due.answer(Calls.told(name, with), call(name, with), want);
    return this;
  }

  Trial feeds(String bytes) {
    tape(bytes);
    return this;
  }

  Trial tells(String text) {
    text(text);
    return this;
  }

  Trial textDue(int want, String text) {
    due.answer("text of '" + text + "'", text(text), want);
    return this;
  }
}
