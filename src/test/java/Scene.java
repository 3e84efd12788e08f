/** States to try calls in, each made by some calls on a new object. */
enum Scene {
  /** Nothing has been done. */
  BARE,
  /** A house of each KIND, and of everything some; an image that is behind. */
  MIXED,
  /** As much of everything as there is room for; no image. */
  FULL,
  /** THE NIGHT is 9999. */
  LAST;

  void make(Caller on) {
    switch (this) {
      case MIXED: mixed(on); break;
      case FULL: full(on); break;
      case LAST: last(on); break;
      default: break;
    }
  }

  private static void mixed(Caller on) {
    for (int kind = 0; kind < 6; kind++) {
      on.call("house", kind, 40 + 9 * kind, 70 - 7 * kind, 11 * kind);
    }
    on.call("rule", 0, 8);
    on.call("rule", 2, 40);
    on.text("fine s - c");
    on.call("nights", 3);
    on.call("keep");
    on.text("fee o * 9 + k");
    on.text("fit (s - p) * (s - p) / 20 + !c");
    on.call("nights", 2);
    sheetsAndSlots(on);
    on.call("tell", 21);
    on.call("tell", 150);
    on.tape("fee 12345");
  }

  private static void sheetsAndSlots(Caller on) {
    on.call("sheet", 0, 0, 3);
    on.call("mark", 0, 1, -7);
    on.call("sheet", 1, 1, 5);
    on.call("mark", 1, 1, -1000000005);
    on.call("mark", 1, 4, 60);
    on.call("sheet", 3, 1, 0);
    on.call("lay", 1, 1, 3);
    on.call("lay", 2, 2, 1);
    on.call("lay", 3, 3, -12345);
    on.call("lay", 4, 2, 0);
  }

  private static void full(Caller on) {
    on.call("deal", 10);
    on.call("rule", 0, 30);
    for (int i = 0; i < 14; i++) {
      on.text(i % 2 == 0 ? "fee o" : "fine c");
    }
    for (int i = 0; i < 4; i++) {
      on.call("sheet", i, i / 2, 24);
      on.call("mark", i, 23, 7 + i);
      on.call("lay", i, 2, i);
    }
    on.call("lay", 4, 1, 9);
    for (int i = 0; i < 60; i++) {
      on.call("tell", i);
    }
    on.tape("fit s | " + " ".repeat(87) + "p");
  }

  private static void last(Caller on) {
    on.call("deal", 4);
    for (int i = 0; i < 100; i++) {
      on.call("nights", 100);
    }
    on.call("keep");
    on.call("rule", 1, 3);
    on.call("sheet", 0, 1, 2);
  }
}
