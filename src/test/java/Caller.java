/** Something whose calls are made by name. */
interface Caller {
  int call(String name, int... with);

  /** The bytes come to the tape behind those that it has. */
  default void tape(String bytes) {
    int had = call("count", 7);
    for (int at = 0; at < bytes.length(); at += 12) {
      int[] word = new int[3];
      for (int i = 0; i < 12; i++) {
        int b = at + i < bytes.length() ? bytes.charAt(at + i) : 0;
        word[i / 4] = word[i / 4] << 8 | b & 255;
      }
      call("feed", word);
    }
    call("trim", had + bytes.length());
  }

  default int text(String bytes) {
    tape(bytes);
    return call("text");
  }
}
