/** The boundary cases of the tape and of texts: promises 24 to 28, and how a text is read and worked out. */
public final class TextEdges {
  private static final int BAD = Due.BAD, FULL = Due.FULL, NONE = Due.NONE, LEAST = Due.LEAST, MOST = Due.MOST;
  private static final String[] KEYS = {"fit", "fee", "fine"};
  private static final String[] NAMES = {"spcn", "ok", "sc"};

  private static final Due d = new Due();

  public static void main(String[] args) {
    feed();
    bytesInOrder();
    trim();
    usedUp();
    textsAtMost();
    keys();
    names();
    nameValues();
    readAfresh();
    words();
    blanks();
    signs();
    numbers();
    endsTooSoon();
    openBrackets();
    openNots();
    loosestFirst();
    oneTest();
    firstFault();
    longest();
    wraps();
    divisions();
    truths();
    textTold();
    why();
    d.end();
  }

  private static void faultDue(int place, String text) {
    new Trial(d).textDue(-100 - place, text);
  }

  private static void goodDue(String text) {
    new Trial(d).textDue(0, text);
  }

  /** What a fee text gives with NOISE 0 and KNOCKS 0. */
  private static void valueDue(int want, String expression) {
    new Trial(d).textDue(0, "fee " + expression).due(want, "fee");
  }

  private static void feed() {
    d.says(24, "Twelve bytes come to THE TAPE, the highest of each number first: how many it has. FULL: it would have "
        + "more than 96.");
    Trial t = new Trial(d);
    for (int i = 1; i <= 8; i++) {
      t.due(12 * i, "feed", LEAST, MOST, -1).due(12 * i, "count", 7);
    }
    t.due(FULL, "feed", 0, 0, 0).due(96, "count", 7).due(FULL, "feed", 0, 0, 0).due(96, "count", 7);
    t.does("trim", 95).due(FULL, "feed", 0, 0, 0).due(95, "count", 7).does("trim", 85).due(FULL, "feed", 0, 0, 0);
    t.due(85, "count", 7).does("trim", 84).due(96, "feed", 0, 0, 0).due(FULL, "feed", 0, 0, 0);
    t.does("trim", 1).due(13, "feed", 0, 0, 0).does("trim", 0).due(12, "feed", 0, 0, 0);
  }

  private static void bytesInOrder() {
    d.says(24, "Twelve bytes come to THE TAPE, the highest of each number first: how many it has.");
    int[] words = {0x66656520, 0x31323334, 0x2d312020};
    new Trial(d).due(12, "feed", words).due(0, "text").due(1233, "fee");
    // A byte above 127 is no letter, whatever bytes stand around it.
    for (int at = 4; at < 12; at++) {
      int[] spoilt = words.clone();
      int shift = 24 - at % 4 * 8;
      spoilt[at / 4] = spoilt[at / 4] & ~(255 << shift) | 0xe6 << shift;
      new Trial(d).due(12, "feed", spoilt).due(-100 - at, "text");
    }
    // What a refused feed brought does not come.
    Trial full = new Trial(d).feeds("fee 7" + " ".repeat(91)).due(FULL, "feed", words);
    full.due(5, "trim", 5).due(0, "text").due(7, "fee");
  }

  private static void trim() {
    d.says(25, "THE TAPE keeps its first n bytes: n. BAD.");
    Trial t = new Trial(d).due(0, "trim", 0).due(BAD, "trim", 1).due(BAD, "trim", -1);
    t.feeds("fee 1234").due(8, "trim", 8);
    for (int n : new int[] {LEAST, NONE, -1, 9, 12, 96, 97, MOST}) {
      t.due(BAD, "trim", n);
    }
    t.due(8, "count", 7).due(6, "trim", 6).due(BAD, "trim", 7).due(6, "count", 7).due(0, "text").due(12, "fee");
    // What is cut off is gone: what comes then comes right behind what was kept.
    t.feeds("fee 1234").due(5, "trim", 5).feeds("9").due(6, "count", 7).due(1, "text").due(19, "fee");
    t.feeds("fee 1").due(0, "trim", 0).due(-100, "text").feeds("x".repeat(96)).due(96, "trim", 96).due(BAD, "trim", 97);
  }

  private static void usedUp() {
    d.says(26, "an act that reads it uses it up, whatever it answers");
    Trial t = new Trial(d).textDue(0, "fee 1").due(0, "count", 7).due(-100, "text").due(0, "count", 7);
    t.textDue(-105, "fee 1%").due(0, "count", 7).due(-100, "text");
    for (int i = 1; i < 14; i++) {
      t.textDue(i, "fee 1");
    }
    t.textDue(FULL, "fee 1").due(0, "count", 7).due(-100, "text").due(14, "count", 5);
    t.due(12, "feed", 0, 0, 0);
  }

  private static void textsAtMost() {
    d.says(26, "TEXTS, 14 at most, numbered from 0");
    Trial t = new Trial(d);
    for (int i = 0; i < 14; i++) {
      t.textDue(i, KEYS[i % 3] + " " + i).due(i + 1, "count", 5).due(i, "why", i % 3);
    }
    for (int key = 0; key < 3; key++) {
      t.textDue(FULL, KEYS[key] + " 99");
    }
    t.due(14, "count", 5).due(12, "why", 0).due(13, "why", 1).due(11, "why", 2).due(13, "fee").due(BAD, "textTold", 14, 0);
    d.says(26, "THE TAPE is a TEXT: its number. -100 less the place of its FAULT; FULL.");
    t.textDue(-103, "fit").textDue(-100, "").textDue(-104, "fee s").due(14, "count", 5);
    // An image of fewer texts has room for more.
    Trial again = new Trial(d).tells("fee 5").does("keep");
    for (int i = 1; i < 14; i++) {
      again.tells("fee 6");
    }
    again.textDue(FULL, "fee 7").does("back").due(1, "count", 5).due(5, "fee").textDue(1, "fee 8").due(8, "fee");
  }

  private static void keys() {
    d.says(26, "KEY: fit | fee | fine.");
    for (String key : KEYS) {
      goodDue(key + " 1");
      goodDue("   " + key + "   1   ");
      goodDue(key + "(1)");
      goodDue(key + "!1");
      faultDue(0, key + key + " 1");
      faultDue(0, key.toUpperCase() + " 1");
      faultDue(0, key.substring(0, key.length() - 1) + " 1");
      for (char letter : new char[] {'a', 'm', 'z'}) {
        faultDue(0, letter + key + " 1");
        faultDue(0, key + letter + " 1");
      }
      faultDue(2, "  x" + key + " 1");
      faultDue(key.length() + 1, key + " " + key + " 1");
      faultDue(0, "(" + key + " 1)");
    }
    for (String text : new String[] {"1", "s", "fits", "fin 1", "fines 1", "fi t 1", "\u00e6it 1", "\0fit 1", "=fit 1"}) {
      faultDue(0, text);
    }
    faultDue(3, "   1");
  }

  private static void names() {
    d.says(26, "NAMES, each one letter: of fit s STRAIGHT, p PLATE, c COAL, n how many HOUSES there are; of fee o NOISE, "
        + "k KNOCKS");
    for (int key = 0; key < 3; key++) {
      for (char name = 'a'; name <= 'z'; name++) {
        String text = KEYS[key] + " " + name;
        if (NAMES[key].indexOf(name) >= 0) {
          goodDue(text);
          faultDue(KEYS[key].length() + 1, text + name);
          faultDue(KEYS[key].length() + 1, KEYS[key] + " " + Character.toUpperCase(name));
        } else {
          faultDue(KEYS[key].length() + 1, text);
        }
      }
    }
    for (char beside : new char[] {'a' - 1, 'z' + 1, '0' - 1, '9' + 1, 0, 31, 127, 128, 255}) {
      faultDue(4, "fit " + beside);
      faultDue(beside == '/' ? 6 : 5, "fit s" + beside);
    }
  }

  private static void nameValues() {
    d.says(26, "NAMES, each one letter: of fit s STRAIGHT, p PLATE, c COAL, n how many HOUSES there are; of fee o NOISE, "
        + "k KNOCKS");
    Trial t = new Trial(d).does("house", 0, 11, 22, 33).does("house", 0, 44, 44, 55).does("house", 5, 0, 0, 0);
    t.does("rule", 0, 50).does(5, "round").does(3, "load", 1).tells("fee o").due(5, "fee").tells("fee k").due(3, "fee");
    t.tells("fine s").due(11, "fine", 0).due(44, "fine", 1).tells("fine c").due(33, "fine", 0).due(55, "fine", 1);
    String[] fits = {"s", "p", "c", "n"};
    int[][] want = {{11, 44}, {22, 44}, {33, 55}, {3, 3}};
    for (int i = 0; i < fits.length; i++) {
      t.tells("fit " + fits[i]).due(want[i][0], "told", 0, 5).due(want[i][1], "told", 1, 5);
    }
    t.does("house", 0, 0, 0, 0).due(4, "told", 0, 5);
  }

  private static void readAfresh() {
    d.says(26, "an act that reads it uses it up, whatever it answers");
    // What a faulty text left open is not open in the next one.
    String[] faulty = {"fee ((((((((", "fee !!!!!!!!", "fee 1+2*(3<", "fee 1|2&3=4-5*", "fee ((1+!(2", "fee 1<2<3"};
    for (String text : faulty) {
      Trial t = new Trial(d).tells(text).textDue(0, "fee ((((((((1<2))))))))").due(1, "fee").due(2, "textTold", 0, 1);
      t.tells(text).textDue(1, "fee !!!!!!!!7").due(1, "fee").tells(text).textDue(2, "fee 1+1=2").due(1, "fee");
      t.tells(text).textDue(-104, "fee )");
    }
    // Fourteen long ones: each has room of its own.
    Trial t = new Trial(d);
    for (int i = 0; i < 14; i++) {
      t.textDue(i, "fee " + (10 + i) + "+1".repeat(44)).due(54 + i, "fee").due(45, "textTold", i, 1);
    }
  }

  private static void words() {
    d.says(26, "a word right behind another one needs one");
    faultDue(3, "fit1");
    faultDue(3, "fit12345");
    faultDue(5, "fit s1");
    faultDue(5, "fit 1s");
    faultDue(8, "fit 1+12s");
    faultDue(5, "fit 1fit");
    d.says(26, "A word is a row of letters a .. z, or of digits, as long as it goes; any other byte is a sign by itself.");
    faultDue(4, "fit sp");
    faultDue(6, "fit s p");
    faultDue(6, "fit 1 2");
    faultDue(6, "fit s 1");
    faultDue(6, "fit s+sp");
    goodDue("fit s+p");
    goodDue("fit 1+p");
    goodDue("fit(s)+(1)");
    faultDue(7, "fit (s)p");
    faultDue(7, "fit (1)2");
  }

  private static void blanks() {
    d.says(26, "Between words and signs, and at the ends, there may be blanks (byte 32)");
    goodDue("  fit  (  s  +  1  )  *  !  p  ");
    goodDue("fit s");
    goodDue("fit s ");
    goodDue(" fit s");
    for (char other : new char[] {9, 10, 13, 0, 160}) {
      faultDue(3, "fit" + other + "s");
      faultDue(0, other + "fit s");
      faultDue(5, "fit s" + other);
    }
  }

  private static void signs() {
    d.says(26, "any other byte is a sign by itself");
    for (char sign : "<=>+-*/&|".toCharArray()) {
      goodDue("fit s" + sign + "p");
      faultDue(4, "fit " + sign + "p");
      faultDue(6, "fit s" + sign + sign + "p");
      faultDue(5, "fit (" + sign + "s)");
      faultDue(7, "fit (s" + sign + ")");
    }
  }

  private static void numbers() {
    d.says(26, "NUMBER (1 to 4 digits)");
    valueDue(0, "0");
    valueDue(9, "9");
    valueDue(9999, "9999");
    valueDue(0, "0000");
    valueDue(1, "0001");
    d.says(26, "a NUMBER of more than 4 digits");
    faultDue(4, "fit 10000");
    faultDue(4, "fit 00000");
    faultDue(6, "fit s+99999");
    faultDue(6, "fit s 99999");
    faultDue(4, "fit " + "1".repeat(92));
    faultDue(4, "fit -1");
    faultDue(5, "fit 1.5");
  }

  private static void endsTooSoon() {
    d.says(26, "the end (the place behind the last byte), if it comes too soon");
    faultDue(0, "");
    faultDue(1, " ");
    faultDue(96, " ".repeat(96));
    faultDue(3, "fit");
    faultDue(6, "fit   ");
    faultDue(96, "fit" + " ".repeat(93));
    faultDue(5, "fit (");
    faultDue(5, "fit !");
    faultDue(6, "fit (s");
    faultDue(8, "fit (s  ");
    faultDue(8, "fit ((s)");
    faultDue(8, "fit (s+p");
    for (char sign : "<=>+-*/&|".toCharArray()) {
      faultDue(6, "fit s" + sign);
      faultDue(8, "fit s" + sign + "  ");
    }
  }

  private static void openBrackets() {
    d.says(26, "the ninth ( that would be open within others");
    goodDue("fit " + "(".repeat(8) + "s" + ")".repeat(8));
    faultDue(12, "fit " + "(".repeat(9) + "s" + ")".repeat(9));
    faultDue(12, "fit " + "(".repeat(9));
    faultDue(12, "fit " + "(".repeat(90));
    // Those that are closed are open no more.
    goodDue("fit " + "(".repeat(8) + "s" + ")".repeat(8) + "+" + "(".repeat(8) + "s" + ")".repeat(8));
    goodDue("fit " + "(s)+".repeat(20) + "s");
    goodDue("fit (((((((" + "(s)+(s)+(s)" + ")))))))");
    faultDue(16, "fit (((((((" + "(s)+" + "((s))");
    faultDue(4, "fit )");
    faultDue(5, "fit s)");
    faultDue(7, "fit (s))");
    faultDue(5, "fit ()");
    d.says(26, "the ninth ! likewise, each by itself");
    goodDue("fit !(!(!(!(!(!(!(!(s))))))))");
    goodDue("fit " + "!".repeat(8) + "(".repeat(8) + "s" + ")".repeat(8));
    faultDue(20, "fit " + "!".repeat(8) + "(".repeat(9) + "s");
    faultDue(20, "fit " + "(".repeat(8) + "!".repeat(9) + "s");
  }

  private static void openNots() {
    d.says(26, "the ninth ! likewise, each by itself");
    goodDue("fit !!!!!!!!s");
    goodDue("fit ! ! ! ! ! ! ! ! s");
    faultDue(12, "fit !!!!!!!!!s");
    faultDue(12, "fit !!!!!!!!!");
    faultDue(12, "fit " + "!".repeat(90));
    // The ninth is within the others' PIECE also where a ( stands between them.
    faultDue(13, "fit !!!!!!!!(!s)");
    goodDue("fit !!!!!!!(!s)");
    goodDue("fit !!!!!!!!(s)+!s");
    goodDue("fit !!!!!!!!s+!!!!!!!!p");
    goodDue("fit !!!!!!!(!s+!p*!c)");
    faultDue(16, "fit !!!!!!!(!s+!!p)");
    faultDue(5, "fit s!");
    faultDue(6, "fit s !p");
  }

  private static void loosestFirst() {
    d.says(26, "E, the loosest first: OR: AND { | AND }; AND: TEST { & TEST };");
    valueDue(1, "1|0&0");
    valueDue(0, "(1|0)&0");
    valueDue(1, "0&0|1");
    valueDue(0, "0&(0|1)");
    valueDue(1, "1&2<3");
    valueDue(1, "(1&2)<3");
    valueDue(0, "(1&2)<1");
    valueDue(1, "1+1<3");
    valueDue(2, "1+(1<3)");
    valueDue(7, "1+2*3");
    valueDue(9, "(1+2)*3");
    valueDue(2, "!0+1");
    valueDue(0, "!(0+1)");
    valueDue(2, "9-4-3");
    valueDue(8, "9-(4-3)");
    valueDue(7, "100/7/2");
    valueDue(33, "100/(7/2)");
    valueDue(6, "7/2*2");
    valueDue(1, "7/(2*2)");
  }

  private static void oneTest() {
    d.says(26, "TEST: SUM [ (< | = | >) SUM ]");
    for (char one : "<=>".toCharArray()) {
      for (char two : "<=>".toCharArray()) {
        faultDue(7, "fit s" + one + "p" + two + "c");
        faultDue(6, "fit s" + one + two + "c");
        faultDue(11, "fit s" + one + "p+c*n" + two + "c");
        goodDue("fit (s" + one + "p)" + two + "c");
        goodDue("fit s" + one + "(p" + two + "c)");
        goodDue("fit s" + one + "p&c" + two + "n");
        goodDue("fit s" + one + "p|c" + two + "n");
        faultDue(11, "fit s" + one + "p&c" + two + "n<1");
        goodDue("fit !(s" + one + "p)" + two + "!c");
      }
    }
  }

  private static void firstFault() {
    d.says(26, "FAULT: the first byte of the first word or sign with which no TEXT goes on");
    faultDue(4, "fit ) ( 12345");
    faultDue(6, "fit s+)+12345");
    faultDue(0, "fix 12345 (");
    faultDue(9, "fit   s  zz");
    faultDue(6, "fit s (p");
    faultDue(5, "fit s" + "~".repeat(91));
    faultDue(95, "fit s" + " ".repeat(90) + "~");
    faultDue(95, " ".repeat(95) + "f");
  }

  private static void longest() {
    d.says(26, "THE TAPE (96 bytes at most");
    StringBuilder sum = new StringBuilder("fee 1");
    while (sum.length() < 95) {
      sum.append("+1");
    }
    new Trial(d).textDue(0, sum.toString()).due(46, "fee").due(46, "textTold", 0, 1);
    new Trial(d).textDue(0, sum + "1").due(56, "fee").due(46, "textTold", 0, 1);
    faultDue(96, sum + "+");
    faultDue(95, sum + ")");
    goodDue(" ".repeat(91) + "fee 1");
    // As deep to the right as can be: each side waits for the next, and what is innermost decides.
    for (String inmost : new String[] {"0 0", "1 1", "(0-1) 0", "!!!!!!!1 0", "!!!!!!!0 1"}) {
      int bar = inmost.indexOf(' ');
      valueDue(inmost.charAt(bar + 1) - '0', "0|1&1<1+1*(".repeat(7) + inmost.substring(0, bar) + ")".repeat(7));
    }
    new Trial(d).textDue(0, "fee 1|(1&(1<(1+(1*(1|(1&(0<(1+1*1))))))))").due(1, "fee").due(11, "textTold", 0, 1);
  }

  private static void wraps() {
    d.says(26, "Ints wrap");
    valueDue(LEAST, "2048*1024*1024");
    valueDue(MOST, "2048*1024*1024-1");
    valueDue(LEAST, "2048*1024*1024-1+1");
    valueDue(0, "2048*1024*1024*2");
    valueDue(0, "2048*1024*1024+2048*1024*1024");
    valueDue(LEAST, "0-2048*1024*1024");
    valueDue(9999 * 9999 * 9999, "9999*9999*9999");
    valueDue(1, "2048*1024*1024<0");
    valueDue(1, "2048*1024*1024-1>0");
    valueDue(1, "2048*1024*1024=0-2048*1024*1024");
    valueDue(1, "2048*1024*1024<2048*1024*1024-1");
  }

  private static void divisions() {
    d.says(26, "/ is 0 by 0");
    valueDue(0, "7/0");
    valueDue(0, "0/0");
    valueDue(0, "7/(3-3)");
    valueDue(0, "7/o");
    valueDue(0, "7/o*5");
    valueDue(5, "7/0+5");
    valueDue(0, "2048*1024*1024/0");
    d.says(26, "All numbers are whole; / cuts towards 0.");
    valueDue(3, "7/2");
    valueDue(-3, "(0-7)/2");
    valueDue(-3, "7/(0-2)");
    valueDue(3, "(0-7)/(0-2)");
    valueDue(0, "(0-1)/2");
    valueDue(0, "1/9999");
    d.says(26, "Ints wrap");
    valueDue(LEAST, "2048*1024*1024/(0-1)");
    valueDue(MOST, "(2048*1024*1024+1)/(0-1)");
  }

  private static void truths() {
    d.says(26, "tests, & | ! give 1 or 0 (what is not 0 is true; both sides are worked out)");
    String[] falsehoods = {"0", "(3-3)", "(2048*1024*1024*2)"};
    String[] truths = {"1", "2", "9999", "(0-1)", "(2048*1024*1024)"};
    for (String no : falsehoods) {
      valueDue(1, "!" + no);
      valueDue(0, "!!" + no);
      valueDue(0, no + "|" + no);
      for (String yes : truths) {
        valueDue(0, yes + "&" + no);
        valueDue(0, no + "&" + yes);
        valueDue(1, yes + "|" + no);
        valueDue(1, no + "|" + yes);
      }
    }
    for (String yes : truths) {
      valueDue(0, "!" + yes);
      valueDue(1, "!!" + yes);
      valueDue(1, yes + "&" + yes);
      valueDue(1, yes + "|" + yes);
    }
    String[] tests = {"1<2 1", "2<2 0", "3<2 0", "1=2 0", "2=2 1", "3=2 0", "1>2 0", "2>2 0", "3>2 1", "0-1<0 1",
        "0-1>0 0"};
    for (String test : tests) {
      valueDue(test.charAt(test.length() - 1) - '0', test.substring(0, test.length() - 2));
    }
  }

  private static void textTold() {
    d.says(27, "Of a TEXT: what 0 KEY (0 fit, 1 fee, 2 fine), 1 how many NUMBERS and NAMES it has. BAD.");
    Trial t = new Trial(d).due(BAD, "textTold", 0, 0).tells("fine 1").tells("fit !(s)+007*p").tells("fee o");
    t.due(2, "textTold", 0, 0).due(0, "textTold", 1, 0).due(1, "textTold", 2, 0);
    t.due(1, "textTold", 0, 1).due(3, "textTold", 1, 1).due(1, "textTold", 2, 1);
    for (int text : new int[] {LEAST, NONE, -1, 3, 13, 14, MOST}) {
      t.due(BAD, "textTold", text, 0).due(BAD, "textTold", text, 1);
    }
    for (int what : new int[] {LEAST, NONE, -1, 2, MOST}) {
      t.due(BAD, "textTold", 0, what);
    }
    // Texts that were told behind an image are gone with its return.
    t.does("keep").tells("fee k").due(1, "textTold", 3, 0).does("back").due(BAD, "textTold", 3, 0);
  }

  private static void why() {
    d.says(28, "The TEXT that counts for a KEY. BAD; NONE.");
    Trial t = new Trial(d);
    for (int key : new int[] {LEAST, NONE, -1, 3, MOST}) {
      t.due(BAD, "why", key);
    }
    t.due(NONE, "why", 0).due(NONE, "why", 1).due(NONE, "why", 2);
    d.says(28, "Of a KEY that TEXT counts that was told last.");
    t.tells("fine 1").due(NONE, "why", 0).due(NONE, "why", 1).due(0, "why", 2).tells("fine 2").due(1, "why", 2);
    t.tells("fit 3").due(2, "why", 0).due(1, "why", 2).textDue(-104, "fine").due(1, "why", 2);
    t.does("keep").tells("fine 4").due(3, "why", 2).does("back").due(1, "why", 2).due(NONE, "why", 1);
  }
}
