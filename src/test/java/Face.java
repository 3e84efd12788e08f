import java.lang.reflect.Constructor;
import java.lang.reflect.Field;
import java.lang.reflect.Method;
import java.lang.reflect.Modifier;
import java.util.ArrayList;
import java.util.Arrays;
import java.util.List;
import java.util.TreeSet;

/** The public face as the document has it, and what the classes inside are. */
public final class Face {
  private static final String[] FACE = {"house 4", "told 2", "as 2", "turns 2", "set 3", "rule 2", "deal 1", "seed 1",
      "round 0", "load 1", "nights 1", "terrace 1", "behind 2", "cold 1", "shut 1", "cement 1", "cast 3", "becomes 3",
      "ears 2", "like 2", "fee 0", "fine 1", "feed 3", "trim 1", "text 0", "textTold 2", "why 1", "sheet 3", "mark 3",
      "pour 1", "reads 1", "copy 5", "lay 3", "ask 2", "item 2", "rest 2", "tell 1", "check 1", "keep 0", "back 0",
      "count 1"};
  private static final String[] CONSTANTS = {"BAD -1000000001", "NO -1000000002", "FULL -1000000003",
      "NONE -1000000005", "NOTHING -1000000011", "KIND -1000000012", "INDEX -1000000013", "SIZE -1000000014"};

  private static int wrong = 0;

  private static void hold(String rule, boolean holds) {
    if (!holds) {
      wrong++;
      System.out.println("does not hold: " + rule);
    }
  }

  public static void main(String[] args) throws Exception {
    face();
    classesInside();
    System.out.println(wrong == 0 ? "all rules hold" : wrong + " rules do not hold");
    if (wrong != 0) {
      System.exit(1);
    }
  }

  private static void face() throws Exception {
    int modifiers = CoalHoles.class.getModifiers();
    hold("public final class", Modifier.isPublic(modifiers) && Modifier.isFinal(modifiers));
    TreeSet<String> methods = new TreeSet<>();
    for (Method m : CoalHoles.class.getDeclaredMethods()) {
      if (!Modifier.isPrivate(m.getModifiers())) {
        methods.add(m.getName() + " " + m.getParameterCount());
        boolean ints = m.getReturnType() == int.class
            && Arrays.stream(m.getParameterTypes()).allMatch(t -> t == int.class);
        hold(m + " is a public method of ints", ints && m.getModifiers() == Modifier.PUBLIC);
      } else {
        hold(m + " bears a name of its own", !isOfTheFace(m.getName()));
      }
    }
    hold("the methods of the face, and no others: " + methods, methods.equals(new TreeSet<>(Arrays.asList(FACE))));
    TreeSet<String> constants = new TreeSet<>();
    for (Field f : CoalHoles.class.getDeclaredFields()) {
      if (!Modifier.isPrivate(f.getModifiers())) {
        hold(f + " is a constant", f.getModifiers() == (Modifier.PUBLIC | Modifier.STATIC | Modifier.FINAL));
        constants.add(f.getName() + " " + f.getInt(null));
      }
    }
    hold("the constants: " + constants, constants.equals(new TreeSet<>(Arrays.asList(CONSTANTS))));
    Constructor<?>[] constructors = CoalHoles.class.getDeclaredConstructors();
    hold("one public constructor", constructors.length == 1 && constructors[0].getModifiers() == Modifier.PUBLIC
        && constructors[0].getParameterCount() == 0);
  }

  private static boolean isOfTheFace(String name) {
    return Arrays.stream(FACE).anyMatch(f -> f.startsWith(name + " "));
  }

  private static void classesInside() {
    List<Class<?>> classes = new ArrayList<>(Arrays.asList(CoalHoles.class.getDeclaredClasses()));
    hold("at most twelve classes", classes.size() + 1 <= 12);
    for (Class<?> c : classes) {
      hold(c + " is static", Modifier.isStatic(c.getModifiers()));
      hold(c + " is not public", !Modifier.isPublic(c.getModifiers()) && !Modifier.isProtected(c.getModifiers()));
      for (Method m : c.getDeclaredMethods()) {
        hold(m + " bears a name of its own", !isOfTheFace(m.getName()));
      }
    }
    classes.add(CoalHoles.class);
    for (Class<?> c : classes) {
      int fields = 0;
      for (Field f : c.getDeclaredFields()) {
        boolean shared = Modifier.isStatic(f.getModifiers());
        fields += shared ? 0 : 1;
        hold(f + ", static, is final", !shared || Modifier.isFinal(f.getModifiers()));
      }
      hold(c + " has at most twenty fields", fields <= 20);
      for (Method m : c.getDeclaredMethods()) {
        hold(m + " takes at most seven", m.getParameterCount() <= 7);
      }
    }
  }
}
