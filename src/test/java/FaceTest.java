import java.lang.reflect.Constructor;
import java.lang.reflect.Field;
import java.lang.reflect.Member;
import java.lang.reflect.Method;
import java.lang.reflect.Modifier;
import java.util.Set;
import java.util.TreeSet;

/**
 * "The public face": the class has what the document's Java block says, with the same types and
 * numbers, and everything else in it is private. Its classes inside are static, and no private
 * method bears the name of a public one.
 */
public final class FaceTest {
  /** The document's Java block, word for word. */
  private static final String FACE = """
      public static final int NONE = -1, FULL = -2, UNABLE = -3, SPENT = -4, EARLY = -5;
      public static final int NOTHING = -11, CAST = -12, PLACE = -13, SIZE = -14, THROWN = -15;
      public LightScript();
      public int begin();
      public int cell(int x, int y, int what);
      public int kind(int k, int lift, int height, int spread, int rest);
      public int barge(int s, int x, int y, int channels);
      public int wind(int w, int layer, int dx, int dy);
      public int apart(int g);
      public int may(int s, int k);
      public int safe(int k, int s, int angle, int w);
      public int hot(int k, int s, int angle, int w, int i);
      public int write(int d);
      public int cue(int c, int what) throws IllegalArgumentException, IllegalStateException;
      public int stretch(int f, int p, int q);
      public int lay(int n);
      public int proof(int d, int n);
      public int place(int c, int s);
      public int meter(int w, int from, int known);
      public int knows(int tick);
      public int hold(int d);
      public int holdless();
      public int fault(int c, int what);
      public int halt(int tick);
      public int fate(int c);
      public int goes(int c, int what) throws IllegalArgumentException, IllegalStateException;
      public int many(int fate);
      public int order(int i);
      public int seen(int tick, int colour);
      public int unseen();
      public int duds();
      public int dud(int c);
      public int strange();
      public int tape(int d, int sort, int n);
      public int keep(int d);
      public int back(int d);
      public int toss(int d);
      public int clear(int d);
      public int put(int d, int i, long v);
      public long at(int d, int i) throws IllegalArgumentException, IllegalStateException;
      public int copy(int d, int i, int e, int j, int n);
      public int count(int what);
      """;
  private static int wrong = 0;

  public static void main(String[] args) throws IllegalAccessException {
    Set<String> due = new TreeSet<>();
    Set<String> has = new TreeSet<>();
    readBlock(due);
    lookAtClass(has);
    for (String member : due) {
      if (!has.contains(member)) {
        tell("the class lacks " + member);
      }
    }
    for (String member : has) {
      if (!due.contains(member)) {
        tell("the document doesn't have " + member);
      }
    }
    lookInside();
    System.out.println(wrong == 0 ? "all answers are as due" : wrong + " answers are not as due");
    if (wrong != 0) {
      System.exit(1);
    }
  }

  private static void tell(String what) {
    wrong++;
    System.out.println(what);
  }

  /** Constants as "NAME = -1"; methods without the names of their parameters. */
  private static void readBlock(Set<String> due) {
    for (String line : FACE.split("\n")) {
      if (line.startsWith("public static final int ")) {
        String constants = line.substring("public static final int ".length());
        for (String constant : constants.replace(";", "").split(", ")) {
          due.add(constant);
        }
      } else {
        String member = line.substring("public ".length()).replace(";", "");
        due.add(member.replaceAll("(int|long) \\w+([,)])", "$1$2"));
      }
    }
  }

  private static void lookAtClass(Set<String> has) throws IllegalAccessException {
    Class<?> face = LightScript.class;
    if (face.getModifiers() != (Modifier.PUBLIC | Modifier.FINAL)) {
      tell("the class isn't public and final");
    }
    if (face.getSuperclass() != Object.class || face.getInterfaces().length != 0) {
      tell("the class extends or implements something");
    }
    for (Field field : face.getDeclaredFields()) {
      if (!Modifier.isPrivate(field.getModifiers())) {
        boolean constant = field.getModifiers()
            == (Modifier.PUBLIC | Modifier.STATIC | Modifier.FINAL) && field.getType() == int.class;
        has.add(constant ? field.getName() + " = " + field.getInt(null) : field.toString());
      }
    }
    for (Constructor<?> constructor : face.getDeclaredConstructors()) {
      has.add(signature(constructor, constructor.getParameterTypes(),
          constructor.getExceptionTypes()));
    }
    for (Method method : face.getDeclaredMethods()) {
      if (!Modifier.isPrivate(method.getModifiers())) {
        has.add((Modifier.isStatic(method.getModifiers()) ? "static " : "")
            + method.getReturnType().getSimpleName() + " "
            + signature(method, method.getParameterTypes(), method.getExceptionTypes()));
      }
    }
  }

  private static String signature(Member member, Class<?>[] types, Class<?>[] thrown) {
    String access = Modifier.isPublic(member.getModifiers()) ? "" : "not public ";
    String name = member.getName();
    return access + name + "(" + names(types) + ")"
        + (thrown.length == 0 ? "" : " throws " + names(thrown));
  }

  private static String names(Class<?>[] types) {
    StringBuilder names = new StringBuilder();
    for (Class<?> type : types) {
      names.append(names.length() == 0 ? "" : ", ").append(type.getSimpleName());
    }
    return names.toString();
  }

  private static void lookInside() {
    Set<String> open = new TreeSet<>();
    Set<String> closed = new TreeSet<>();
    for (Method method : LightScript.class.getDeclaredMethods()) {
      (Modifier.isPublic(method.getModifiers()) ? open : closed).add(method.getName());
    }
    for (Class<?> inner : LightScript.class.getDeclaredClasses()) {
      int access = inner.getModifiers();
      if (!Modifier.isStatic(access) || Modifier.isPublic(access) || Modifier.isProtected(access)) {
        tell(inner.getSimpleName() + " isn't static, or is to be seen from outside");
      }
      for (Method method : inner.getDeclaredMethods()) {
        if (Modifier.isPrivate(method.getModifiers())) {
          closed.add(method.getName());
        }
      }
      for (Field field : inner.getDeclaredFields()) {
        lookAtStatic(field);
      }
    }
    for (Field field : LightScript.class.getDeclaredFields()) {
      lookAtStatic(field);
    }
    for (String name : closed) {
      if (open.contains(name)) {
        tell("a private method bears the name of the public " + name);
      }
    }
  }

  /** No answer of one object depends on another: nothing that changes is shared. */
  private static void lookAtStatic(Field field) {
    if (Modifier.isStatic(field.getModifiers()) && !Modifier.isFinal(field.getModifiers())) {
      tell(field + " is static and may change");
    }
  }
}
