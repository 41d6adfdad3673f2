import java.lang.reflect.Array;
import java.lang.reflect.Field;
import java.lang.reflect.Modifier;
import java.util.ArrayDeque;
import java.util.Collections;
import java.util.Deque;
import java.util.IdentityHashMap;
import java.util.Random;
import java.util.Set;

/**
 * The room that an object takes: its objects and arrays, their fields and elements. All calls of a
 * run share one room (some 600,000 and 7.3 million), so 512 calls on an object mustn't add to it.
 */
public final class RoomTest {
  private static final int MOST_OBJECTS = 200, MOST_ELEMENTS = 10000;
  private static int wrong = 0;

  public static void main(String[] args) throws IllegalAccessException {
    LightScript x = new LightScript();
    int[] before = room(x);
    due("objects and arrays below " + MOST_OBJECTS, before[0] < MOST_OBJECTS, before[0]);
    due("fields and elements below " + MOST_ELEMENTS, before[1] < MOST_ELEMENTS, before[1]);
    use(x);
    int[] after = room(x);
    due("as many objects after 512 calls as " + before[0], after[0] == before[0], after[0]);
    due("as many elements after 512 calls as " + before[1], after[1] == before[1], after[1]);
    System.out.println(wrong == 0 ? "all answers are as due" : wrong + " answers are not as due");
    if (wrong != 0) {
      System.exit(1);
    }
  }

  private static void due(String what, boolean holds, int got) {
    if (!holds) {
      wrong++;
      System.out.println(what + " are due, there are " + got);
    }
  }

  /** 512 calls, of each sort that keeps something. */
  private static void use(LightScript x) {
    Random dice = new Random(1);
    x.kind(0, 5, 50, 5, 20015);
    x.barge(0, 10, 10, 40);
    int calls = 2;
    int[] rows = {3, 0, -1, 5, 0};
    while (calls < 512 - 30) {
      int d = dice.nextInt(6);
      x.tape(d, 1, 10 + dice.nextInt(80));
      x.put(d, 0, 2);
      x.put(d, 1, 1 + dice.nextInt(50));
      for (int i = 0; i < rows.length; i++) {
        x.put(d, 2 + i, rows[i]);
      }
      x.write(d);
      x.put(d, 0, 3);
      x.put(d, 2, 0);
      x.hold(d);
      x.lay(4);
      x.meter(dice.nextInt(4), 5, 5);
      x.seen(dice.nextInt(600), 2);
      x.fault(dice.nextInt(5), 6);
      x.dud(dice.nextInt(5));
      x.strange();
      x.keep(dice.nextInt(6));
      x.toss(dice.nextInt(6));
      x.back(dice.nextInt(6));
      x.copy(d, 0, d, 1, 5);
      x.proof(d, 1);
      x.stretch(0, 1 + dice.nextInt(3), 1 + dice.nextInt(2));
      calls += 25;
    }
  }

  /** How many objects and arrays can be reached from it, and how many fields and elements. */
  private static int[] room(Object from) throws IllegalAccessException {
    Set<Object> found = Collections.newSetFromMap(new IdentityHashMap<>());
    Deque<Object> ahead = new ArrayDeque<>();
    found.add(from);
    ahead.add(from);
    int elements = 0;
    while (!ahead.isEmpty()) {
      Object next = ahead.remove();
      if (next.getClass().isArray()) {
        elements += Array.getLength(next);
        for (int i = 0; next instanceof Object[] && i < Array.getLength(next); i++) {
          reach(Array.get(next, i), found, ahead);
        }
        continue;
      }
      for (Field field : next.getClass().getDeclaredFields()) {
        if (Modifier.isStatic(field.getModifiers())) {
          continue;
        }
        elements++;
        field.setAccessible(true);
        if (!field.getType().isPrimitive()) {
          reach(field.get(next), found, ahead);
        }
      }
    }
    return new int[] {found.size(), elements};
  }

  private static void reach(Object object, Set<Object> found, Deque<Object> ahead) {
    if (object != null && found.add(object)) {
      ahead.add(object);
    }
  }
}
