import java.lang.reflect.Array;
import java.lang.reflect.Field;
import java.lang.reflect.Modifier;
import java.util.ArrayList;
import java.util.IdentityHashMap;
import java.util.List;
import java.util.Map;

/** How much an abbey holds: all is made with it, and no later call makes it more, as all calls of a run live in one room. */
public final class RoomTest {
  private static final Check check = new Check("RoomTest");
  private static final String TEXT = "stuff a 99;stuff b 50;day x;day y feast;mix x a 5;mix y b 7;room r 100;room s 40;monk m r 3;monk n s 2;"
      + "linger 20;law air much*part/100+left/2+wind;law keen nose+date/9;law worth much/2;";

  private final Map<Object, Boolean> seen = new IdentityHashMap<>();
  private int elements;

  public static void main(String[] args) throws Exception {
    SmellAbbey abbey = new SmellAbbey();
    RoomTest fresh = of(abbey);
    check.due("objects " + fresh.seen.size(), fresh.seen.size() <= 150, true);
    check.due("fields and elements " + fresh.elements, fresh.elements <= 3000, true);
    for (int i = 0; i < 20; i++) {
      Check.tell(abbey, i % 3 == 2 ? TEXT + "!" : TEXT);
      use(abbey);
    }
    RoomTest used = of(abbey);
    check.due("objects of a used one " + used.seen.size(), used.seen.size() <= fresh.seen.size(), true);
    check.due("fields and elements of a used one " + used.elements, used.elements <= fresh.elements, true);
    check.end();
  }

  private static void use(SmellAbbey abbey) {
    abbey.cold(0, 0, true);
    abbey.wind(1, 3);
    abbey.keep();
    abbey.go(3);
    abbey.note(2, 0, 1, true);
    abbey.out(0);
    abbey.colds(0);
    abbey.chance(3, 9, 4);
    abbey.rests(5);
    abbey.inPlace(0, 1);
    abbey.mixedUp(1);
    abbey.tried(1, 0, 9);
    abbey.lasts(0);
    abbey.back();
    abbey.undo();
  }

  private static RoomTest of(Object root) throws Exception {
    RoomTest room = new RoomTest();
    List<Object> open = new ArrayList<>();
    open.add(root);
    while (!open.isEmpty()) {
      Object one = open.remove(open.size() - 1);
      if (one != null && room.seen.put(one, true) == null) {
        room.enter(one, open);
      }
    }
    return room;
  }

  private void enter(Object one, List<Object> open) throws Exception {
    if (one.getClass().isArray()) {
      elements += Array.getLength(one);
      for (int i = 0; !one.getClass().getComponentType().isPrimitive() && i < Array.getLength(one); i++) {
        open.add(Array.get(one, i));
      }
      return;
    }
    for (Field field : one.getClass().getDeclaredFields()) {
      if (!Modifier.isStatic(field.getModifiers())) {
        elements++;
        field.setAccessible(true);
        if (!field.getType().isPrimitive()) {
          open.add(field.get(one));
        }
      }
    }
  }
}
