import com.sun.management.ThreadMXBean;
import java.lang.management.ManagementFactory;
import java.lang.reflect.Array;
import java.lang.reflect.Field;
import java.lang.reflect.Modifier;
import java.util.IdentityHashMap;

/** All calls of a run live in one room: what an object keeps is small, and calls make nothing more. */
public final class RoomTest {
    private static final Due DUE = new Due("RoomTest");

    private final IdentityHashMap<Object, Boolean> seen = new IdentityHashMap<>();
    private int elements = 0;

    public static void main(String[] args) throws IllegalAccessException {
        aNewObjectIsSmall();
        imagesAreMadeOnce();
        callsMakeNothing();
        DUE.end();
    }

    private static RoomTest roomOf(Object object) throws IllegalAccessException {
        RoomTest room = new RoomTest();
        room.walk(object);
        return room;
    }

    private void walk(Object object) throws IllegalAccessException {
        if (object == null || seen.put(object, true) != null) {
            return;
        }
        if (object.getClass().isArray()) {
            elements += Array.getLength(object);
            for (int i = 0; i < Array.getLength(object) && object instanceof Object[]; i++) {
                walk(Array.get(object, i));
            }
            return;
        }
        for (Field field : object.getClass().getDeclaredFields()) {
            if (!Modifier.isStatic(field.getModifiers())) {
                elements++;
                field.setAccessible(true);
                if (!field.getType().isPrimitive()) {
                    walk(field.get(object));
                }
            }
        }
    }

    private static void isAtMost(String what, long got, long most) {
        DUE.is(what + " " + got + ", at most " + most, got <= most, true);
    }

    private static void aNewObjectIsSmall() throws IllegalAccessException {
        RoomTest room = roomOf(new RollCall());
        isAtMost("objects of a new one", room.seen.size(), 40);
        isAtMost("fields and elements of a new one", room.elements, 1000);
    }

    private static void imagesAreMadeOnce() throws IllegalAccessException {
        RollCall x = new RollCall();
        for (int i = 0; i < 512; i++) {
            x.image(i % 4);
            x.again((i + 1) % 4);
        }
        RoomTest room = roomOf(x);
        isAtMost("objects with four images", room.seen.size(), 150);
        isAtMost("fields and elements with four images", room.elements, 4000);
    }

    private static void callsMakeNothing() {
        ThreadMXBean threads = (ThreadMXBean) ManagementFactory.getThreadMXBean();
        RollCall x = new RollCall();
        for (int i = 0; i < 40; i++) {
            x.tag(i % 6, i * 77L, i);
        }
        callAll(x);
        long before = threads.getCurrentThreadAllocatedBytes();
        for (int i = 0; i < 2000; i++) {
            callAll(x);
        }
        isAtMost("bytes made by 2000 rounds", threads.getCurrentThreadAllocatedBytes() - before, 20000);
    }

    private static void callAll(RollCall x) {
        x.image(0);
        x.wire(1);
        x.tag(1, 5, 0);
        x.name(3);
        x.isName(305);
        x.act(4, 2);
        x.group(0, 0);
        x.pass();
        x.fork(0);
        x.verify(305);
        x.ask(0, 0);
        x.alone();
        x.descend();
        x.step();
        x.nodes();
        x.begin();
        x.split();
        x.frames();
        x.frame(64);
        for (int what = 0; what < 7; what++) {
            x.tell(0, what);
            x.heard(what);
            x.found(what);
            x.cost(what);
            x.count(what);
        }
        x.again(0);
    }
}
