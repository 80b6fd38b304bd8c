import java.lang.management.ManagementFactory;
import java.lang.reflect.Array;
import java.lang.reflect.Field;
import java.lang.reflect.Modifier;
import java.util.Collections;
import java.util.IdentityHashMap;
import java.util.Random;
import java.util.Set;

/** An object is small, its calls make nothing new, and no call throws but by a throw statement of the class. */
public final class RoomTests {
    private static final String BOG = "quarter 1 20;quarter 3 10;quarter 0 30;oven 0 5;oven 1 4;oven 2 2;oven 0 3;"
        + "oven 0 1;oven 1 2;oven 2 3;oven 0 4;reed 17 15;mooring 16 15;mooring 15 17;city 15 15;flour 9;";

    public static void main(String[] args) throws IllegalAccessException {
        size();
        nothingNew();
        onlyByThrow();
        Check.end("RoomTests");
    }

    private static void size() throws IllegalAccessException {
        BreadCity c = Check.cityOf(BOG);
        Set<Object> seen = Collections.newSetFromMap(new IdentityHashMap<>());
        long elements = walk(c, seen);
        System.out.println("an object: " + seen.size() + " objects and arrays, " + elements + " fields and elements");
        Check.report(seen.size() <= 200, seen.size() + " objects and arrays");
        Check.report(elements <= 10000, elements + " fields and elements");
    }

    private static long walk(Object object, Set<Object> seen) throws IllegalAccessException {
        if (object == null || !seen.add(object)) {
            return 0;
        }
        long sum = 0;
        if (object.getClass().isArray()) {
            sum = Array.getLength(object);
            for (int i = 0; i < Array.getLength(object) && !object.getClass().getComponentType().isPrimitive(); i++) {
                sum += walk(Array.get(object, i), seen);
            }
            return sum;
        }
        for (Field field : object.getClass().getDeclaredFields()) {
            if (!Modifier.isStatic(field.getModifiers())) {
                field.setAccessible(true);
                sum++;
                sum += field.getType().isPrimitive() ? 0 : walk(field.get(object), seen);
            }
        }
        return sum;
    }

    private static void nothingNew() {
        com.sun.management.ThreadMXBean bean = (com.sun.management.ThreadMXBean) ManagementFactory.getThreadMXBean();
        BreadCity c = Check.cityOf(BOG);
        long id = Thread.currentThread().getId();
        long most = 0;
        for (int i = 0; i < 60; i++) {
            Check.tell(c, "light 0;hour;cold 1;onions 2 7;again 3[quench 2;];");
            long before = bean.getThreadAllocatedBytes(id);
            c.work(50);
            asked(c);
            long made = bean.getThreadAllocatedBytes(id) - before;
            // what the measuring itself makes is in the first rounds alone
            most = i < 30 ? 0 : Math.max(most, made);
        }
        Check.report(most < 1000, "a round of calls made " + most + " bytes");
    }

    private static void asked(BreadCity c) {
        c.told(11);
        c.quarter(2, 5);
        c.drift(1);
        c.would(1, 2, 3, 4, 5, 0, 7);
        c.ahead(99, 2);
        c.pilot(0, 12);
        c.trim(1);
        c.steps(1);
        c.fits(0);
        c.look(1);
        c.gusts(12, 6, 5, 1);
        c.bakers(9, 44, 1);
        c.sacks(1, 7, 44);
        c.leagues();
        c.key(2);
        c.wreck();
        c.cool(1);
        c.season(5, 5, 96, 0);
        c.span(5, 20, 5, 96, 2);
        c.image();
        c.restore();
        c.undo();
    }

    private static void onlyByThrow() {
        Random random = new Random(7);
        int refused = 0;
        for (int run = 0; run < 400; run++) {
            BreadCity c = run % 4 == 0 ? new BreadCity() : Check.cityOf(BOG);
            for (int i = 0; i < 120; i++) {
                try {
                    call(c, random);
                } catch (RuntimeException e) {
                    refused++;
                    String by = e.getStackTrace()[0].getMethodName();
                    Check.report(by.equals("needWithin") || by.equals("needThere"), e + " thrown in " + by);
                }
            }
            Check.is("refusals counted", c.status(0) + c.status(1), refused);
            refused = 0;
        }
    }

    private static int number(Random random) {
        int[] edges = {Integer.MIN_VALUE, Integer.MAX_VALUE, -1, 0, 1, 6, 8, 31, 32, 600, 1 << 30, -2};
        return random.nextInt(3) == 0 ? edges[random.nextInt(edges.length)] : random.nextInt(12) - 1;
    }

    private static long call(BreadCity c, Random r) {
        switch (r.nextInt(36)) {
            case 0: return c.feed(r.nextInt(), r.nextInt(), r.nextInt(), r.nextInt(), r.nextInt());
            case 1: return c.bog(number(r));
            case 2: return c.law(number(r));
            case 3: return c.work(number(r));
            case 4: return c.book(number(r));
            case 5: return c.fault() + c.undo() + c.leagues() + c.wreck() + c.safe() + c.image() + c.restore();
            case 6: return c.told(number(r));
            case 7: return c.quarter(number(r), number(r));
            case 8: return c.oven(number(r), number(r));
            case 9: return c.mooring(number(r), number(r));
            case 10: return c.reed(number(r), number(r));
            case 11: return c.drift(number(r));
            case 12: return c.would(number(r), number(r), number(r), number(r), number(r), number(r), number(r));
            case 13: return c.ahead(number(r), number(r));
            case 14: return c.pilot(number(r), number(r));
            case 15: return c.trim(number(r));
            case 16: return c.steps(number(r));
            case 17: return c.fits(number(r));
            case 18: return c.look(number(r));
            case 19: return c.gusts(number(r), number(r), number(r), number(r));
            case 20: return c.bakers(number(r), number(r), number(r));
            case 21: return c.sacks(number(r), number(r), number(r));
            case 22: return c.key(number(r));
            case 23: return c.nearest(number(r));
            case 24: return c.sweetest(number(r));
            case 25: return c.heaviest(number(r));
            case 26: return c.side(number(r));
            case 27: return c.room(number(r));
            case 28: return c.cool(number(r));
            case 29: return c.season(number(r), number(r), number(r), number(r));
            case 30: return c.span(number(r), number(r), number(r), number(r), number(r));
            case 31: return c.status(number(r));
            case 32: return c.count(number(r));
            case 33: return Check.work(c, "light 0;light 1;cold 2;hour;hour;again 30[hour;];");
            case 34: return Check.law(c, "bread * 999 * hour - others % (onions - 3) / (lit - 1)");
            default: return Check.book(c, "3 15 15;5 16 16;");
        }
    }
}
