import java.lang.management.ManagementFactory;
import java.lang.reflect.InvocationTargetException;
import java.lang.reflect.Method;
import java.util.ArrayList;
import java.util.List;
import java.util.Random;

/** No call throws, whatever it is told, and none takes memory that the constructor has not taken already. */
public final class RoomTest {
    private static final int[] EDGES = {Integer.MIN_VALUE, Integer.MIN_VALUE + 1, -1000, -3, -2, -1, 0, 1, 2, 3, 4, 5, 7, 8,
        9, 10, 11, 12, 13, 15, 16, 17, 20, 23, 24, 25, 99, 100, 160, 161, 200, 201, 220, 231, 232, 999, 1000, 65535, 65536,
        Integer.MAX_VALUE - 1, Integer.MAX_VALUE};

    private static final String SIGNS = "aaabbbccdefghijkl,,;;>>++--~~??..0123456789()[]!&|<>=*/%timsnqrxhyfpvdw";

    public static void main(String[] args) throws Exception {
        List<Method> face = new ArrayList<>();
        for (Method method : WordWar.class.getDeclaredMethods()) {
            if (java.lang.reflect.Modifier.isPublic(method.getModifiers())) {
                face.add(method);
            }
        }
        face.sort((a, b) -> a.getName().compareTo(b.getName()));
        for (int seed = 0; seed < 480; seed++) {
            edges(new Random(seed), face);
        }
        room();
        Due.end();
    }

    private static void edges(Random random, List<Method> face) throws Exception {
        WordWar war = new WordWar();
        Due.lexicon(war, 0, "ab,ba,abc,c,a,aaaaaaaa,l");
        Due.lexicon(war, 1, "ab,b,bc,cb,cba,bbbbbbbb,kl");
        Due.law(war, "vs/[m-2]+t(!t%i=1|1=1);fr(1=1);pr/2(q>s);d5(h>0);w1/x(y>2)");
        int thrown = 0;
        for (int i = 0; i < 220; i++) {
            Method method = face.get(random.nextInt(face.size()));
            Object[] told = new Object[method.getParameterCount()];
            for (int k = 0; k < told.length; k++) {
                told[k] = random.nextInt(3) == 0 ? EDGES[random.nextInt(EDGES.length)] : random.nextInt(13);
            }
            if (method.getName().equals("feed") || random.nextInt(4) == 0) {
                war.feed(signs(random), signs(random), signs(random), signs(random), signs(random));
            }
            try {
                method.invoke(war, told);
            } catch (InvocationTargetException e) {
                thrown++;
                System.out.println(method.getName() + java.util.Arrays.toString(told) + " threw " + e.getCause());
            }
        }
        Due.is("nothing is thrown", thrown, 0);
    }

    private static int signs(Random random) {
        int number = 0;
        for (int i = 0; i < 4; i++) {
            number = number << 8 | SIGNS.charAt(random.nextInt(SIGNS.length()));
        }
        return number;
    }

    /** The same run of calls again and again on one object: behind the first times nothing more is taken. */
    private static void room() {
        com.sun.management.ThreadMXBean threads = (com.sun.management.ThreadMXBean) ManagementFactory.getThreadMXBean();
        long thread = Thread.currentThread().getId();
        WordWar war = new WordWar();
        long least = Long.MAX_VALUE;
        for (int again = 0; again < 5; again++) {
            long before = threads.getThreadAllocatedBytes(thread);
            everyCall(war);
            least = Math.min(least, threads.getThreadAllocatedBytes(thread) - before);
        }
        Due.is("bytes taken by every call once", least, 0);
        long before = threads.getThreadAllocatedBytes(thread);
        new WordWar();
        long taken = threads.getThreadAllocatedBytes(thread) - before;
        Due.is("a new object takes some 45,000 bytes: " + taken, taken < 60000, true);
    }

    private static void everyCall(WordWar war) {
        int abab = 'a' << 24 | 'b' << 16 | ',' << 8 | 'b';
        war.feed(abab, 0, 0, 0, 0);
        war.lexicon(0, 4);
        war.feed(abab, 0, 0, 0, 0);
        war.lexicon(1, 4);
        war.feed('v' << 24 | 's' << 16 | '(' << 8 | '1', '=' << 24 | '1' << 16 | ')' << 8, 0, 0, 0);
        war.law(7);
        for (int letter = 0; letter < 12; letter++) {
            war.strength(letter, letter);
            war.reserve(0, letter, 3);
            war.reserve(1, letter, 3);
        }
        war.feed(0x00010203, 0x04050607, 0x08090a0b, 0, 0);
        war.order(0);
        war.keep();
        war.feed('+' << 24 | 'a' << 16 | 'b' << 8 | ';', '+' << 24 | 'b' << 16, 0, 0, 0);
        war.orders(0, 6);
        war.feed('+' << 24 | 'b' << 16, 0, 0, 0, 0);
        war.judged(1, 2);
        war.feed('+' << 24 | 'b' << 16, 0, 0, 0, 0);
        war.orders(1, 2);
        war.feed('a' << 24 | 'b' << 16 | '>' << 8 | 'b', 0, 0, 0, 0);
        war.orders(0, 4);
        war.turn();
        war.word(0, 0, 4);
        war.beats(0, 0);
        war.place(0, 0, 0);
        war.best(0, 0);
        war.against(0, 0);
        war.atOnce(0);
        war.exchange(0, 0);
        war.exchanged(0, 0, 1);
        war.home(0, 1);
        war.peace(0, 0, 20);
        war.spy(0, 0, 1);
        war.feed('a' << 24 | '>' << 16 | 'b' << 8, 0, 0, 0, 0);
        war.fight(3);
        war.learnt(-1);
        war.ahead(0, 1);
        war.skirmish(0);
        war.forget();
        war.soldier(0, 0, 0, 0, 1);
        war.march(0, 0, 0, 0, -1);
        war.dead(0, -1);
        war.seed(5);
        war.undo();
        war.check(0, 0);
        war.count(3);
    }
}
