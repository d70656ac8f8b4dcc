import java.lang.management.ManagementFactory;
import java.util.Random;

/** All calls of a run live in one room: what 512 calls allocate. And odd arguments in odd states throw nothing. */
public final class RoomTest {
    private static final Checks C = new Checks("RoomTest");
    private static final int[] ODD = {
        Integer.MIN_VALUE, Integer.MIN_VALUE + 1, -1000000, -7, -2, -1, 0, 1, 2, 3, 4, 5, 6, 7, 15, 16, 99, 100, 399, 400,
        999, 1000, 9999, 10000, 1000000, 1000001, Integer.MAX_VALUE - 1, Integer.MAX_VALUE};

    public static void main(String[] args) {
        oddArguments();
        made();
        dearest();
        lawsAgain();
        C.finish();
    }

    private static long allocated() {
        return ((com.sun.management.ThreadMXBean) ManagementFactory.getThreadMXBean())
            .getThreadAllocatedBytes(Thread.currentThread().getId());
    }

    /** An int has 4 bytes: 7.3 million of them in a room, so some 57,000 bytes a call if 512 objects were made. */
    private static void made() {
        new WordSlides();
        long ahead = allocated();
        WordSlides x = new WordSlides();
        long bytes = allocated() - ahead;
        C.due("bytes of an object: " + bytes, bytes < 40000 && x.status() == 0 ? 1 : 0, 1);
    }

    private static void dearest() {
        WordSlides warm = full();
        round(warm, 0);
        WordSlides x = full();
        long ahead = allocated();
        for (int i = 0; i < 30; i++) {
            round(x, i);
        }
        long bytes = allocated() - ahead;
        C.due("bytes of dear calls: " + bytes, bytes < 60000 ? 1 : 0, 1);
    }

    private static WordSlides full() {
        WordSlides x = new WordSlides();
        for (int i = 0; i < 16; i++) {
            x.word(1 + i % 9, i % 10, 0);
            x.often(i, 1 + i);
        }
        for (int i = 0; i < 6; i++) {
            x.put(i, 0, 100);
            x.put(i, 1, 150 + i);
            x.put(i, 3, i % 2);
            x.talk(i, i % 4, 1);
            x.mean(0);
        }
        x.force(Texts.law(x, "shakes long * loud + snow % 7;bars if word = 3 and day % 5 = 1;falls 3;thaws snow / 40"));
        return x;
    }

    private static void round(WordSlides x, int i) {
        x.saying(0, 1, 1);
        x.plan(4, WordSlides.NONE);
        x.bring(i % 6, 0, WordSlides.NONE);
        x.threat(i % 6, 0, 1);
        x.winter(i, 100);
        x.holds(0, 3);
        x.signs();
        x.image(i % 2);
        x.say(0, i % 3, 0, 1);
        x.dawn();
        x.feed(0x73617920, 0x30206174, 0x2030206c, 0x6f756420, 0x31202020);
        x.told();
        x.feed(0x73617920, 0x30206174, 0x2030206c, 0x6f756420, 0x78202020);
        x.law();
        x.undo();
        x.back(i % 2);
    }

    /** The dearest that is made again and again: a law, read behind each back(). */
    private static void lawsAgain() {
        WordSlides x = new WordSlides();
        String text = "shakes 1" + "+1".repeat(37) + ";bars if 1=1".repeat(5).substring(0, 60);
        x.image(0);
        Texts.law(x, text);
        long ahead = 0;
        long bytes = 0;
        for (int i = 0; i < 100; i++) {
            x.back(0);
            Texts.feed(x, text);
            ahead = allocated();
            C.due("law", x.law(), 0);
            bytes += allocated() - ahead;
        }
        C.due("bytes of 100 laws: " + bytes, bytes < 200000 ? 1 : 0, 1);
    }

    private static void oddArguments() {
        for (int seed = 0; seed < 400; seed++) {
            Random r = new Random(seed);
            WordSlides x = seed % 3 == 0 ? new WordSlides() : full();
            for (int i = 0; i < 512; i++) {
                odd(x, r);
            }
            C.due("status", x.status() <= 0 && x.status() >= -6 ? 1 : 0, 1);
        }
    }

    private static int any(Random r) {
        return ODD[r.nextInt(ODD.length)];
    }

    private static void odd(WordSlides x, Random r) {
        int a = any(r);
        int b = any(r);
        int c = any(r);
        int d = any(r);
        int e = any(r);
        switch (r.nextInt(40)) {
            case 0: x.put(a, b, c); break;
            case 1: x.of(a, b); break;
            case 2: x.word(a, b, c); break;
            case 3: x.at(a, b); break;
            case 4: x.often(a, b); break;
            case 5: x.terms(a, b); break;
            case 6: x.feed(a, b, c, d, e); break;
            case 7: x.end(a); break;
            case 8: x.row(); break;
            case 9: x.murmur(); break;
            case 10: x.law(); break;
            case 11: x.told(); break;
            case 12: x.fault(); break;
            case 13: x.stopped(); break;
            case 14: x.force(a); break;
            case 15: x.asks(a, b, c, d, e); break;
            case 16: x.weather(a, b); break;
            case 17: x.say(a, b, c, d); break;
            case 18: x.dawn(); break;
            case 19: x.undo(); break;
            case 20: x.share(a, b, c); break;
            case 21: x.mean(a); break;
            case 22: x.hush(); break;
            case 23: x.saying(a, b, c); break;
            case 24: x.talk(a, b, c); break;
            case 25: x.cancel(); break;
            case 26: x.plan(a, b); break;
            case 27: x.bring(a, b, c); break;
            case 28: x.threat(a, b, c); break;
            case 29: x.seen(a, b, c); break;
            case 30: x.forget(); break;
            case 31: x.holds(a, b); break;
            case 32: x.signs(); break;
            case 33: x.winter(a, b); break;
            case 34: x.drawn(a, b); break;
            case 35: x.image(a); break;
            case 36: x.back(a); break;
            case 37: x.count(a); break;
            case 38: x.status(); break;
            default: Texts.feed(x, new RandomText(r, r.nextBoolean(), 3).text()); break;
        }
    }
}
