import java.util.Random;

/** Any numbers in any state: no call throws. What it answers is looked at by the other tests. */
public final class WildTest {
    private static final int[] EDGES = {0, 1, -1, 2, 5, 23, 24, 39, 40, 199, 200, 201, 399, 400, 401,
        499, 500, -600, 1099, 2000, 2500, Integer.MAX_VALUE, Integer.MIN_VALUE, -2, -1000};

    private static Random random;

    public static void main(String[] args) {
        for (long seed = 1; seed <= 60; seed++) {
            random = new Random(seed);
            PostHouses x = new PostHouses();
            for (int i = 0; i < 512; i++) {
                call(x, random.nextInt(34));
            }
        }
        System.out.println("no call has thrown");
    }

    private static int any() {
        switch (random.nextInt(8)) {
            case 0:
                return random.nextInt();
            case 1:
            case 2:
                return EDGES[random.nextInt(EDGES.length)];
            case 3:
                return random.nextInt(500);
            default:
                return random.nextInt(6);
        }
    }

    private static void call(PostHouses x, int which) {
        switch (which) {
            case 0 -> x.hole(any(), any(), any(), any(), any());
            case 1 -> x.retell(any(), any(), any());
            case 2 -> x.strike(any(), any());
            case 3 -> x.trench(any(), any(), any(), any(), any());
            case 4 -> x.plough(any(), any(), any(), any(), any());
            case 5 -> x.error(any());
            case 6 -> x.frame(any(), any());
            case 7 -> x.spot(any(), any(), any());
            case 8 -> x.feed(any(), any(), any(), any(), any());
            case 9 -> x.end(any());
            case 10 -> x.kinds();
            case 11 -> x.fault();
            case 12 -> x.houses(any());
            case 13 -> x.house(any(), any(), any());
            case 14 -> x.place(any(), any(), any(), any());
            case 15 -> x.explained(any(), any());
            case 16 -> x.strength(any(), any());
            case 17 -> x.cut(any(), any(), any());
            case 18 -> x.pair(any(), any(), any(), any());
            case 19 -> x.phases(any(), any());
            case 20 -> x.phase(any(), any());
            case 21 -> x.date(any(), any(), any(), any());
            case 22 -> x.start(any(), any(), any());
            case 23 -> x.stands(any(), any(), any());
            case 24 -> x.fences(any());
            case 25 -> x.led(any(), any(), any());
            case 26 -> x.count(any());
            case 27 -> x.status();
            case 28 -> {
                // "kind{miss 4,slack 9}", read twice as often as any other text
                x.end(0);
                x.feed(0x6b696e64, 0x7b6d6973, 0x7320342c, 0x736c6163, 0x6b20397d);
                x.kinds();
            }
            default -> x.hole(random.nextInt(2), random.nextInt(120), random.nextInt(120),
                    random.nextInt(60), random.nextInt(4));
        }
    }
}
