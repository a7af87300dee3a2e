import java.util.Random;

/** No call throws or fails to end, whatever the arguments; what is refused changes nothing. */
public final class WildTest {
    private static final int[] WILD = {Integer.MIN_VALUE, Integer.MIN_VALUE + 1, -10001, -129, -100, -21, -11, -10,
        -6, -5, -4, -3, -2, -1, 0, 1, 2, 3, 4, 5, 6, 7, 8, 9, 10, 11, 12, 13, 19, 20, 21, 30, 31, 32, 33, 63, 64, 99,
        100, 101, 127, 128, 255, 256, 9999, 10000, 65536, 1 << 30, Integer.MAX_VALUE - 1, Integer.MAX_VALUE};

    private WildTest() {
    }

    public static void main(String[] args) {
        for (int state = 0; state < 4; state++) {
            FewerMan x = at(state);
            x.image();
            String before = Check.look(x);
            for (int a : WILD) {
                for (int b : WILD) {
                    ask(x, a, b);
                }
            }
            Check.due("what is asked changes nothing", Check.look(x), before);
            for (int a : WILD) {
                for (int b : WILD) {
                    tell(x, a, b);
                    x.undo();
                }
            }
        }
        Random random = new Random(5);
        for (int run = 0; run < 300; run++) {
            FewerMan x = at(run % 4);
            for (int i = 0; i < 200; i++) {
                int a = WILD[random.nextInt(WILD.length)];
                int b = WILD[random.nextInt(WILD.length)];
                tell(x, a, b);
                tell(x, random.nextInt(5), random.nextInt(5));
                ask(x, a, b);
            }
        }
        Check.end("WildTest");
    }

    private static FewerMan at(int state) {
        FewerMan x = new FewerMan();
        int players = new int[] {0, 1, 3, 5}[state];
        for (int i = 0; i < players; i++) {
            x.player(6 - i, i * 2);
        }
        if (state > 1) {
            Check.inn(x, "lift 99 m<8&!(k=1|o>9);duck 7 g=3|g=4;more 3;less 0;lift 3 p=1&!!!!!p=2|(((((k=6)))))");
        }
        for (int i = 0; i < 8; i++) {
            x.book(i % 3, (i + 1) % 3, i % 2 == 0);
            x.tale(i + 5);
        }
        return x;
    }

    private static void ask(FewerMan x, int a, int b) {
        x.of(a, b);
        x.told(a);
        x.push(a, b);
        x.odds(a, b);
        x.even(a, b);
        x.trace(a);
        x.as(a, b);
        x.count(a);
        x.likely(a);
        x.says(a);
        x.looked();
        for (int part = -1; part < 3; part++) {
            x.wins(0, 1, a, b, part);
            x.wins(a, b, 2, 1, part);
            x.wins(a, b, b, a, part);
            x.mean(0, a, b, part);
            x.mean(a, b, 3, part);
            x.series(0, a, b, part);
            x.series(a, b, 2, part);
            x.ends(0, a, b, part);
            x.ends(a, b, 3, part);
            x.stakes(0, a, b, part);
            x.stakes(a, b, 3, part);
            x.purpose(a, b, 2, part);
            x.table(a, b, part);
            x.orderMean(a, b, part);
        }
        x.mean(a, b, 12, a);
        x.loses(a, b, 2);
        x.loses(0, 1, a);
        x.order(a, b, 0);
        x.order(0, a, b);
        x.purpose(1, 0, a, b);
    }

    private static void tell(FewerMan x, int a, int b) {
        x.feed(a);
        x.player(a, b);
        x.men(a, b);
        x.row(a, b, 1);
        x.row(0, a, b);
        x.play(a, b, a > b);
        x.book(a, b, a < b);
        x.tale(a);
        x.act(a, b, a);
        x.act(0, a, b);
        x.act(a, 2, b);
        x.inn();
    }
}
