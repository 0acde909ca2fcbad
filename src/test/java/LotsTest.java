/** Promises 7 to 9: dye, left, gold. */
public final class LotsTest {
    private static final Check CHECK = new Check();

    public static void main(String[] arguments) {
        dyeing();
        dyeingRefused();
        threadsLeft();
        threadsLeftRefused();
        gold();
        CHECK.finish();
    }

    private static void dyeing() {
        WeftHouse house = new WeftHouse();
        for (int number = 0; number < 20; number++) {
            CHECK.due("7: lot " + number, house.dye(number % 6, 999 - number, number % 10, number % 2 == 0), number);
        }
        for (int number = 0; number < 20; number++) {
            CHECK.due("7: threads of lot " + number, house.left(number), 999 - number);
        }
        CHECK.due("7: one thread", oneLot(1, 0).left(0), 1);
        CHECK.due("7: most threads and fade", oneLot(999, 9).left(0), 999);
    }

    private static WeftHouse oneLot(int threads, int fade) {
        WeftHouse house = new WeftHouse();
        house.dye(5, threads, fade, true);
        return house;
    }

    private static void dyeingRefused() {
        Check.Scene scene = () -> oneLot(3, 3);
        for (int wrong : new int[] {-1, 6, Integer.MIN_VALUE, Integer.MAX_VALUE}) {
            CHECK.refuses("7: colour " + wrong, scene, Check.INDEX, x -> x.dye(wrong, 1, 1, true));
        }
        for (int wrong : new int[] {0, 1000, -1, Integer.MIN_VALUE, Integer.MAX_VALUE}) {
            CHECK.refuses("7: threads " + wrong, scene, Check.ARGUMENT, x -> x.dye(0, wrong, 1, true));
        }
        for (int wrong : new int[] {-1, 10, Integer.MIN_VALUE, Integer.MAX_VALUE}) {
            CHECK.refuses("7: fade " + wrong, scene, Check.ARGUMENT, x -> x.dye(0, 1, wrong, true));
        }
        CHECK.refuses("7: colour ahead of threads", scene, Check.INDEX, x -> x.dye(6, 0, 10, true));
        Check.Scene full = () -> {
            WeftHouse house = new WeftHouse();
            for (int number = 0; number < 20; number++) {
                house.dye(0, 5, 1, false);
            }
            return house;
        };
        CHECK.refuses("7: a lot too many", full, Check.STATE, x -> x.dye(0, 1, 1, true));
        CHECK.refuses("7: threads ahead of count", full, Check.ARGUMENT, x -> x.dye(0, 0, 1, true));
        CHECK.refuses("7: fade ahead of count", full, Check.ARGUMENT, x -> x.dye(0, 1, 10, true));
        CHECK.refuses("7: colour ahead of count", full, Check.INDEX, x -> x.dye(-1, 1, 1, true));
    }

    private static void threadsLeft() {
        WeftHouse house = new WeftHouse();
        house.dye(0, 3, 0, false);
        house.dye(1, 9, 0, false);
        house.dye(0, 9, 0, false);
        int piece = house.loom(Scenes.draw(house, "RRB", "RBR"), 1, false);
        CHECK.due("8: before weaving", house.left(0), 3);
        house.weave(piece, 0);
        CHECK.due("8: red", house.left(0), 1);
        CHECK.due("8: blue", house.left(1), 8);
        house.weave(piece, 0);
        CHECK.due("8: red is used up", house.left(0), 0);
        CHECK.due("8: blue again", house.left(1), 7);
        CHECK.due("8: the next red", house.left(2), 8);
    }

    private static void threadsLeftRefused() {
        Check.Scene scene = () -> oneLot(3, 3);
        for (int wrong : new int[] {-1, 1, 19, 20, Integer.MIN_VALUE, Integer.MAX_VALUE}) {
            CHECK.refuses("8: lot " + wrong, scene, Check.INDEX, x -> x.left(wrong));
        }
    }

    private static void gold() {
        WeftHouse house = Scenes.dyedHouse();
        int piece = house.loom(Scenes.draw(house, "ZRZ", "BZB"), 1, false);
        CHECK.due("9: nothing woven", house.gold(), 0);
        house.weave(piece, 0);
        CHECK.due("9: one row", house.gold(), 2);
        house.weave(piece, 0);
        CHECK.due("9: both rows", house.gold(), 3);
        int second = Scenes.weaveWhole(house, 0, true);
        CHECK.due("9: two pieces", house.gold(), 6);
        int cut = house.cut(piece, 1);
        CHECK.due("9: after a cut", house.gold(), 6);
        house.join(second, cut);
        CHECK.due("9: after a joining", house.gold(), 6);
        house.light(second, 9999);
        CHECK.due("9: light takes no thread", house.gold(), 6);
        house.hatch(0, 5, 5);
        Scenes.typeWord(house, "XXX");
        house.row(0);
        int hatched = Scenes.weaveWhole(house, 0, false);
        CHECK.due("9: hatched gold", house.gold(), 12);
        CHECK.due("9: its piece", house.pieceIs(hatched, 2), 9);
    }
}
