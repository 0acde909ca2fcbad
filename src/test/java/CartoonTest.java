/** Promises 1 to 6: a new object, type, empty, cartoon, row, hatch. */
public final class CartoonTest {
    private static final Check CHECK = new Check();

    public static void main(String[] arguments) {
        newObject();
        typing();
        typingRefused();
        emptying();
        cartoons();
        cartoonsRefused();
        rows();
        rowsRefused();
        hatching();
        hatchingRefused();
        CHECK.finish();
    }

    private static void newObject() {
        WeftHouse house = new WeftHouse();
        CHECK.due("1: the word of a new house", house.empty(), 0);
        CHECK.due("1: gold of a new house", house.gold(), 0);
        CHECK.due("1: a new house balances", house.balances(), true);
        CHECK.due("1: NONE", WeftHouse.NONE, -1);
        Check.Scene fresh = () -> new WeftHouse();
        CHECK.refuses("1: no cartoon", fresh, Check.INDEX, x -> x.row(0));
        CHECK.refuses("1: no lot", fresh, Check.INDEX, x -> x.left(0));
        CHECK.refuses("1: no piece", fresh, Check.INDEX, x -> x.pieceIs(0, 0));
        WeftHouse one = new WeftHouse();
        one.type('R');
        CHECK.due("1: houses have words of their own", new WeftHouse().empty(), 0);
    }

    private static void typing() {
        WeftHouse house = new WeftHouse();
        String letters = "RBYGWZXRBYGW";
        for (int at = 0; at < letters.length(); at++) {
            CHECK.due("2: letter " + at, house.type(letters.charAt(at)), at + 1);
        }
        CHECK.due("2: twelve letters", house.empty(), 12);
        CHECK.due("2: behind an empty word", house.type('Z'), 1);
        WeftHouse drawn = new WeftHouse();
        int piece = drawn.loom(Scenes.draw(drawn, "RBYGWZX"), 1, false);
        CHECK.due("2: letters are colours", Scenes.colours(drawn, piece, 0), "RBYGWZR");
    }

    private static void typingRefused() {
        Check.Scene some = () -> withWord("RBYX");
        for (int code = 0; code < 300; code++) {
            char letter = (char) code;
            if ("RBYGWZX".indexOf(letter) < 0) {
                CHECK.due("2: letter " + code, Check.answer(x -> x.type(letter), some.make()),
                        "IllegalArgumentException");
            }
        }
        CHECK.refuses("2: small letter", some, Check.ARGUMENT, x -> x.type('r'));
        CHECK.refuses("2: last character", some, Check.ARGUMENT, x -> x.type((char) 65535));
        Check.Scene full = () -> withWord("RBYGWZXRBYGW");
        CHECK.refuses("2: a thirteenth letter", full, Check.STATE, x -> x.type('R'));
        CHECK.refuses("2: a wrong thirteenth letter", full, Check.ARGUMENT, x -> x.type('A'));
    }

    private static WeftHouse withWord(String letters) {
        WeftHouse house = new WeftHouse();
        Scenes.typeWord(house, letters);
        return house;
    }

    private static void emptying() {
        WeftHouse house = withWord("RBX");
        CHECK.due("3: three letters", house.empty(), 3);
        CHECK.due("3: none", house.empty(), 0);
        Scenes.typeWord(house, "GW");
        house.row(house.cartoon(2));
        CHECK.due("3: behind a row", house.empty(), 0);
        CHECK.due("3: the new word is the row", Scenes.colours(house, house.loom(0, 1, false), 0), "GW");
    }

    private static void cartoons() {
        WeftHouse house = new WeftHouse();
        int[] widths = {2, 12, 3, 2, 7};
        for (int number = 0; number < 5; number++) {
            CHECK.due("4: cartoon " + number, house.cartoon(widths[number]), number);
        }
        for (int number = 0; number < 5; number++) {
            Scenes.typeWord(house, "WWWWWWWWWWWW".substring(0, widths[number]));
            CHECK.due("4: row as wide as cartoon " + number, house.row(number), 1);
            CHECK.due("4: width " + number, house.pieceIs(house.loom(number, 1, false), 0), widths[number]);
        }
    }

    private static void cartoonsRefused() {
        Check.Scene fresh = () -> withWord("RB");
        for (int width : new int[] {1, 13, 0, -2, Integer.MIN_VALUE, Integer.MAX_VALUE}) {
            CHECK.refuses("4: width " + width, fresh, Check.ARGUMENT, x -> x.cartoon(width));
        }
        Check.Scene full = () -> {
            WeftHouse house = withWord("RB");
            for (int number = 0; number < 5; number++) {
                house.cartoon(2);
            }
            return house;
        };
        CHECK.refuses("4: a sixth cartoon", full, Check.STATE, x -> x.cartoon(2));
        CHECK.refuses("4: a wrong sixth cartoon", full, Check.ARGUMENT, x -> x.cartoon(1));
    }

    private static void rows() {
        WeftHouse house = new WeftHouse();
        int cartoon = house.cartoon(2);
        String[] words = {"RB", "BY", "YG", "GW", "WZ", "ZR", "RR", "BB", "YY", "GG"};
        for (int row = 0; row < words.length; row++) {
            Scenes.typeWord(house, words[row]);
            CHECK.due("5: row " + row, house.row(cartoon), row + 1);
            CHECK.due("5: the word is empty then", house.empty(), 0);
        }
        int piece = house.loom(cartoon, 1, false);
        for (int row = 0; row < words.length; row++) {
            CHECK.due("5: rows go up " + row, Scenes.colours(house, piece, row), words[row]);
        }
    }

    private static void rowsRefused() {
        Check.Scene scene = () -> {
            WeftHouse house = new WeftHouse();
            Scenes.draw(house, "RBY", "YBR");
            Scenes.typeWord(house, "WX");
            return house;
        };
        CHECK.refuses("5: word too short", scene, Check.STATE, x -> x.row(0));
        CHECK.refuses("5: cartoon 1", scene, Check.INDEX, x -> x.row(1));
        CHECK.refuses("5: cartoon -1", scene, Check.INDEX, x -> x.row(-1));
        CHECK.refuses("5: cartoon 5", scene, Check.INDEX, x -> x.row(5));
        CHECK.refuses("5: least cartoon", scene, Check.INDEX, x -> x.row(Integer.MIN_VALUE));
        CHECK.refuses("5: most cartoon", scene, Check.INDEX, x -> x.row(Integer.MAX_VALUE));
        Check.Scene longer = () -> {
            WeftHouse house = new WeftHouse();
            Scenes.draw(house, "RBY");
            Scenes.typeWord(house, "WXZR");
            return house;
        };
        CHECK.refuses("5: word too long", longer, Check.STATE, x -> x.row(0));
        Check.Scene none = () -> {
            WeftHouse house = new WeftHouse();
            house.cartoon(2);
            return house;
        };
        CHECK.refuses("5: no word", none, Check.STATE, x -> x.row(0));
        Check.Scene full = () -> {
            WeftHouse house = new WeftHouse();
            Scenes.draw(house, "RB", "RB", "RB", "RB", "RB", "RB", "RB", "RB", "RB", "RB");
            Scenes.typeWord(house, "YX");
            return house;
        };
        CHECK.refuses("5: an eleventh row", full, Check.STATE, x -> x.row(0));
    }

    private static void hatching() {
        WeftHouse house = new WeftHouse();
        int cartoon = Scenes.draw(house, "XXX", "XXX");
        int plain = house.loom(cartoon, 1, false);
        CHECK.due("6: red and blue at first", Scenes.colours(house, plain, 0), "RBR");
        CHECK.due("6: by row and column", Scenes.colours(house, plain, 1), "BRB");
        house.hatch(cartoon, 5, 3);
        CHECK.due("6: not for a piece begun", Scenes.colours(house, plain, 0), "RBR");
        int later = house.loom(cartoon, 1, false);
        CHECK.due("6: for pieces from now on", Scenes.colours(house, later, 0), "ZGZ");
        CHECK.due("6: and their upper rows", Scenes.colours(house, later, 1), "GZG");
        int other = Scenes.draw(house, "XX");
        CHECK.due("6: not for another cartoon", Scenes.colours(house, house.loom(other, 1, false), 0), "RB");
        house.hatch(other, 4, 4);
        CHECK.due("6: twice the same", Scenes.colours(house, house.loom(other, 1, false), 0), "WW");
        WeftHouse early = new WeftHouse();
        early.hatch(early.cartoon(2), 0, 2);
        Scenes.typeWord(early, "XX");
        early.row(0);
        CHECK.due("6: ahead of the rows", Scenes.colours(early, early.loom(0, 1, false), 0), "RY");
    }

    private static void hatchingRefused() {
        Check.Scene scene = () -> {
            WeftHouse house = new WeftHouse();
            Scenes.draw(house, "XXX");
            return house;
        };
        for (int wrong : new int[] {-1, 6, Integer.MIN_VALUE, Integer.MAX_VALUE}) {
            CHECK.refuses("6: first " + wrong, scene, Check.INDEX, x -> hatch(x, 0, wrong, 2));
            CHECK.refuses("6: second " + wrong, scene, Check.INDEX, x -> hatch(x, 0, 2, wrong));
        }
        CHECK.refuses("6: cartoon 1", scene, Check.INDEX, x -> hatch(x, 1, 2, 3));
        CHECK.refuses("6: cartoon -1", scene, Check.INDEX, x -> hatch(x, -1, 2, 3));
    }

    private static long hatch(WeftHouse house, int cartoon, int first, int second) {
        house.hatch(cartoon, first, second);
        return 0;
    }
}
