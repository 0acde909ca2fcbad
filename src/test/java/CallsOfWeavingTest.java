/** The sentences of the document's promises 1 to 13, each with a test of its own. */
public final class CallsOfWeavingTest {
    private static final Check CHECK = new Check();

    public static void main(String[] arguments) {
        promise1();
        promise2();
        promise3();
        promise4();
        promise5();
        promise6();
        promise7();
        promise8();
        promise9();
        promise10();
        promise11();
        promise12();
        promise13();
        CHECK.finish();
    }

    private static final Check.Scene NEW = () -> new WeftHouse();

    private static WeftHouse typed(String letters) {
        WeftHouse house = new WeftHouse();
        Scenes.typeWord(house, letters);
        return house;
    }

    private static void promise1() {
        CHECK.sentence("1: Begins with an empty word.", () -> {
            CHECK.takes("empty", NEW, 0, x -> x.empty());
            CHECK.takes("the first letter", NEW, 1, x -> x.type('X'));
            CHECK.takes("the first cartoon", NEW, 0, x -> x.cartoon(2));
            CHECK.takes("the first lot", NEW, 0, x -> x.dye(5, 1, 0, false));
            CHECK.takes("gold", NEW, 0, x -> x.gold());
            CHECK.takes("balances", NEW, 1, x -> x.balances() ? 1 : 0);
            Check.Call[] calls = {
                x -> x.row(0), x -> hatch(x, 0, 0, 0), x -> x.left(0), x -> x.loom(0, 1, false), x -> x.weave(0, 0),
                x -> x.pieceIs(0, 0), x -> x.cell(0, 0, 0, 0), x -> x.sew(0, 1) ? 1 : 0, x -> x.light(0, 1),
                x -> x.wash(0), x -> x.cut(0, 1), x -> x.match(0, 1), x -> x.join(0, 1) ? 1 : 0,
                x -> x.isTrue(0) ? 1 : 0, x -> x.likeness(0, 0)};
            for (int call = 0; call < calls.length; call++) {
                CHECK.refuses("nothing there yet, call " + call, NEW, Check.INDEX, calls[call]);
            }
        });
    }

    private static long hatch(WeftHouse house, int cartoon, int first, int second) {
        house.hatch(cartoon, first, second);
        return 0;
    }

    private static void promise2() {
        CHECK.sentence("2: Types a letter behind the word.", () -> {
            for (int width = 2; width <= 12; width++) {
                WeftHouse house = new WeftHouse();
                int piece = house.loom(Scenes.draw(house, "RBYGWZZWGYBR".substring(0, width)), 1, false);
                CHECK.due("the letters of the row", Scenes.colours(house, piece, 0),
                        "RBYGWZZWGYBR".substring(0, width));
            }
        });
        CHECK.sentence("2: Returns how many it has then.", () -> {
            for (int many = 0; many < 12; many++) {
                String letters = "RBYGWZXRBYGW".substring(0, many);
                CHECK.takes("behind " + letters, () -> typed(letters), many + 1, x -> x.type('Z'));
            }
        });
        CHECK.sentence("2: Throws IllegalArgumentException as told", () -> {
            for (char letter : "rbygwzxAQVCSUHF[ \n\0\177".toCharArray()) {
                CHECK.refuses("letter " + (int) letter, NEW, Check.ARGUMENT, x -> x.type(letter));
                CHECK.refuses("behind letters " + (int) letter, () -> typed("RX"), Check.ARGUMENT, x -> x.type(letter));
            }
            for (int code : new int[] {128, 255, 256 + 'R', 0xff00 + 'R', 65535}) {
                CHECK.refuses("letter " + code, NEW, Check.ARGUMENT, x -> x.type((char) code));
            }
        });
        CHECK.sentence("2: Throws IllegalStateException if it has 12", () -> {
            for (char letter : "RBYGWZX".toCharArray()) {
                CHECK.takes("the last " + letter, () -> typed("RBYGWZXRBYG"), 12, x -> x.type(letter));
                CHECK.refuses("one more " + letter, () -> typed("RBYGWZXRBYGW"), Check.STATE, x -> x.type(letter));
            }
        });
    }

    private static void promise3() {
        CHECK.sentence("3: Empties the word; returns how many letters it had.", () -> {
            for (int many = 0; many <= 12; many++) {
                WeftHouse house = typed("XRBYGWZXRBYG".substring(0, many));
                CHECK.due("of " + many, house.empty(), many);
                CHECK.due("again", house.empty(), 0);
                CHECK.due("the next letter", house.type('R'), 1);
                CHECK.due("alone", house.empty(), 1);
            }
            WeftHouse house = typed("GGG");
            house.empty();
            int piece = house.loom(Scenes.draw(house, "RB"), 1, false);
            CHECK.due("no letter is left", Scenes.colours(house, piece, 0), "RB");
        });
    }

    private static WeftHouse cartoons(int many) {
        WeftHouse house = typed("RB");
        for (int number = 0; number < many; number++) {
            house.cartoon(2);
        }
        return house;
    }

    private static WeftHouse drawnCartoons(int many) {
        WeftHouse house = new WeftHouse();
        for (int number = 0; number < many; number++) {
            Scenes.draw(house, "XRX");
        }
        Scenes.typeWord(house, "RBY");
        return house;
    }

    private static void promise4() {
        CHECK.sentence("4: Returns its number.", () -> {
            for (int many = 0; many < 5; many++) {
                int made = many;
                CHECK.takes("behind " + many, () -> drawnCartoons(made), many, x -> x.cartoon(12));
            }
        });
        CHECK.sentence("4: Throws IllegalArgumentException as told", () -> {
            for (int wrong : Scenes.outside(2, 12)) {
                CHECK.refuses("the first one, " + wrong, () -> drawnCartoons(0), Check.ARGUMENT, x -> x.cartoon(wrong));
                CHECK.refuses("the last one, " + wrong, () -> drawnCartoons(4), Check.ARGUMENT, x -> x.cartoon(wrong));
                CHECK.refuses("one too many, " + wrong, () -> drawnCartoons(5), Check.ARGUMENT, x -> x.cartoon(wrong));
            }
        });
        CHECK.sentence("4: Throws IllegalStateException if there are 5", () -> {
            CHECK.refuses("narrow", () -> drawnCartoons(5), Check.STATE, x -> x.cartoon(2));
            CHECK.refuses("wide", () -> drawnCartoons(5), Check.STATE, x -> x.cartoon(12));
        });
    }

    private static WeftHouse rows(int many, String word) {
        WeftHouse house = new WeftHouse();
        house.cartoon(3);
        for (int row = 0; row < many; row++) {
            Scenes.typeWord(house, row % 2 == 0 ? "RRR" : "BBB");
            house.row(0);
        }
        Scenes.typeWord(house, word);
        return house;
    }

    private static void promise5() {
        CHECK.sentence("5: Adds the word as a row above the others; the word is empty then.", () -> {
            for (int many = 0; many < 10; many++) {
                WeftHouse house = rows(many, "GYX");
                house.row(0);
                CHECK.due("the word", house.empty(), 0);
                int piece = house.loom(0, 1, false);
                CHECK.due("the new row", Scenes.colours(house, piece, many), many % 2 == 0 ? "GYR" : "GYB");
                if (many > 0) {
                    CHECK.due("the row below", Scenes.colours(house, piece, many - 1), many % 2 == 1 ? "RRR" : "BBB");
                }
            }
        });
        CHECK.sentence("5: Returns how many rows it has then.", () -> {
            for (int many = 0; many < 10; many++) {
                int rows = many;
                CHECK.takes("behind " + many, () -> rows(rows, "XXX"), many + 1, x -> x.row(0));
            }
        });
        CHECK.sentence("5: Throws IndexOutOfBoundsException as told", () -> {
            for (int wrong : Scenes.outside(0, 0)) {
                CHECK.refuses("cartoon " + wrong, () -> rows(1, "XXX"), Check.INDEX, x -> x.row(wrong));
                CHECK.refuses("and a wrong word " + wrong, () -> rows(1, "XX"), Check.INDEX, x -> x.row(wrong));
            }
            CHECK.takes("the last of five", () -> cartoons(5), 1, x -> x.row(4));
            CHECK.refuses("behind the last of five", () -> cartoons(5), Check.INDEX, x -> x.row(5));
        });
        CHECK.sentence("5: Throws IllegalStateException if the word has not as many letters as the cartoon is wide", () -> {
            for (String word : new String[] {"", "R", "RR", "RRRR", "RRRRRRRRRRRR"}) {
                CHECK.refuses("no row yet, " + word, () -> rows(0, word), Check.STATE, x -> x.row(0));
                CHECK.refuses("nine rows, " + word, () -> rows(9, word), Check.STATE, x -> x.row(0));
            }
        });
        CHECK.sentence("5: or it has 10 rows", () -> {
            CHECK.takes("the tenth", () -> rows(9, "RBY"), 10, x -> x.row(0));
            CHECK.refuses("the eleventh", () -> rows(10, "RBY"), Check.STATE, x -> x.row(0));
            CHECK.refuses("with a wrong word", () -> rows(10, "RB"), Check.STATE, x -> x.row(0));
        });
    }

    private static void promise6() {
        Check.Scene scene = () -> {
            WeftHouse house = Scenes.drawnHouse("XXX");
            house.loom(0, 1, false);
            return house;
        };
        CHECK.sentence("6: Tells the hatching colours of a cartoon, for pieces from now on.", () -> {
            for (int first = 0; first < 6; first++) {
                for (int second = 0; second < 6; second++) {
                    WeftHouse house = scene.make();
                    house.hatch(0, first, second);
                    int piece = house.loom(0, 1, true);
                    CHECK.due("first", house.cell(piece, 0, 2, 0), first);
                    CHECK.due("second", house.cell(piece, 0, 1, 0), second);
                    CHECK.due("a piece begun", Scenes.colours(house, 0, 0), "RBR");
                    house.weave(0, 0);
                    CHECK.due("woven as begun", Scenes.lots(house, 0, 0), "ABA");
                }
            }
        });
        CHECK.sentence("6: Throws IndexOutOfBoundsException as told, of the cartoon and both colours", () -> {
            for (int wrong : Scenes.outside(0, 5)) {
                CHECK.refuses("the first one " + wrong, scene, Check.INDEX, x -> hatch(x, 0, wrong, 3));
                CHECK.refuses("the second one " + wrong, scene, Check.INDEX, x -> hatch(x, 0, 3, wrong));
            }
            for (int wrong : Scenes.outside(0, 0)) {
                CHECK.refuses("cartoon " + wrong, scene, Check.INDEX, x -> hatch(x, wrong, 3, 4));
            }
        });
    }

    /** With a piece, if it can be woven, by which the lots' fades show. */
    private static WeftHouse lots(int many) {
        WeftHouse house = new WeftHouse();
        for (int number = 0; number < many; number++) {
            house.dye(number % 6, 50 + number, number % 10, number % 2 == 1);
        }
        if (many > 1) {
            Scenes.piece(house, "RB");
        }
        return house;
    }

    private static void promise7() {
        CHECK.sentence("7: threads: 1 to 999", () -> {
            for (int threads : new int[] {1, 999}) {
                WeftHouse house = lots(1);
                CHECK.due("threads " + threads, house.dye(2, threads, 5, true), 1);
                CHECK.due("left", house.left(1), threads);
            }
        });
        CHECK.sentence("7: fade: 0 to 9", () -> {
            CHECK.takes("least", () -> lots(1), 1, x -> x.dye(2, 5, 0, true));
            CHECK.takes("greatest", () -> lots(1), 1, x -> x.dye(2, 5, 9, true));
        });
        CHECK.sentence("7: Returns its number.", () -> {
            for (int many = 0; many < 20; many++) {
                int made = many;
                CHECK.takes("behind " + many, () -> lots(made), many, x -> x.dye(0, 1, 0, false));
            }
        });
        CHECK.sentence("7: Throws IndexOutOfBoundsException if there is no such colour", () -> {
            for (int wrong : Scenes.outside(0, 5)) {
                CHECK.refuses("colour " + wrong, () -> lots(1), Check.INDEX, x -> x.dye(wrong, 1, 0, false));
                CHECK.refuses("and all else " + wrong, () -> lots(20), Check.INDEX, x -> x.dye(wrong, 0, 10, false));
            }
        });
        CHECK.sentence("7: Throws IllegalArgumentException as told", () -> {
            for (int many : new int[] {0, 19, 20}) {
                for (int wrong : Scenes.outside(1, 999)) {
                    CHECK.refuses("threads " + wrong, () -> lots(many), Check.ARGUMENT, x -> x.dye(0, wrong, 0, true));
                }
                for (int wrong : Scenes.outside(0, 9)) {
                    CHECK.refuses("fade " + wrong, () -> lots(many), Check.ARGUMENT, x -> x.dye(0, 1, wrong, true));
                }
            }
        });
        CHECK.sentence("7: Throws IllegalStateException if there are 20", () -> {
            CHECK.refuses("least", () -> lots(20), Check.STATE, x -> x.dye(0, 1, 0, false));
            CHECK.refuses("greatest", () -> lots(20), Check.STATE, x -> x.dye(5, 999, 9, true));
        });
    }

    private static void promise8() {
        CHECK.sentence("8: Returns how many threads a lot has left.", () -> {
            WeftHouse house = new WeftHouse();
            house.dye(0, 3, 0, false);
            house.dye(1, 999, 0, false);
            house.loom(Scenes.draw(house, "RB", "RB", "RB", "RB"), 1, false);
            for (int row = 0; row < 3; row++) {
                CHECK.due("red ahead of row " + row, house.left(0), 3 - row);
                CHECK.due("blue ahead of row " + row, house.left(1), 999 - row);
                house.weave(0, 0);
            }
            CHECK.due("none", house.left(0), 0);
            CHECK.throwsOf("lacking", house, Check.STATE, x -> x.weave(0, 0));
            CHECK.due("none still", house.left(0), 0);
            CHECK.due("blue is not taken", house.left(1), 996);
        });
        CHECK.sentence("8: Throws IndexOutOfBoundsException as told", () -> {
            for (int many : new int[] {0, 1, 7, 19, 20}) {
                for (int wrong : Scenes.outside(0, many - 1)) {
                    CHECK.refuses("lot " + wrong + " of " + many, () -> lots(many), Check.INDEX, x -> x.left(wrong));
                }
            }
            CHECK.takes("the last one", () -> lots(20), 69, x -> x.left(19));
        });
    }

    private static void promise9() {
        CHECK.sentence("9: Returns how many threads of gold were woven, in all pieces that there are.", () -> {
            WeftHouse house = Scenes.drawnHouse("ZZR", "ZRR");
            house.dye(5, 9, 0, false);
            CHECK.due("no piece", house.gold(), 0);
            house.loom(0, 3, false);
            CHECK.due("nothing woven", house.gold(), 0);
            house.weave(0, 0);
            CHECK.due("a cell", house.gold(), 1);
            house.weave(0, 2);
            CHECK.due("a red one", house.gold(), 1);
            int second = Scenes.weaveWhole(house, 0, true);
            CHECK.due("another piece", house.gold(), 4);
            int third = Scenes.weaveWhole(house, 0, false);
            house.join(third, second);
            CHECK.due("joined", house.gold(), 7);
            house.cut(third, 5);
            CHECK.due("cut", house.gold(), 7);
            house.wash(third);
            house.light(third, 9999);
            CHECK.due("without a shade", house.gold(), 7);
            CHECK.due("as many as gold has fewer", 999 - house.left(5), 7);
            WeftHouse widest = Scenes.drawnHouse("ZRRRRRRRRRRZ", "ZZRRRRRRRRRZ", "ZRRRRRRRRRRZ");
            Scenes.weaveWhole(widest, 0, false);
            widest.join(0, Scenes.weaveWhole(widest, 0, true));
            CHECK.due("of 24 columns", widest.gold(), 14);
            widest.cut(0, 12);
            CHECK.due("cut in the middle", widest.gold(), 14);
        });
    }

    private static WeftHouse looms(int many) {
        WeftHouse house = Scenes.drawnHouse("RBYGW");
        house.cartoon(4);
        for (int number = 0; number < many; number++) {
            house.loom(0, 1 + number % 4, false);
        }
        return house;
    }

    private static void promise10() {
        CHECK.sentence("10: Returns its number.", () -> {
            for (int many = 0; many < 20; many++) {
                int made = many;
                CHECK.takes("behind " + many, () -> looms(made), many, x -> x.loom(0, 4, true));
            }
        });
        CHECK.sentence("10: Throws IndexOutOfBoundsException as told", () -> {
            for (int wrong : Scenes.outside(0, 1)) {
                CHECK.refuses("cartoon " + wrong, () -> looms(0), Check.INDEX, x -> x.loom(wrong, 1, false));
                CHECK.refuses("with no weaver " + wrong, () -> looms(0), Check.INDEX, x -> x.loom(wrong, 0, false));
                CHECK.refuses("when full " + wrong, () -> looms(20), Check.INDEX, x -> x.loom(wrong, 1, false));
            }
        });
        CHECK.sentence("10: Throws IllegalArgumentException as told", () -> {
            for (int wrong : Scenes.outside(1, 4)) {
                CHECK.refuses("weavers " + wrong, () -> looms(3), Check.ARGUMENT, x -> x.loom(0, wrong, false));
                CHECK.refuses("without a row " + wrong, () -> looms(3), Check.ARGUMENT, x -> x.loom(1, wrong, false));
                CHECK.refuses("when full " + wrong, () -> looms(20), Check.ARGUMENT, x -> x.loom(0, wrong, false));
            }
            CHECK.takes("at most the width", () -> Scenes.drawnHouse("RBY"), 0, x -> x.loom(0, 3, false));
            CHECK.refuses("above it", () -> Scenes.drawnHouse("RBY"), Check.ARGUMENT, x -> x.loom(0, 4, false));
            CHECK.takes("two of two", () -> Scenes.drawnHouse("RB"), 0, x -> x.loom(0, 2, false));
            CHECK.refuses("three of two", () -> Scenes.drawnHouse("RB"), Check.ARGUMENT, x -> x.loom(0, 3, false));
        });
        CHECK.sentence("10: Throws IllegalStateException if the cartoon has no row, or there were 20 pieces", () -> {
            CHECK.refuses("no row", () -> looms(0), Check.STATE, x -> x.loom(1, 1, false));
            CHECK.takes("the twentieth", () -> looms(19), 19, x -> x.loom(0, 1, false));
            CHECK.refuses("one too many", () -> looms(20), Check.STATE, x -> x.loom(0, 1, false));
            CHECK.refuses("both", () -> looms(20), Check.STATE, x -> x.loom(1, 1, false));
            Check.Scene joined = () -> {
                WeftHouse house = looms(18);
                Scenes.weaveWhole(house, 0, false);
                Scenes.weaveWhole(house, 0, false);
                house.join(18, 19);
                return house;
            };
            CHECK.refuses("there were 20, there are 19", joined, Check.STATE, x -> x.loom(0, 1, false));
        });
    }

    private static void promise11() {
        Check.Scene scene = () -> {
            WeftHouse house = Scenes.drawnHouse("RBYG", "RBYG");
            house.loom(0, 3, false);
            house.weave(0, 1);
            house.loom(0, 1, false);
            return house;
        };
        CHECK.sentence("11: Returns the row.", () -> {
            WeftHouse house = Scenes.dyedHouse();
            house.loom(Scenes.drawAlike(house, "ZX", 10), 1, true);
            for (int row = 0; row < 10; row++) {
                CHECK.due("row " + row, house.weave(0, 0), row);
            }
            CHECK.takes("of another weaver", scene, 0, x -> x.weave(0, 2));
        });
        CHECK.sentence("11: Throws IndexOutOfBoundsException as told, of the piece and weaver", () -> {
            for (int wrong : Scenes.outside(0, 1)) {
                CHECK.refuses("piece " + wrong, scene, Check.INDEX, x -> x.weave(wrong, 0));
            }
            for (int wrong : Scenes.outside(0, 2)) {
                CHECK.refuses("weaver " + wrong, scene, Check.INDEX, x -> x.weave(0, wrong));
            }
            for (int wrong : Scenes.outside(0, 0)) {
                CHECK.refuses("one weaver, " + wrong, scene, Check.INDEX, x -> x.weave(1, wrong));
            }
        });
        CHECK.sentence("11: Throws IllegalStateException if he has woven all, may not, or threads lack", () -> {
            Check.Scene done = () -> Scenes.wovenHouse("RBYG", "RBYG");
            CHECK.refuses("all", done, Check.STATE, x -> x.weave(0, 0));
            CHECK.refuses("may not", scene, Check.STATE, x -> x.weave(0, 1));
            Check.Scene lacking = () -> {
                WeftHouse house = new WeftHouse();
                house.dye(0, 1, 0, false);
                house.loom(Scenes.draw(house, "RR"), 1, false);
                return house;
            };
            CHECK.refuses("threads lack", lacking, Check.STATE, x -> x.weave(0, 0));
        });
    }

    /** Piece 0 is begun, piece 1 done, piece 2 no more. */
    private static WeftHouse threePieces() {
        WeftHouse house = Scenes.drawnHouse("RBYG", "XXXX", "BRGY");
        house.loom(0, 2, false);
        house.weave(0, 0);
        Scenes.weaveWhole(house, 0, true);
        Scenes.weaveWhole(house, 0, false);
        house.join(1, 2);
        return house;
    }

    private static void promise12() {
        CHECK.sentence("12: Returns what a piece is: 0 its columns, 1 its rows, 2 how many cells were woven, 3 whether "
                + "it is done, 1 or 0, 4 how many slits it has, of one that is not done 0, 5 the sum of all shades", () -> {
            int[] begun = {4, 3, 2, 0, 0, 200};
            int[] done = {8, 3, 24, 1, 6, 2400};
            for (int what = 0; what < 6; what++) {
                int asked = what;
                CHECK.takes("begun, " + what, () -> threePieces(), begun[what], x -> x.pieceIs(0, asked));
                CHECK.takes("done, " + what, () -> threePieces(), done[what], x -> x.pieceIs(1, asked));
            }
            WeftHouse widest = Scenes.dyedHouse();
            Scenes.drawAlike(widest, "RBRBRBRBRBRB", 10);
            Scenes.weaveWhole(widest, 0, false);
            widest.join(0, Scenes.weaveWhole(widest, 0, false));
            int[] all = {24, 10, 240, 1, 23, 24000};
            for (int what = 0; what < 6; what++) {
                CHECK.due("the widest and highest, " + what, widest.pieceIs(0, what), all[what]);
            }
            WeftHouse last = Scenes.drawnHouse("RB", "RB", "RB");
            last.loom(0, 2, false);
            for (int row = 0; row < 3; row++) {
                last.weave(0, 1);
                CHECK.due("all but one cell, no slit", last.pieceIs(0, 4), 0);
                last.weave(0, 0);
            }
            CHECK.due("the slit then", last.pieceIs(0, 4), 1);
        });
        CHECK.sentence("12: Throws IndexOutOfBoundsException as told", () -> {
            for (int wrong : new int[] {2, 3, 19, 20, -1, Integer.MIN_VALUE, Integer.MAX_VALUE}) {
                CHECK.refuses("piece " + wrong, () -> threePieces(), Check.INDEX, x -> x.pieceIs(wrong, 0));
                CHECK.refuses("and what " + wrong, () -> threePieces(), Check.INDEX, x -> x.pieceIs(wrong, -1));
            }
        });
        CHECK.sentence("12: Throws IllegalArgumentException as told", () -> {
            for (int wrong : Scenes.outside(0, 5)) {
                CHECK.refuses("of one begun " + wrong, () -> threePieces(), Check.ARGUMENT, x -> x.pieceIs(0, wrong));
                CHECK.refuses("of one done " + wrong, () -> threePieces(), Check.ARGUMENT, x -> x.pieceIs(1, wrong));
            }
        });
    }

    private static void promise13() {
        CHECK.sentence("13: Returns what a cell is: 0 its colour, woven or not, 1 its lot, NONE if it is not woven, 2 its "
                + "shade, 0 if it is not", () -> {
            CHECK.takes("a colour woven", () -> threePieces(), 1, x -> x.cell(0, 0, 1, 0));
            CHECK.takes("a lot", () -> threePieces(), 1, x -> x.cell(0, 0, 1, 1));
            CHECK.takes("a shade", () -> threePieces(), 100, x -> x.cell(0, 0, 1, 2));
            CHECK.takes("a colour not woven", () -> threePieces(), 2, x -> x.cell(0, 0, 2, 0));
            CHECK.takes("no lot", () -> threePieces(), WeftHouse.NONE, x -> x.cell(0, 0, 2, 1));
            CHECK.takes("no shade", () -> threePieces(), 0, x -> x.cell(0, 0, 2, 2));
            CHECK.takes("the last cell", () -> threePieces(), 3, x -> x.cell(1, 0, 7, 0));
            CHECK.takes("its lot", () -> threePieces(), 3, x -> x.cell(1, 0, 7, 1));
            CHECK.takes("the topmost one", () -> threePieces(), 2, x -> x.cell(1, 2, 0, 0));
        });
        CHECK.sentence("13: Throws IndexOutOfBoundsException as told, of the piece, row and column", () -> {
            for (int wrong : new int[] {2, 3, 19, 20, -1, Integer.MIN_VALUE, Integer.MAX_VALUE}) {
                CHECK.refuses("piece " + wrong, () -> threePieces(), Check.INDEX, x -> x.cell(wrong, 0, 0, 0));
            }
            for (int wrong : Scenes.outside(0, 2)) {
                CHECK.refuses("row " + wrong, () -> threePieces(), Check.INDEX, x -> x.cell(0, wrong, 0, 0));
                CHECK.refuses("row and what " + wrong, () -> threePieces(), Check.INDEX, x -> x.cell(0, wrong, 0, 3));
            }
            for (int wrong : Scenes.outside(0, 3)) {
                CHECK.refuses("column " + wrong, () -> threePieces(), Check.INDEX, x -> x.cell(0, 2, wrong, 0));
                CHECK.refuses("column and what " + wrong, () -> threePieces(), Check.INDEX, x -> x.cell(0, 2, wrong, 3));
            }
            for (int wrong : Scenes.outside(0, 7)) {
                CHECK.refuses("column of 8, " + wrong, () -> threePieces(), Check.INDEX, x -> x.cell(1, 2, wrong, 0));
            }
        });
        CHECK.sentence("13: Throws IllegalArgumentException as told", () -> {
            for (int wrong : Scenes.outside(0, 2)) {
                CHECK.refuses("woven, " + wrong, () -> threePieces(), Check.ARGUMENT, x -> x.cell(0, 0, 0, wrong));
                CHECK.refuses("not woven, " + wrong, () -> threePieces(), Check.ARGUMENT, x -> x.cell(0, 2, 3, wrong));
            }
        });
    }
}
