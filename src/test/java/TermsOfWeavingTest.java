import java.util.Arrays;

/** The sentences of the document's terms on cartoons, lots and weaving, each with a test of its own. */
public final class TermsOfWeavingTest {
    private static final Check CHECK = new Check();

    public static void main(String[] arguments) {
        cartoons();
        hatching();
        lots();
        looms();
        weavers();
        threads();
        CHECK.finish();
    }

    private static void cartoons() {
        CHECK.sentence("The colours are 0 red, R, 1 blue, B, 2 yellow, Y, 3 green, G, 4 white, W, and 5 gold, Z.",
                () -> colours());
        CHECK.sentence("A cartoon has a width, 2 to 12", () -> widths());
        CHECK.sentence("and rows, at most 10", () -> atMostTenRows());
        CHECK.sentence("from the lowest one on", () -> rowsFromTheLowestOn());
        CHECK.sentence("each is a word of as many letters", () -> asManyLetters());
        CHECK.sentence("those of the colours, or X for a cell that is hatched", () -> lettersOfWords());
        CHECK.sentence("Cartoons are numbered from 0, at most 5.", () -> atMostFiveCartoons());
    }

    private static void colours() {
        String letters = "RBYGWZ";
        for (int colour = 0; colour < 6; colour++) {
            String row = letters.substring(colour, colour + 1).repeat(2);
            WeftHouse house = new WeftHouse();
            int dyed = colour;
            CHECK.due("a lot of colour " + colour, house.dye(dyed, 9, 0, false), 0);
            int piece = Scenes.piece(house, row);
            CHECK.due("the colour of " + row, house.cell(piece, 0, 0, 0), colour);
            CHECK.due("the lot of " + row, house.cell(piece, 0, 1, 1), 0);
            house.hatch(0, dyed, dyed);
            Scenes.typeWord(house, "XX");
            house.row(0);
            CHECK.due("hatched " + row, house.cell(house.loom(0, 1, false), 1, 0, 0), colour);
        }
        for (int none : Scenes.outside(0, 5)) {
            Check.Scene scene = () -> Scenes.drawnHouse("XX");
            CHECK.refuses("dyed " + none, scene, Check.INDEX, x -> x.dye(none, 9, 0, false));
            CHECK.refuses("hatched " + none, scene, Check.INDEX, x -> hatch(x, 0, none, none));
        }
    }

    private static long hatch(WeftHouse house, int cartoon, int first, int second) {
        house.hatch(cartoon, first, second);
        return 0;
    }

    private static void widths() {
        for (int width = 2; width <= 12; width++) {
            WeftHouse house = new WeftHouse();
            CHECK.due("a cartoon as wide as " + width, house.cartoon(width), 0);
            Scenes.typeWord(house, "W".repeat(width));
            CHECK.due("a row of it, " + width, house.row(0), 1);
            CHECK.due("a piece of it, " + width, house.pieceIs(house.loom(0, 1, false), 0), width);
        }
        for (int wrong : Scenes.outside(2, 12)) {
            CHECK.refuses("as wide as " + wrong, () -> new WeftHouse(), Check.ARGUMENT, x -> x.cartoon(wrong));
        }
        CHECK.refuses("as wide as 0", () -> new WeftHouse(), Check.ARGUMENT, x -> x.cartoon(0));
    }

    private static void atMostTenRows() {
        for (int width : new int[] {2, 12}) {
            WeftHouse house = new WeftHouse();
            house.cartoon(width);
            for (int row = 1; row <= 10; row++) {
                Scenes.typeWord(house, "R".repeat(width));
                CHECK.due("row " + row, house.row(0), row);
            }
            Check.Scene full = () -> {
                WeftHouse made = Scenes.dyedHouse();
                Scenes.drawAlike(made, "B".repeat(width), 10);
                Scenes.typeWord(made, "R".repeat(width));
                return made;
            };
            CHECK.refuses("an eleventh row", full, Check.STATE, x -> x.row(0));
            WeftHouse other = full.make();
            other.cartoon(width);
            CHECK.due("the first row of another one", other.row(1), 1);
        }
    }

    private static void rowsFromTheLowestOn() {
        String[] rows = {"RB", "BY", "YG", "GW", "WZ", "ZR", "BB", "YY", "GG", "WW"};
        for (int many = 1; many <= 10; many++) {
            WeftHouse house = new WeftHouse();
            house.cartoon(2);
            for (int row = 0; row < many; row++) {
                Scenes.typeWord(house, rows[row]);
                house.row(0);
            }
            int piece = house.loom(0, 1, false);
            for (int row = 0; row < many; row++) {
                CHECK.due("row " + row + " of " + many, Scenes.colours(house, piece, row), rows[row]);
            }
        }
    }

    private static void asManyLetters() {
        for (int width = 2; width <= 12; width++) {
            for (int letters = 0; letters <= 12; letters++) {
                int wide = width;
                int typed = letters;
                Check.Scene scene = () -> {
                    WeftHouse house = new WeftHouse();
                    house.cartoon(wide);
                    Scenes.typeWord(house, "Y".repeat(typed));
                    return house;
                };
                String what = letters + " letters for the width " + width;
                if (letters == width) {
                    CHECK.takes(what, scene, 1, x -> x.row(0));
                } else {
                    CHECK.throwsOf(what, scene.make(), Check.STATE, x -> x.row(0));
                }
            }
        }
    }

    private static void lettersOfWords() {
        for (int code = 0; code <= Character.MAX_VALUE; code++) {
            char letter = (char) code;
            boolean isTaken = "RBYGWZX".indexOf(letter) >= 0;
            String due = isTaken ? "1" : "IllegalArgumentException";
            CHECK.due("letter " + code, Check.answer(x -> x.type(letter), new WeftHouse()), due);
        }
        WeftHouse house = Scenes.drawnHouse("XRBYGWZX");
        CHECK.due("their colours", Scenes.colours(house, house.loom(0, 1, false), 0), "RRBYGWZB");
    }

    private static void atMostFiveCartoons() {
        Check.Scene full = () -> {
            WeftHouse house = new WeftHouse();
            for (int number = 0; number < 5; number++) {
                CHECK.due("cartoon " + number, house.cartoon(2 + number), number);
            }
            return house;
        };
        WeftHouse house = full.make();
        for (int number = 4; number >= 0; number--) {
            Scenes.typeWord(house, "Y".repeat(2 + number));
            CHECK.due("a row of cartoon " + number, house.row(number), 1);
        }
        CHECK.refuses("a sixth one", full, Check.STATE, x -> x.cartoon(2));
        CHECK.refuses("cartoon 5", full, Check.INDEX, x -> x.row(5));
    }

    private static void hatching() {
        CHECK.sentence("Each has two hatching colours, red and blue at first", () -> redAndBlueAtFirst());
        CHECK.sentence("a hatched cell is of the first one, if its row and its column in the cartoon, together, "
                + "are even, otherwise of the second one", () -> evenAndOdd());
    }

    private static void redAndBlueAtFirst() {
        WeftHouse house = new WeftHouse();
        for (int number = 0; number < 5; number++) {
            int cartoon = Scenes.draw(house, "XX");
            CHECK.due("of a new cartoon", Scenes.colours(house, house.loom(cartoon, 1, false), 0), "RB");
            house.hatch(cartoon, number, 5 - number);
        }
        for (int number = 0; number < 5; number++) {
            int piece = house.loom(number, 1, false);
            CHECK.due("the first one of cartoon " + number, house.cell(piece, 0, 0, 0), number);
            CHECK.due("the second one of cartoon " + number, house.cell(piece, 0, 1, 0), 5 - number);
        }
    }

    private static void evenAndOdd() {
        for (int width = 2; width <= 12; width++) {
            for (int row = 0; row < 10; row++) {
                WeftHouse house = new WeftHouse();
                int cartoon = Scenes.drawAlike(house, "X".repeat(width), 10);
                house.hatch(cartoon, 4, 5);
                String due = (row % 2 == 0 ? "WZWZWZWZWZWZ" : "ZWZWZWZWZWZW").substring(0, width);
                String turned = new StringBuilder(due).reverse().toString();
                CHECK.due("row " + row, Scenes.colours(house, house.loom(cartoon, 1, false), row), due);
                CHECK.due("mirrored row " + row, Scenes.colours(house, house.loom(cartoon, 1, true), row), turned);
            }
        }
    }

    private static void lots() {
        CHECK.sentence("A lot of a colour has threads, 1 to 999", () -> threadsOfLots());
        CHECK.sentence("a fade, 0 to 9", () -> fades());
        CHECK.sentence("and bleeds or does not", () -> bleedsOrNot());
        CHECK.sentence("Lots are numbered from 0, at most 20.", () -> atMostTwentyLots());
    }

    private static void threadsOfLots() {
        for (int threads : new int[] {1, 2, 998, 999}) {
            WeftHouse house = new WeftHouse();
            house.dye(3, threads, 0, false);
            CHECK.due("threads", house.left(0), threads);
        }
        for (int wrong : Scenes.outside(1, 999)) {
            CHECK.refuses("threads " + wrong, () -> new WeftHouse(), Check.ARGUMENT, x -> x.dye(3, wrong, 0, false));
        }
        WeftHouse house = new WeftHouse();
        house.dye(0, 1, 0, false);
        int piece = house.loom(Scenes.draw(house, "RR"), 2, false);
        CHECK.due("its one thread", house.weave(piece, 0), 0);
        CHECK.due("none is left", house.left(0), 0);
        CHECK.throwsOf("a second one", house, Check.STATE, x -> x.weave(piece, 1));
    }

    private static void fades() {
        for (int fade = 0; fade <= 9; fade++) {
            WeftHouse house = new WeftHouse();
            CHECK.due("fade " + fade, house.dye(0, 2, fade, false), 0);
            CHECK.due("light on fade " + fade, house.light(Scenes.piece(house, "RR"), 100), 2 * (100 - fade));
        }
        for (int wrong : Scenes.outside(0, 9)) {
            CHECK.refuses("fade " + wrong, () -> new WeftHouse(), Check.ARGUMENT, x -> x.dye(3, 9, wrong, true));
        }
    }

    private static void bleedsOrNot() {
        for (int lots = 0; lots < 4; lots++) {
            WeftHouse house = new WeftHouse();
            house.dye(0, 1, 0, lots % 2 == 1);
            house.dye(1, 1, 0, lots / 2 == 1);
            int piece = Scenes.piece(house, "RB");
            CHECK.due("washed, " + lots, house.wash(piece), 200 - 5 * (lots % 2) - 5 * (lots / 2));
            CHECK.due("the first one, " + lots, house.cell(piece, 0, 0, 2), 100 - 5 * (lots / 2));
        }
    }

    private static void atMostTwentyLots() {
        Check.Scene full = () -> {
            WeftHouse house = new WeftHouse();
            for (int number = 0; number < 20; number++) {
                CHECK.due("lot " + number, house.dye(number % 6, 1 + number, number % 10, true), number);
            }
            return house;
        };
        WeftHouse house = full.make();
        for (int number = 0; number < 20; number++) {
            CHECK.due("threads of lot " + number, house.left(number), 1 + number);
        }
        CHECK.refuses("a lot too many", full, Check.STATE, x -> x.dye(0, 1, 0, false));
        CHECK.refuses("lot 20", full, Check.INDEX, x -> x.left(20));
        WeftHouse last = new WeftHouse();
        for (int number = 0; number < 20; number++) {
            last.dye(number == 19 ? 0 : 1, 1, 0, false);
        }
        int piece = last.loom(Scenes.draw(last, "RB"), 1, false);
        last.weave(piece, 0);
        CHECK.due("the last lot's thread is woven", last.cell(piece, 0, 0, 1), 19);
        CHECK.due("and taken", last.left(19), 0);
    }

    private static void looms() {
        CHECK.sentence("A piece is begun on a loom from a cartoon as it is then", () -> asTheCartoonIsThen());
        CHECK.sentence("with all its rows", () -> withAllRows());
        CHECK.sentence("by 1 to 4 weavers", () -> oneToFourWeavers());
        CHECK.sentence("no more than its width", () -> noMoreWeaversThanColumns());
        CHECK.sentence("the weaver k has the columns from k times the width by the weavers, rounded down, "
                + "on to that one less for k and 1", () -> columnsOfWeavers());
        CHECK.sentence("A mirrored piece has in its column c what the cartoon has in that of the width, less 1, "
                + "less c.", () -> mirrored());
        CHECK.sentence("Pieces are numbered from 0, at most 20.", () -> atMostTwentyPieces());
    }

    private static void asTheCartoonIsThen() {
        WeftHouse house = Scenes.drawnHouse("XXG", "BBX");
        int early = house.loom(0, 1, false);
        house.weave(early, 0);
        house.hatch(0, 5, 4);
        Scenes.typeWord(house, "YYY");
        house.row(0);
        CHECK.due("as many rows", house.pieceIs(early, 1), 2);
        CHECK.due("the row that is woven", Scenes.colours(house, early, 0), "RBG");
        CHECK.due("the row that is not", Scenes.colours(house, early, 1), "BBB");
        CHECK.due("its next row", house.weave(early, 0), 1);
        CHECK.due("of the colour then", Scenes.lots(house, early, 1), "BBB");
        CHECK.due("it is done", house.pieceIs(early, 3), 1);
        int late = house.loom(0, 1, true);
        CHECK.due("rows of a later one", house.pieceIs(late, 1), 3);
        CHECK.due("colours of a later one", Scenes.colours(house, late, 0), "GWZ");
    }

    private static void withAllRows() {
        for (int rows = 1; rows <= 10; rows++) {
            WeftHouse house = Scenes.dyedHouse();
            int piece = house.loom(Scenes.drawAlike(house, "RB", rows), 1, false);
            CHECK.due("rows", house.pieceIs(piece, 1), rows);
            for (int row = 0; row < rows; row++) {
                CHECK.due("not done below row " + row, house.pieceIs(piece, 3), 0);
                CHECK.due("row " + row + " of " + rows, house.weave(piece, 0), row);
            }
            CHECK.due("done", house.pieceIs(piece, 3), 1);
            CHECK.throwsOf("a row above " + rows, house, Check.STATE, x -> x.weave(piece, 0));
        }
        CHECK.refuses("no row", () -> emptyCartoon(), Check.STATE, x -> x.loom(0, 1, false));
    }

    private static WeftHouse emptyCartoon() {
        WeftHouse house = new WeftHouse();
        house.cartoon(12);
        return house;
    }

    private static void oneToFourWeavers() {
        Check.Scene wide = () -> Scenes.drawnHouse("RBYGWZRBYGWZ");
        for (int weavers = 1; weavers <= 4; weavers++) {
            int many = weavers;
            CHECK.takes(weavers + " weavers", wide, 0, x -> x.loom(0, many, false));
            WeftHouse house = wide.make();
            house.loom(0, weavers, false);
            CHECK.throwsOf("weaver " + weavers, house, Check.INDEX, x -> x.weave(0, many));
            CHECK.due("the last one", house.weave(0, weavers - 1), 0);
        }
        for (int wrong : Scenes.outside(1, 4)) {
            CHECK.refuses(wrong + " weavers", wide, Check.ARGUMENT, x -> x.loom(0, wrong, false));
        }
    }

    private static void noMoreWeaversThanColumns() {
        for (int width = 2; width <= 5; width++) {
            String row = "RBYGW".substring(0, width);
            for (int weavers = 1; weavers <= 6; weavers++) {
                int many = weavers;
                Check.Scene scene = () -> Scenes.drawnHouse(row);
                String what = weavers + " weavers of " + row;
                if (weavers <= Math.min(4, width)) {
                    CHECK.takes(what, scene, 0, x -> x.loom(0, many, true));
                } else {
                    CHECK.refuses(what, scene, Check.ARGUMENT, x -> x.loom(0, many, true));
                }
            }
        }
    }

    private static void columnsOfWeavers() {
        for (int width = 2; width <= 12; width++) {
            for (int weavers = 1; weavers <= Math.min(4, width); weavers++) {
                for (int weaver = 0; weaver < weavers; weaver++) {
                    WeftHouse house = Scenes.drawnHouse("R".repeat(width));
                    house.loom(0, weavers, false);
                    house.weave(0, weaver);
                    int from = Math.floorDiv(weaver * width, weavers);
                    int to = Math.floorDiv((weaver + 1) * width, weavers) - 1;
                    String due = "-".repeat(from) + "A".repeat(to - from + 1) + "-".repeat(width - 1 - to);
                    CHECK.due("weaver " + weaver + " of " + weavers, Scenes.lots(house, 0, 0), due);
                }
            }
        }
    }

    private static void mirrored() {
        String letters = "RBYGWZZGBYRW";
        for (int width = 2; width <= 12; width++) {
            String row = letters.substring(0, width);
            WeftHouse house = Scenes.drawnHouse(row, "Z" + "R".repeat(width - 1));
            int turned = house.loom(0, 1, true);
            int plain = house.loom(0, 1, false);
            CHECK.due("mirrored", Scenes.colours(house, turned, 0), new StringBuilder(row).reverse().toString());
            CHECK.due("each row", Scenes.colours(house, turned, 1), "R".repeat(width - 1) + "Z");
            CHECK.due("not mirrored", Scenes.colours(house, plain, 0), row);
        }
    }

    private static void atMostTwentyPieces() {
        Check.Scene full = () -> {
            WeftHouse house = Scenes.wovenHouse("RB");
            Scenes.weaveWhole(house, 0, true);
            CHECK.due("piece 2 is a cut", house.cut(0, 1), 2);
            house.join(1, 2);
            for (int number = 3; number < 20; number++) {
                CHECK.due("piece " + number, house.loom(0, 1, false), number);
            }
            return house;
        };
        CHECK.refuses("a piece too many", full, Check.STATE, x -> x.loom(0, 1, false));
        CHECK.refuses("a cut too many", full, Check.STATE, x -> x.cut(1, 1));
        CHECK.refuses("piece 20", full, Check.INDEX, x -> x.pieceIs(20, 0));
        CHECK.takes("piece 19", full, 0, x -> x.weave(19, 0));
    }

    private static void weavers() {
        CHECK.sentence("A weaver weaves his next row, all his columns", () -> nextRows());
        CHECK.sentence("only if each neighbour, the weavers beside him, has woven as many rows as he has, at least",
                () -> neighbours());
    }

    private static void nextRows() {
        WeftHouse house = Scenes.dyedHouse();
        Scenes.drawAlike(house, "RBYGW", 10);
        house.loom(0, 2, false);
        for (int row = 0; row < 10; row++) {
            CHECK.due("row of the first one", house.weave(0, 0), row);
            CHECK.due("his columns", Scenes.lots(house, 0, row), "AB---");
            CHECK.due("row of the second one", house.weave(0, 1), row);
            CHECK.due("all columns", Scenes.lots(house, 0, row), "ABCDE");
            CHECK.due("cells", house.pieceIs(0, 2), 5 * (row + 1));
        }
    }

    /** Each state that three rows of four weavers can have: who may go on. */
    private static void neighbours() {
        for (int weavers = 1; weavers <= 4; weavers++) {
            int states = (int) Math.pow(4, weavers);
            for (int state = 0; state < states; state++) {
                int[] rows = new int[weavers];
                for (int weaver = 0; weaver < weavers; weaver++) {
                    rows[weaver] = (state >> (2 * weaver)) & 3;
                }
                if (canBe(rows)) {
                    whoMayGoOn(rows);
                }
            }
        }
    }

    private static boolean canBe(int[] rows) {
        for (int weaver = 1; weaver < rows.length; weaver++) {
            if (Math.abs(rows[weaver] - rows[weaver - 1]) > 1) {
                return false;
            }
        }
        return true;
    }

    private static void whoMayGoOn(int[] rows) {
        int weavers = rows.length;
        String state = Arrays.toString(rows);
        for (int weaver = 0; weaver < weavers; weaver++) {
            WeftHouse house = Scenes.drawnHouse("RBYG", "RBYG", "RBYG");
            house.loom(0, weavers, false);
            for (int row = 0; row < 3; row++) {
                for (int each = 0; each < weavers; each++) {
                    if (row < rows[each]) {
                        CHECK.due("up to " + state, house.weave(0, each), row);
                    }
                }
            }
            boolean may = rows[weaver] < 3;
            may = may && (weaver == 0 || rows[weaver - 1] >= rows[weaver]);
            may = may && (weaver == weavers - 1 || rows[weaver + 1] >= rows[weaver]);
            int asked = weaver;
            CHECK.due("weaver " + weaver + " in " + state, Check.answer(x -> x.weave(0, asked), house),
                    may ? Integer.toString(rows[weaver]) : "IllegalStateException");
        }
    }

    private static void threads() {
        CHECK.sentence("For each cell, by rising columns, the lot of its colour with the lowest number that has a "
                + "thread left gives one", () -> lowestLots());
        CHECK.sentence("if there is none for some cell, nothing is woven", () -> nothingIsWoven());
        CHECK.sentence("A cell that is woven has a shade of 100.", () -> newShades());
        CHECK.sentence("When all rows are woven by all, the piece is done", () -> doneWhenAllIsWoven());
    }

    private static void lowestLots() {
        WeftHouse house = new WeftHouse();
        house.dye(1, 1, 0, false);
        house.dye(0, 2, 0, false);
        house.dye(0, 1, 0, false);
        house.dye(1, 3, 0, false);
        house.dye(0, 999, 0, false);
        house.loom(Scenes.draw(house, "RRBR", "RBBR"), 2, false);
        house.weave(0, 1);
        CHECK.due("of the weaver's cells alone", Scenes.lots(house, 0, 0), "--AB");
        house.weave(0, 0);
        CHECK.due("the last thread, and the next lot", Scenes.lots(house, 0, 0), "BCAB");
        house.weave(0, 0);
        CHECK.due("a lot behind an empty one", Scenes.lots(house, 0, 1), "ED--");
        CHECK.due("empty ones", house.left(0) + house.left(1) + house.left(2), 0);
        CHECK.due("threads of lot 3", house.left(3), 2);
        CHECK.due("threads of lot 4", house.left(4), 998);
        house.dye(0, 5, 0, false);
        house.weave(0, 1);
        CHECK.due("not the newest one", Scenes.lots(house, 0, 1), "EDDE");
        WeftHouse turned = new WeftHouse();
        turned.dye(0, 1, 0, false);
        turned.dye(0, 1, 0, false);
        turned.dye(0, 9, 0, false);
        turned.loom(Scenes.draw(turned, "RRR"), 1, true);
        turned.weave(0, 0);
        CHECK.due("by rising columns of the piece", Scenes.lots(turned, 0, 0), "ABC");
    }

    private static void nothingIsWoven() {
        Check.Scene scene = () -> {
            WeftHouse house = new WeftHouse();
            house.dye(0, 2, 0, false);
            house.dye(1, 1, 0, false);
            house.dye(0, 1, 0, false);
            house.loom(Scenes.draw(house, "RRBR", "RRRR", "RRYR"), 1, false);
            house.loom(Scenes.draw(house, "RRRR"), 1, false);
            house.loom(Scenes.draw(house, "YRRR"), 1, false);
            house.loom(Scenes.draw(house, "RRRY"), 1, false);
            house.loom(Scenes.draw(house, "BB"), 1, false);
            return house;
        };
        CHECK.takes("just enough threads", scene, 0, x -> x.weave(0, 0));
        CHECK.refuses("the last cell lacks one", scene, Check.STATE, x -> x.weave(1, 0));
        CHECK.refuses("no lot for the first cell", scene, Check.STATE, x -> x.weave(2, 0));
        CHECK.refuses("no lot for the last cell", scene, Check.STATE, x -> x.weave(3, 0));
        CHECK.refuses("one thread for two cells", scene, Check.STATE, x -> x.weave(4, 0));
        Check.Scene empty = () -> {
            WeftHouse house = scene.make();
            house.weave(0, 0);
            return house;
        };
        CHECK.refuses("no thread is left", empty, Check.STATE, x -> x.weave(0, 0));
        CHECK.refuses("no thread for one cell", empty, Check.STATE, x -> x.weave(4, 0));
        Check.Scene noLot = () -> {
            WeftHouse house = new WeftHouse();
            house.loom(Scenes.draw(house, "RB"), 2, false);
            return house;
        };
        CHECK.refuses("no lot at all", noLot, Check.STATE, x -> x.weave(0, 1));
        WeftHouse again = empty.make();
        again.dye(0, 4, 0, false);
        CHECK.due("when there are threads again", again.weave(0, 0), 1);
    }

    private static void newShades() {
        WeftHouse house = Scenes.drawnHouse("RBYGWZ", "RBYGWZ");
        house.loom(0, 2, false);
        house.weave(0, 1);
        CHECK.due("woven by one", Scenes.shades(house, 0, 0), "0 0 0 100 100 100");
        CHECK.due("the row above", Scenes.shades(house, 0, 1), "0 0 0 0 0 0");
        house.weave(0, 0);
        house.weave(0, 0);
        house.weave(0, 1);
        CHECK.due("woven by both", Scenes.shades(house, 0, 0) + " " + Scenes.shades(house, 0, 1),
                "100 ".repeat(12).strip());
    }

    private static void doneWhenAllIsWoven() {
        for (int weavers = 1; weavers <= 4; weavers++) {
            for (int last = 0; last < weavers; last++) {
                WeftHouse house = Scenes.drawnHouse("RBYG", "GYBR");
                house.loom(0, weavers, true);
                for (int row = 0; row < 2; row++) {
                    for (int weaver = 0; weaver < weavers; weaver++) {
                        if (row == 0 || weaver != last) {
                            CHECK.due("not done", house.pieceIs(0, 3), 0);
                            house.weave(0, weaver);
                        }
                    }
                }
                CHECK.due("but for one row of weaver " + last, house.pieceIs(0, 3), 0);
                house.weave(0, last);
                CHECK.due("done by " + weavers, house.pieceIs(0, 3), 1);
            }
        }
    }
}
