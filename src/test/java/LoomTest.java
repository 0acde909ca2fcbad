/** Promises 10 to 13: loom, weave, pieceIs, cell. */
public final class LoomTest {
    private static final Check CHECK = new Check();
    private static final int[] EXTREMES = {-1, Integer.MIN_VALUE, Integer.MAX_VALUE};

    public static void main(String[] arguments) {
        beginning();
        mirroring();
        snapshot();
        weaversColumns();
        loomRefused();
        neighbours();
        lotsOfCells();
        nothingWovenWithoutThreads();
        weaveRefused();
        whatAPieceIs();
        whatACellIs();
        CHECK.finish();
    }

    private static WeftHouse drawn(String... rows) {
        WeftHouse house = Scenes.dyedHouse();
        Scenes.draw(house, rows);
        return house;
    }

    private static void beginning() {
        WeftHouse house = drawn("RBYG", "XXWZ", "BBBB");
        for (int number = 0; number < 20; number++) {
            CHECK.due("10: piece " + number, house.loom(0, 1 + number % 4, number % 2 == 1), number);
        }
        CHECK.due("10: columns", house.pieceIs(0, 0), 4);
        CHECK.due("10: rows", house.pieceIs(0, 1), 3);
        CHECK.due("10: colours of row 0", Scenes.colours(house, 0, 0), "RBYG");
        CHECK.due("10: colours of row 1", Scenes.colours(house, 0, 1), "BRWZ");
        CHECK.due("10: nothing is woven", Scenes.lots(house, 0, 0), "----");
        CHECK.due("10: no thread is taken", house.left(0), 999);
        CHECK.due("10: it is true", house.isTrue(0), true);
    }

    private static void mirroring() {
        WeftHouse house = drawn("RBYG", "XXXW", "XZZZ");
        int piece = house.loom(0, 2, true);
        CHECK.due("10: mirrored row 0", Scenes.colours(house, piece, 0), "GYBR");
        CHECK.due("10: hatched by the cartoon's columns", Scenes.colours(house, piece, 1), "WBRB");
        CHECK.due("10: mirrored row 2", Scenes.colours(house, piece, 2), "ZZZR");
        house.weave(piece, 0);
        CHECK.due("10: the first weaver has the first columns", Scenes.lots(house, piece, 0), "DC--");
    }

    private static void snapshot() {
        WeftHouse house = drawn("XXR");
        int piece = house.loom(0, 1, false);
        Scenes.typeWord(house, "GGG");
        house.row(0);
        house.hatch(0, 4, 4);
        CHECK.due("10: the rows it had then", house.pieceIs(piece, 1), 1);
        CHECK.due("10: the hatching it had then", Scenes.colours(house, piece, 0), "RBR");
        CHECK.due("10: the rows it has now", house.pieceIs(house.loom(0, 1, false), 1), 2);
    }

    private static void weaversColumns() {
        String[][] due = {
            {"AAAAAAAAAAA", null, null, null},
            {"AAAAA------", "AAAAAAAAAAA", null, null},
            {"AAA--------", "AAAAAAA----", "AAAAAAAAAAA", null},
            {"AA---------", "AAAAA------", "AAAAAAAA---", "AAAAAAAAAAA"}};
        for (int weavers = 1; weavers <= 4; weavers++) {
            WeftHouse house = drawn("RRRRRRRRRRR");
            int piece = house.loom(0, weavers, false);
            for (int weaver = 0; weaver < weavers; weaver++) {
                CHECK.due("11: row of weaver " + weaver, house.weave(piece, weaver), 0);
                CHECK.due("10: columns of weaver " + weaver + " of " + weavers, Scenes.lots(house, piece, 0),
                        due[weavers - 1][weaver]);
            }
        }
        WeftHouse narrow = drawn("RB", "BR");
        CHECK.due("10: as many weavers as columns", narrow.loom(0, 2, false), 0);
        narrow.weave(0, 1);
        CHECK.due("10: a column each", Scenes.lots(narrow, 0, 0), "-B");
    }

    private static void loomRefused() {
        Check.Scene scene = () -> {
            WeftHouse house = drawn("RBY", "XXX");
            house.cartoon(4);
            house.loom(0, 2, false);
            house.weave(0, 1);
            return house;
        };
        for (int wrong : new int[] {2, 4, 5, -1, Integer.MIN_VALUE, Integer.MAX_VALUE}) {
            CHECK.refuses("10: cartoon " + wrong, scene, Check.INDEX, x -> x.loom(wrong, 0, false));
        }
        for (int wrong : new int[] {0, 4, 5, -1, Integer.MIN_VALUE, Integer.MAX_VALUE}) {
            CHECK.refuses("10: weavers " + wrong, scene, Check.ARGUMENT, x -> x.loom(0, wrong, true));
        }
        CHECK.refuses("10: five weavers", () -> drawn("RRRRRR"), Check.ARGUMENT, x -> x.loom(0, 5, true));
        CHECK.refuses("10: no row", scene, Check.STATE, x -> x.loom(1, 1, false));
        CHECK.refuses("10: weavers ahead of no row", scene, Check.ARGUMENT, x -> x.loom(1, 5, false));
        Check.Scene full = () -> {
            WeftHouse house = drawn("RB");
            for (int number = 0; number < 20; number++) {
                Scenes.weaveWhole(house, 0, false);
            }
            house.join(3, 19);
            return house;
        };
        CHECK.refuses("10: there were 20 pieces", full, Check.STATE, x -> x.loom(0, 1, false));
        CHECK.refuses("10: weavers ahead of 20 pieces", full, Check.ARGUMENT, x -> x.loom(0, 3, false));
        CHECK.refuses("10: cartoon ahead of 20 pieces", full, Check.INDEX, x -> x.loom(1, 1, false));
    }

    private static void neighbours() {
        WeftHouse house = drawn("RRRR", "BBBB", "YYYY");
        house.loom(0, 4, false);
        int no = WeftHouse.NONE;
        int[][] weaversAndRows = {
            {1, 0}, {1, no}, {0, 0}, {1, no}, {0, 1}, {0, no}, {2, 0}, {2, no}, {1, 1}, {1, no}, {0, 2},
            {0, no}, {3, 0}, {3, 1}, {3, no}, {2, 1}, {2, 2}, {2, no}, {3, 2}, {3, no}, {1, 2}, {1, no}};
        for (int step = 0; step < weaversAndRows.length; step++) {
            int weaver = weaversAndRows[step][0];
            int row = weaversAndRows[step][1];
            CHECK.due("11: step " + step + " of weaver " + weaver, Check.answer(x -> x.weave(0, weaver), house),
                    row == no ? "IllegalStateException" : Integer.toString(row));
        }
        CHECK.due("11: all are woven", house.pieceIs(0, 3), 1);
        CHECK.due("11: threads of each row", house.left(0) + house.left(1) + house.left(2), 3 * 995);
        WeftHouse apart = drawn("RR", "BB");
        apart.loom(0, 2, false);
        apart.loom(0, 2, false);
        apart.weave(0, 0);
        CHECK.due("11: another piece's weavers count not", apart.weave(1, 0), 0);
    }

    private static void lotsOfCells() {
        WeftHouse house = new WeftHouse();
        house.dye(0, 1, 0, false);
        house.dye(1, 1, 0, false);
        house.dye(0, 2, 0, false);
        house.dye(1, 9, 0, false);
        house.dye(0, 9, 0, false);
        int piece = house.loom(Scenes.draw(house, "RBRBR", "BRRBR"), 1, false);
        house.weave(piece, 0);
        CHECK.due("11: the lowest lot with a thread", Scenes.lots(house, piece, 0), "ABCDC");
        CHECK.due("11: a shade of 100", Scenes.shades(house, piece, 0), "100 100 100 100 100");
        house.weave(piece, 0);
        CHECK.due("11: the next lots", Scenes.lots(house, piece, 1), "DEEDE");
        CHECK.due("11: done", house.pieceIs(piece, 3), 1);
        WeftHouse mirrored = new WeftHouse();
        mirrored.dye(0, 1, 0, false);
        mirrored.dye(0, 9, 0, false);
        int turned = Scenes.weaveWhole(mirrored, Scenes.draw(mirrored, "RR"), true);
        CHECK.due("11: the piece's columns rise", Scenes.lots(mirrored, turned, 0), "AB");
    }

    private static void nothingWovenWithoutThreads() {
        Check.Scene scene = () -> {
            WeftHouse house = new WeftHouse();
            house.dye(0, 2, 0, false);
            house.dye(1, 1, 0, false);
            house.loom(Scenes.draw(house, "RBRB", "RRRR"), 2, false);
            house.loom(Scenes.draw(house, "RRBB"), 1, false);
            house.loom(Scenes.draw(house, "RG"), 1, false);
            return house;
        };
        CHECK.refuses("11: the last cell lacks", scene, Check.STATE, x -> x.weave(1, 0));
        CHECK.refuses("11: no such dye", scene, Check.STATE, x -> x.weave(2, 0));
        WeftHouse house = scene.make();
        CHECK.due("11: just enough", house.weave(0, 0), 0);
        CHECK.due("11: blue is used up", house.left(1), 0);
        CHECK.due("11: no blue", Check.answer(x -> x.weave(0, 1), house), "IllegalStateException");
        CHECK.due("11: red is kept", house.left(0), 1);
        house.dye(1, 1, 0, false);
        CHECK.due("11: blue again", house.weave(0, 1), 0);
        CHECK.due("11: of the new lot", Scenes.lots(house, 0, 0), "ABAC");
    }

    private static void weaveRefused() {
        Check.Scene scene = () -> {
            WeftHouse house = drawn("RBYG", "RBYG");
            house.loom(0, 2, false);
            house.weave(0, 1);
            Scenes.weaveWhole(house, 0, false);
            house.cut(1, 2);
            Scenes.weaveWhole(house, 0, false);
            house.join(2, 3);
            return house;
        };
        CHECK.refuses("11: above a neighbour", scene, Check.STATE, x -> x.weave(0, 1));
        CHECK.refuses("11: all is woven", scene, Check.STATE, x -> x.weave(1, 0));
        CHECK.refuses("11: a cut piece has no weavers", scene, Check.INDEX, x -> x.weave(2, 0));
        CHECK.refuses("11: a piece no more", scene, Check.INDEX, x -> x.weave(3, 0));
        CHECK.refuses("11: weaver 2 of 2", scene, Check.INDEX, x -> x.weave(0, 2));
        CHECK.refuses("11: weaver 1 of 1", scene, Check.INDEX, x -> x.weave(1, 1));
        for (int wrong : EXTREMES) {
            CHECK.refuses("11: weaver " + wrong, scene, Check.INDEX, x -> x.weave(0, wrong));
            CHECK.refuses("11: piece " + wrong, scene, Check.INDEX, x -> x.weave(wrong, 0));
        }
        CHECK.refuses("11: piece 4", scene, Check.INDEX, x -> x.weave(4, 0));
        CHECK.refuses("11: piece 20", scene, Check.INDEX, x -> x.weave(20, 0));
    }

    private static void whatAPieceIs() {
        WeftHouse house = drawn("RBY", "RBB", "BRB");
        int piece = house.loom(0, 2, false);
        due(house, "not begun", 3, 3, 0, 0, 0, 0);
        house.weave(piece, 1);
        due(house, "two cells", 3, 3, 2, 0, 0, 200);
        house.weave(piece, 0);
        house.weave(piece, 0);
        Check.answer(x -> x.weave(piece, 0), house);
        house.weave(piece, 1);
        house.weave(piece, 0);
        due(house, "all cells but two", 3, 3, 7, 0, 0, 700);
        house.weave(piece, 1);
        due(house, "done", 3, 3, 9, 1, 1, 900);
        house.sew(piece, 1);
        due(house, "sewn", 3, 3, 9, 1, 0, 900);
        WeftHouse other = drawn("RBRB", "RRBR", "RBRR", "RBRB", "BRRB");
        int slits = Scenes.weaveWhole(other, 0, false);
        CHECK.due("12: three rows one above the other, or more", other.pieceIs(slits, 4), 2);
        refusedPieceIs();
    }

    private static void due(WeftHouse house, String when, int... answers) {
        for (int what = 0; what < answers.length; what++) {
            CHECK.due("12: " + what + " " + when, house.pieceIs(0, what), answers[what]);
        }
    }

    private static void refusedPieceIs() {
        Check.Scene scene = () -> {
            WeftHouse house = drawn("RBYG");
            Scenes.weaveWhole(house, 0, false);
            Scenes.weaveWhole(house, 0, false);
            house.join(1, 0);
            return house;
        };
        for (int wrong : new int[] {0, 2, 20, -1, Integer.MIN_VALUE, Integer.MAX_VALUE}) {
            CHECK.refuses("12: piece " + wrong, scene, Check.INDEX, x -> x.pieceIs(wrong, 6));
        }
        for (int wrong : new int[] {6, -1, Integer.MIN_VALUE, Integer.MAX_VALUE}) {
            CHECK.refuses("12: what " + wrong, scene, Check.ARGUMENT, x -> x.pieceIs(1, wrong));
        }
    }

    private static void whatACellIs() {
        WeftHouse house = drawn("RBY", "GWZ");
        int piece = house.loom(0, 1, false);
        CHECK.due("13: a colour not woven", house.cell(piece, 1, 2, 0), 5);
        CHECK.due("13: no lot", house.cell(piece, 1, 2, 1), WeftHouse.NONE);
        CHECK.due("13: no shade", house.cell(piece, 1, 2, 2), 0);
        house.weave(piece, 0);
        CHECK.due("13: a colour woven", house.cell(piece, 0, 1, 0), 1);
        CHECK.due("13: its lot", house.cell(piece, 0, 1, 1), 1);
        CHECK.due("13: its shade", house.cell(piece, 0, 1, 2), 100);
        CHECK.due("13: the row above is not woven", house.cell(piece, 1, 1, 1), WeftHouse.NONE);
        Check.Scene scene = () -> {
            WeftHouse made = drawn("RBY", "GWZ");
            Scenes.weaveWhole(made, 0, false);
            made.cut(0, 2);
            return made;
        };
        for (int wrong : new int[] {2, 20, -1, Integer.MIN_VALUE, Integer.MAX_VALUE}) {
            CHECK.refuses("13: piece " + wrong, scene, Check.INDEX, x -> x.cell(wrong, 0, 0, 3));
            CHECK.refuses("13: row " + wrong, scene, Check.INDEX, x -> x.cell(0, wrong, 0, 3));
            CHECK.refuses("13: column " + wrong, scene, Check.INDEX, x -> x.cell(0, 0, wrong, 3));
        }
        for (int wrong : new int[] {3, -1, Integer.MIN_VALUE, Integer.MAX_VALUE}) {
            CHECK.refuses("13: what " + wrong, scene, Check.ARGUMENT, x -> x.cell(0, 0, 0, wrong));
        }
        CHECK.refuses("13: a column cut off", scene, Check.INDEX, x -> x.cell(0, 0, 2, 0));
        CHECK.refuses("13: a column of the rest", scene, Check.INDEX, x -> x.cell(1, 0, 1, 0));
    }
}
