/** Promises 14 to 16: sew, light, wash. */
public final class CareTest {
    private static final Check CHECK = new Check();
    private static final int[] NO_PIECES = {3, 19, 20, -1, Integer.MIN_VALUE, Integer.MAX_VALUE};

    public static void main(String[] arguments) {
        sewing();
        slitsNeedThreeRows();
        slitsOfCutsAndJoints();
        sewingRefused();
        lighting();
        lightingRefused();
        washing();
        bleedingCells();
        washingRefused();
        CHECK.finish();
    }

    private static void sewing() {
        WeftHouse house = Scenes.dyedHouse();
        int piece = Scenes.piece(house, "RBBY", "RBBY", "RBBY");
        CHECK.due("14: two slits", house.pieceIs(piece, 4), 2);
        CHECK.due("14: no slit", house.sew(piece, 2), false);
        CHECK.due("14: a slit", house.sew(piece, 1), true);
        CHECK.due("14: one slit is left", house.pieceIs(piece, 4), 1);
        CHECK.due("14: it is sewn for good", house.sew(piece, 1), false);
        CHECK.due("14: the last column", house.sew(piece, 3), true);
        CHECK.due("14: no slit is left", house.pieceIs(piece, 4), 0);
        int other = Scenes.weaveWhole(house, 0, false);
        CHECK.due("14: another piece is not sewn", house.sew(other, 1), true);
        house.light(piece, 9999);
        house.wash(piece);
        CHECK.due("14: light and washing undo no seam", house.pieceIs(piece, 4), 0);
    }

    private static void slitsNeedThreeRows() {
        WeftHouse house = Scenes.dyedHouse();
        String[] rows = {"RBRBRRBR", "RBRBRBBB", "RRRBRBRR", "RBBBBRBR", "RBRRBRRB"};
        int piece = Scenes.piece(house, rows);
        boolean[] due = new boolean[8];
        int slits = 0;
        for (int column = 1; column < 8; column++) {
            due[column] = longestUnlike(rows, column) >= 3;
            slits += due[column] ? 1 : 0;
        }
        CHECK.due("14: how many of them", house.pieceIs(piece, 4), slits);
        CHECK.due("14: some are", slits > 0 && slits < 7, true);
        for (int column = 1; column < 8; column++) {
            CHECK.due("14: slit ahead of " + column, house.sew(piece, column), due[column]);
        }
        WeftHouse plain = Scenes.dyedHouse();
        CHECK.due("14: two rows are none", plain.sew(Scenes.piece(plain, "RB", "RB"), 1), false);
        CHECK.due("14: two and two are none",
                plain.sew(Scenes.piece(plain, "RB", "RB", "RR", "RB", "RB"), 1), false);
        CHECK.due("14: the lowest three", plain.sew(Scenes.piece(plain, "RB", "BR", "YG", "RR"), 1), true);
        CHECK.due("14: the upper three", plain.sew(Scenes.piece(plain, "RR", "RB", "WG", "RZ"), 1), true);
        WeftHouse hatched = Scenes.dyedHouse();
        int cells = Scenes.piece(hatched, "XX", "XX", "XX");
        CHECK.due("14: hatched cells have colours", hatched.sew(cells, 1), true);
        WeftHouse lots = new WeftHouse();
        for (int lot = 0; lot < 6; lot++) {
            lots.dye(0, 1, 0, false);
        }
        CHECK.due("14: unlike lots of one colour are none", lots.sew(Scenes.piece(lots, "RR", "RR", "RR"), 1), false);
    }

    private static int longestUnlike(String[] rows, int column) {
        String pattern = "";
        for (String row : rows) {
            pattern += row.charAt(column) == row.charAt(column - 1) ? " " : "u";
        }
        int longest = 0;
        for (String run : pattern.split(" ")) {
            longest = Math.max(longest, run.length());
        }
        return longest;
    }

    private static void slitsOfCutsAndJoints() {
        WeftHouse house = Scenes.dyedHouse();
        int piece = Scenes.piece(house, "RBYG", "RBYG", "RBYG");
        for (int column = 1; column < 4; column++) {
            house.sew(piece, column);
        }
        int part = house.cut(piece, 2);
        CHECK.due("14: what is sewn stays", house.pieceIs(piece, 4), 0);
        CHECK.due("14: what is sewn goes with its columns", house.pieceIs(part, 4), 0);
        house.join(piece, part);
        CHECK.due("14: a joint is not sewn", house.pieceIs(piece, 4), 1);
        CHECK.due("14: still sewn ahead of it", house.sew(piece, 1), false);
        CHECK.due("14: still sewn behind it", house.sew(piece, 3), false);
        CHECK.due("14: the joint is a slit", house.sew(piece, 2), true);
        int turned = house.cut(piece, 3);
        house.join(turned, piece);
        CHECK.due("14: sewn columns go behind others", house.pieceIs(turned, 4), 1);
        CHECK.due("14: but for the joint", house.sew(turned, 1), true);
        CHECK.due("14: nothing else was open", house.pieceIs(turned, 4), 0);
        WeftHouse fresh = Scenes.dyedHouse();
        int open = Scenes.piece(fresh, "RBYG", "RBYG", "RBYG");
        fresh.sew(open, 2);
        int rest = fresh.cut(open, 1);
        CHECK.due("14: the seam goes along one column on", fresh.sew(rest, 1), false);
        CHECK.due("14: and no other", fresh.sew(rest, 2), true);
    }

    private static Check.Scene oneDoneOneNot() {
        return () -> {
            WeftHouse house = new WeftHouse();
            house.dye(0, 99, 3, true);
            house.dye(1, 99, 7, false);
            Scenes.piece(house, "RBR", "RBR", "RBR");
            house.loom(0, 1, false);
            house.weave(1, 0);
            house.weave(1, 0);
            int gone = Scenes.weaveWhole(house, 0, true);
            house.join(0, gone);
            return house;
        };
    }

    private static void sewingRefused() {
        Check.Scene scene = oneDoneOneNot();
        for (int wrong : NO_PIECES) {
            CHECK.refuses("14: piece " + wrong, scene, Check.INDEX, x -> x.sew(wrong, 1) ? 1 : 0);
        }
        CHECK.refuses("14: a piece no more", scene, Check.INDEX, x -> x.sew(2, 1) ? 1 : 0);
        for (int wrong : new int[] {0, 6, 24, -1, Integer.MIN_VALUE, Integer.MAX_VALUE}) {
            CHECK.refuses("14: column " + wrong, scene, Check.INDEX, x -> x.sew(0, wrong) ? 1 : 0);
        }
        CHECK.refuses("14: not done", scene, Check.STATE, x -> x.sew(1, 1) ? 1 : 0);
        CHECK.refuses("14: column ahead of not done", scene, Check.INDEX, x -> x.sew(1, 3) ? 1 : 0);
        CHECK.refuses("14: column 0 ahead of not done", scene, Check.INDEX, x -> x.sew(1, 0) ? 1 : 0);
    }

    private static void lighting() {
        WeftHouse house = new WeftHouse();
        for (int lot = 0; lot < 6; lot++) {
            house.dye(lot, 99, new int[] {0, 1, 3, 7, 9, 2}[lot], false);
        }
        int piece = Scenes.piece(house, "RBYGWZ");
        int untouched = Scenes.weaveWhole(house, 0, false);
        CHECK.due("15: an hour is too little", house.light(piece, 1), 600);
        CHECK.due("15: hours do not add up", house.light(piece, 11), 600);
        CHECK.due("15: one is for fade nine", house.light(piece, 12), 599);
        CHECK.due("15: by a hundred, rounded down", house.light(piece, 199), 599 - 0 - 1 - 5 - 13 - 17 - 3);
        CHECK.due("15: each lot its own", Scenes.shades(house, piece, 0), "100 99 95 87 82 97");
        CHECK.due("15: more hours", house.light(piece, 1000), 100 + 89 + 65 + 17 + 0 + 77);
        CHECK.due("15: 0 at least", Scenes.shades(house, piece, 0), "100 89 65 17 0 77");
        CHECK.due("15: the sum is kept", house.pieceIs(piece, 5), 348);
        CHECK.due("15: most hours", house.light(piece, 9999), 100);
        CHECK.due("15: another piece is not lit", house.pieceIs(untouched, 5), 600);
        WeftHouse exact = new WeftHouse();
        exact.dye(0, 9, 4, true);
        int cells = Scenes.piece(exact, "RR", "RR");
        CHECK.due("15: all rows", exact.light(cells, 25), 396);
        CHECK.due("15: not quite", exact.light(cells, 24), 396);
        CHECK.due("15: to nothing", exact.light(cells, 2475), 0);
    }

    private static void lightingRefused() {
        Check.Scene scene = oneDoneOneNot();
        for (int wrong : NO_PIECES) {
            CHECK.refuses("15: piece " + wrong, scene, Check.INDEX, x -> x.light(wrong, 0));
        }
        CHECK.refuses("15: a piece no more", scene, Check.INDEX, x -> x.light(2, 1));
        for (int wrong : new int[] {0, 10000, -1, Integer.MIN_VALUE, Integer.MAX_VALUE}) {
            CHECK.refuses("15: hours " + wrong, scene, Check.ARGUMENT, x -> x.light(0, wrong));
            CHECK.refuses("15: hours ahead of not done " + wrong, scene, Check.ARGUMENT, x -> x.light(1, wrong));
        }
        CHECK.refuses("15: not done", scene, Check.STATE, x -> x.light(1, 9999));
    }

    private static void washing() {
        WeftHouse house = new WeftHouse();
        house.dye(0, 99, 0, true);
        house.dye(1, 99, 0, false);
        house.dye(2, 99, 0, true);
        house.dye(3, 99, 0, false);
        int piece = Scenes.piece(house, "BGB", "GRG", "BGB");
        CHECK.due("16: beside, above and below", house.wash(piece), 880);
        CHECK.due("16: the row below", Scenes.shades(house, piece, 0), "100 95 100");
        CHECK.due("16: its own row", Scenes.shades(house, piece, 1), "95 100 95");
        CHECK.due("16: the row above", Scenes.shades(house, piece, 2), "100 95 100");
        CHECK.due("16: once more", house.wash(piece), 860);
        int both = Scenes.piece(house, "RYB", "BRR");
        CHECK.due("16: each such one does so", house.wash(both), 600 - 5 - 10 - 10 - 10 - 5);
        CHECK.due("16: cells of one lot do not", Scenes.shades(house, both, 1), "90 95 100");
        CHECK.due("16: two bleeding lots", Scenes.shades(house, both, 0), "95 90 90");
    }

    private static void bleedingCells() {
        WeftHouse house = new WeftHouse();
        house.dye(0, 1, 0, true);
        house.dye(0, 1, 9, false);
        int piece = Scenes.piece(house, "RR");
        CHECK.due("16: another lot of the same colour", house.wash(piece), 195);
        CHECK.due("16: nothing else bleeds", Scenes.shades(house, piece, 0), "100 95");
        house.light(piece, 1033);
        CHECK.due("16: nearly white", Scenes.shades(house, piece, 0), "100 3");
        CHECK.due("16: 0 at least", house.wash(piece), 100);
        CHECK.due("16: nothing is left", house.wash(piece), 100);
        WeftHouse pale = new WeftHouse();
        pale.dye(0, 1, 9, true);
        pale.dye(1, 1, 0, false);
        int faded = Scenes.piece(pale, "RB");
        pale.light(faded, 9999);
        CHECK.due("16: a cell without shade bleeds", pale.wash(faded), 95);
        WeftHouse joined = new WeftHouse();
        joined.dye(0, 9, 0, true);
        joined.dye(1, 9, 0, false);
        int left = Scenes.piece(joined, "BR");
        int right = Scenes.piece(joined, "BB");
        joined.wash(left);
        joined.join(left, right);
        CHECK.due("16: over a joint", joined.wash(left), 400 - 5 - 5 - 5);
        int cut = joined.cut(left, 2);
        joined.wash(left);
        CHECK.due("16: not over a cut", Scenes.shades(joined, cut, 0), "95 100");
    }

    private static void washingRefused() {
        Check.Scene scene = oneDoneOneNot();
        for (int wrong : NO_PIECES) {
            CHECK.refuses("16: piece " + wrong, scene, Check.INDEX, x -> x.wash(wrong));
        }
        CHECK.refuses("16: a piece no more", scene, Check.INDEX, x -> x.wash(2));
        CHECK.refuses("16: not done", scene, Check.STATE, x -> x.wash(1));
    }
}
