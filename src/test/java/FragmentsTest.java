/** Promises 17 to 22: cut, match, join, isTrue, likeness, balances. */
public final class FragmentsTest {
    private static final Check CHECK = new Check();
    private static final int[] NO_PIECES = {5, 19, 20, -1, Integer.MIN_VALUE, Integer.MAX_VALUE};

    public static void main(String[] arguments) {
        cutting();
        cuttingRefused();
        matching();
        matchingRefused();
        joining();
        joiningRefused();
        trueJoinings();
        truePieces();
        trueRefused();
        likeness();
        likenessRefused();
        balance();
        CHECK.finish();
    }

    private static void cutting() {
        WeftHouse house = new WeftHouse();
        house.dye(0, 99, 1, false);
        house.dye(1, 99, 2, true);
        house.dye(2, 99, 3, false);
        int piece = Scenes.piece(house, "RBYBR", "YRBRY");
        house.light(piece, 200);
        house.wash(piece);
        String lower = Scenes.shades(house, piece, 0);
        CHECK.due("17: the next number", house.cut(piece, 2), 1);
        CHECK.due("17: columns kept", house.pieceIs(piece, 0), 2);
        CHECK.due("17: columns cut off", house.pieceIs(1, 0), 3);
        CHECK.due("17: rows of both", house.pieceIs(piece, 1) * 10 + house.pieceIs(1, 1), 22);
        CHECK.due("17: both are done", house.pieceIs(piece, 3) + house.pieceIs(1, 3), 2);
        CHECK.due("17: cells woven", house.pieceIs(piece, 2) * 10 + house.pieceIs(1, 2), 46);
        CHECK.due("17: colours kept", Scenes.colours(house, piece, 1), "YR");
        CHECK.due("17: colours cut off", Scenes.colours(house, 1, 1), "BRY");
        CHECK.due("17: lots cut off", Scenes.lots(house, 1, 0), "CBA");
        CHECK.due("17: shades go along", Scenes.shades(house, piece, 0) + " " + Scenes.shades(house, 1, 0), lower);
        CHECK.due("17: the last column", house.cut(1, 2), 2);
        CHECK.due("17: the first column", house.cut(piece, 1), 3);
        CHECK.due("17: one column", Scenes.colours(house, 2, 0) + Scenes.colours(house, 3, 0), "RB");
        CHECK.due("17: of one column none is cut", Check.answer(x -> x.cut(2, 1), house), "IndexOutOfBoundsException");
    }

    private static WeftHouse scene() {
        WeftHouse house = Scenes.dyedHouse();
        Scenes.piece(house, "RBY", "BBY");
        Scenes.piece(house, "YBR", "YYB", "RRR");
        house.loom(0, 1, false);
        Scenes.weaveWhole(house, 0, true);
        int gone = Scenes.weaveWhole(house, 1, false);
        house.join(1, gone);
        return house;
    }

    private static void cuttingRefused() {
        for (int wrong : NO_PIECES) {
            CHECK.refuses("17: piece " + wrong, () -> scene(), Check.INDEX, x -> x.cut(wrong, 1));
        }
        CHECK.refuses("17: a piece no more", () -> scene(), Check.INDEX, x -> x.cut(4, 1));
        for (int wrong : new int[] {0, 3, 24, -1, Integer.MIN_VALUE, Integer.MAX_VALUE}) {
            CHECK.refuses("17: column " + wrong, () -> scene(), Check.INDEX, x -> x.cut(0, wrong));
            CHECK.refuses("17: column ahead of not done " + wrong, () -> scene(), Check.INDEX, x -> x.cut(2, wrong));
        }
        CHECK.refuses("17: not done", () -> scene(), Check.STATE, x -> x.cut(2, 1));
        Check.Scene full = () -> {
            WeftHouse house = scene();
            for (int piece = 5; piece < 20; piece++) {
                house.loom(0, 1, false);
            }
            return house;
        };
        CHECK.refuses("17: there were 20 pieces", full, Check.STATE, x -> x.cut(0, 1));
        CHECK.refuses("17: column ahead of 20 pieces", full, Check.INDEX, x -> x.cut(0, 3));
    }

    private static void matching() {
        WeftHouse house = new WeftHouse();
        house.dye(0, 4, 0, false);
        house.dye(1, 99, 0, false);
        house.dye(0, 99, 0, false);
        int first = Scenes.piece(house, "BR", "BR", "BR", "RB");
        int second = Scenes.piece(house, "RB", "BR", "RB", "BB");
        int third = Scenes.piece(house, "RB", "BR", "RB");
        CHECK.due("18: lots, not colours", house.match(first, second), 1);
        CHECK.due("18: the other way", house.match(second, first), 2);
        CHECK.due("18: unlike rows", house.match(first, third), WeftHouse.NONE);
        CHECK.due("18: unlike rows the other way", house.match(third, second), WeftHouse.NONE);
        house.dye(2, 99, 0, false);
        int all = Scenes.piece(house, "YY", "YY");
        int again = Scenes.weaveWhole(house, 3, true);
        CHECK.due("18: all rows", house.match(all, again), 2);
        house.light(again, 99);
        CHECK.due("18: shades do not count", house.match(all, again), 2);
        int cut = house.cut(all, 1);
        CHECK.due("18: of a cut", house.match(all, cut), 2);
        WeftHouse wide = Scenes.dyedHouse();
        int ends = Scenes.piece(wide, "RBY", "BYR", "YRB");
        int starts = Scenes.piece(wide, "YYY", "GGG", "BBB");
        CHECK.due("18: last column and first column", wide.match(ends, starts), 2);
        CHECK.due("18: not the first and the last one", wide.match(starts, ends), 0);
    }

    private static void matchingRefused() {
        refusedPair("18", (x, piece, other) -> x.match(piece, other));
        CHECK.due("18: unlike rows are no fault", Check.answer(x -> x.match(0, 1), scene()), "-1");
    }

    private static void joining() {
        WeftHouse house = Scenes.dyedHouse();
        int first = Scenes.piece(house, "RBY", "BBY");
        int second = Scenes.piece(house, "GWZZ", "ZWGR");
        house.light(second, 1);
        CHECK.due("19: false", house.join(second, first), false);
        CHECK.due("19: columns together", house.pieceIs(second, 0), 7);
        CHECK.due("19: its own ahead, row 0", Scenes.colours(house, second, 0), "GWZZRBY");
        CHECK.due("19: its own ahead, row 1", Scenes.colours(house, second, 1), "ZWGRBBY");
        CHECK.due("19: lots", Scenes.lots(house, second, 1), "FEDABBC");
        CHECK.due("19: shades", house.pieceIs(second, 5), 1400);
        CHECK.due("19: the other is no more", Check.answer(x -> x.pieceIs(first, 0), house), "IndexOutOfBoundsException");
        CHECK.due("19: its number is not given again", house.loom(0, 1, false), 2);
        CHECK.due("19: the piece can be cut", house.cut(second, 5), 3);
        CHECK.due("19: within the other's columns", Scenes.colours(house, 3, 0), "BY");
        CHECK.due("19: its weaver stays", Check.answer(x -> x.weave(second, 0), house), "IllegalStateException");
        WeftHouse full = Scenes.dyedHouse();
        Scenes.piece(full, "RBYGWZRBYGWZ");
        Scenes.weaveWhole(full, 0, true);
        CHECK.due("19: 24 columns together", full.join(0, 1), false);
        CHECK.due("19: 24 columns", Scenes.colours(full, 0, 0), "RBYGWZRBYGWZZWGYBRZWGYBR");
        CHECK.due("19: the last column can be cut", full.cut(0, 23), 2);
        CHECK.due("19: and joined ahead", full.join(2, 0), false);
        CHECK.due("19: in its new place", Scenes.colours(full, 2, 0), "RRBYGWZRBYGWZZWGYBRZWGYB");
    }

    private static void joiningRefused() {
        refusedPair("19", (x, piece, other) -> x.join(piece, other) ? 1 : 0);
        CHECK.refuses("19: unlike rows", () -> scene(), Check.STATE, x -> x.join(0, 1) ? 1 : 0);
        CHECK.refuses("19: unlike rows the other way", () -> scene(), Check.STATE, x -> x.join(1, 0) ? 1 : 0);
        Check.Scene wide = () -> {
            WeftHouse house = Scenes.dyedHouse();
            Scenes.piece(house, "RRRRRRRRRRRR");
            Scenes.weaveWhole(house, 0, false);
            house.join(0, 1);
            Scenes.weaveWhole(house, 0, false);
            house.cut(2, 1);
            return house;
        };
        CHECK.refuses("19: 25 columns", wide, Check.STATE, x -> x.join(0, 2) ? 1 : 0);
        CHECK.refuses("19: 25 columns the other way", wide, Check.STATE, x -> x.join(2, 0) ? 1 : 0);
        CHECK.refuses("19: 35 columns", wide, Check.STATE, x -> x.join(0, 3) ? 1 : 0);
    }

    /** A call of two pieces. */
    private interface PairCall {
        long on(WeftHouse house, int piece, int other);
    }

    private static void refusedPair(String promise, PairCall call) {
        for (int wrong : NO_PIECES) {
            CHECK.refuses(promise + ": piece " + wrong, () -> scene(), Check.INDEX, x -> call.on(x, wrong, 0));
            CHECK.refuses(promise + ": other " + wrong, () -> scene(), Check.INDEX, x -> call.on(x, 0, wrong));
            CHECK.refuses(promise + ": both " + wrong, () -> scene(), Check.INDEX, x -> call.on(x, wrong, wrong));
            CHECK.refuses(promise + ": other ahead of not done " + wrong, () -> scene(), Check.INDEX,
                    x -> call.on(x, 2, wrong));
        }
        CHECK.refuses(promise + ": a piece no more", () -> scene(), Check.INDEX, x -> call.on(x, 4, 1));
        CHECK.refuses(promise + ": another no more", () -> scene(), Check.INDEX, x -> call.on(x, 1, 4));
        CHECK.refuses(promise + ": the same", () -> scene(), Check.ARGUMENT, x -> call.on(x, 0, 0));
        CHECK.refuses(promise + ": the same, not done", () -> scene(), Check.ARGUMENT, x -> call.on(x, 2, 2));
        CHECK.refuses(promise + ": the first is not done", () -> scene(), Check.STATE, x -> call.on(x, 2, 0));
        CHECK.refuses(promise + ": the other is not done", () -> scene(), Check.STATE, x -> call.on(x, 0, 2));
        CHECK.refuses(promise + ": not done and unlike rows", () -> scene(), Check.STATE, x -> call.on(x, 1, 2));
    }

    private static void trueJoinings() {
        WeftHouse house = Scenes.dyedHouse();
        int piece = Scenes.piece(house, "RRRRRR", "RRRRRR");
        int twin = Scenes.weaveWhole(house, 0, false);
        int middle = house.cut(piece, 2);
        int end = house.cut(middle, 2);
        int twinEnd = house.cut(twin, 2);
        CHECK.due("19: beside one another, as woven", house.join(middle, end), true);
        CHECK.due("19: and ahead of them", house.join(piece, middle), true);
        CHECK.due("19: columns again", house.pieceIs(piece, 0), 6);
        int half = house.cut(piece, 2);
        CHECK.due("19: another piece's columns", house.join(piece, twinEnd), false);
        CHECK.due("19: the wrong order", house.join(half, twin), false);
        WeftHouse order = Scenes.dyedHouse();
        int left = Scenes.piece(order, "RRR");
        int right = order.cut(left, 1);
        CHECK.due("19: behind one another the wrong way", order.join(right, left), false);
        int apart = order.cut(right, 1);
        int last = order.cut(apart, 1);
        CHECK.due("19: one between them is missing", order.join(last, apart), false);
        WeftHouse numbers = Scenes.dyedHouse();
        Scenes.piece(numbers, "RRRRRRRRRRRR");
        Scenes.weaveWhole(numbers, 0, false);
        CHECK.due("19: the last column of one, the first of the next", numbers.join(0, 1), false);
        WeftHouse mirrored = Scenes.dyedHouse();
        int turned = Scenes.weaveWhole(mirrored, Scenes.draw(mirrored, "RBY"), true);
        int rest = mirrored.cut(turned, 1);
        CHECK.due("19: a mirrored piece as it was woven", mirrored.join(turned, rest), true);
    }

    private static void truePieces() {
        WeftHouse house = Scenes.dyedHouse();
        int first = house.loom(Scenes.draw(house, "RRRR"), 1, false);
        CHECK.due("20: not done", house.isTrue(first), true);
        house.weave(first, 0);
        int second = Scenes.weaveWhole(house, 0, false);
        house.join(first, second);
        CHECK.due("20: joined falsely", house.isTrue(first), false);
        int part = house.cut(first, 6);
        CHECK.due("20: the false joint is kept", house.isTrue(first), false);
        CHECK.due("20: a part without it", house.isTrue(part), true);
        CHECK.due("20: truly joined to a false piece", house.join(first, part), true);
        CHECK.due("20: is false still", house.isTrue(first), false);
        int behind = house.cut(first, 3);
        CHECK.due("20: ahead of the false joint", house.isTrue(first), true);
        CHECK.due("20: the false joint went along", house.isTrue(behind), false);
        int one = house.cut(behind, 1);
        CHECK.due("20: cut at the false joint", house.isTrue(behind) && house.isTrue(one), true);
        house.join(first, behind);
        CHECK.due("20: the first piece again", house.isTrue(first), true);
        CHECK.due("20: a false piece joined truly makes a false one", falseJoinedBehind(), false);
    }

    private static boolean falseJoinedBehind() {
        WeftHouse house = Scenes.dyedHouse();
        int first = Scenes.piece(house, "RRRR");
        int second = Scenes.weaveWhole(house, 0, false);
        int part = house.cut(first, 2);
        house.join(part, second);
        CHECK.due("20: a true joint", house.join(first, part), true);
        return house.isTrue(first);
    }

    private static void trueRefused() {
        for (int wrong : NO_PIECES) {
            CHECK.refuses("20: piece " + wrong, () -> scene(), Check.INDEX, x -> x.isTrue(wrong) ? 1 : 0);
        }
        CHECK.refuses("20: a piece no more", () -> scene(), Check.INDEX, x -> x.isTrue(4) ? 1 : 0);
        CHECK.due("20: a piece not done is no fault", Check.answer(x -> x.isTrue(2) ? 1 : 0, scene()), "1");
    }

    private static void likeness() {
        WeftHouse house = Scenes.dyedHouse();
        int cartoon = Scenes.draw(house, "RBXX", "XXYG");
        int piece = house.loom(cartoon, 2, false);
        CHECK.due("21: not woven", house.likeness(piece, cartoon), 8);
        CHECK.due("21: mirrored", house.likeness(house.loom(cartoon, 1, true), cartoon), 8);
        house.hatch(cartoon, 4, 1);
        CHECK.due("21: the cartoon as it is now", house.likeness(piece, cartoon), 6);
        house.hatch(cartoon, 4, 4);
        CHECK.due("21: both hatching colours", house.likeness(piece, cartoon), 4);
        int other = Scenes.draw(house, "RRRB", "GYRR");
        CHECK.due("21: as it is or mirrored, the greater", house.likeness(piece, other), 4);
        int none = Scenes.draw(house, "ZZZZ", "ZZZZ");
        CHECK.due("21: none", house.likeness(piece, none), 0);
        Scenes.typeWord(house, "RRRR");
        house.row(cartoon);
        CHECK.due("21: a row more", house.likeness(piece, cartoon), WeftHouse.NONE);
        CHECK.due("21: no row", house.likeness(piece, house.cartoon(4)), WeftHouse.NONE);
        CHECK.due("21: unlike columns", house.likeness(piece, Scenes.draw(house, "RBR", "RBR")), WeftHouse.NONE);
        likenessOfFragments();
    }

    private static void likenessOfFragments() {
        WeftHouse house = Scenes.dyedHouse();
        int piece = Scenes.piece(house, "RBYG");
        int narrow = Scenes.draw(house, "RB");
        int turned = Scenes.draw(house, "GYRB");
        int part = house.cut(piece, 2);
        CHECK.due("21: of a cut piece", house.likeness(piece, narrow), 2);
        CHECK.due("21: of another one", house.likeness(part, narrow), 0);
        CHECK.due("21: no longer its own cartoon", house.likeness(piece, 0), WeftHouse.NONE);
        house.join(part, piece);
        CHECK.due("21: of a joined piece", house.likeness(part, turned), 2);
        CHECK.due("21: YGRB and RBYG", house.likeness(part, 0), 0);
        WeftHouse odd = Scenes.dyedHouse();
        int hatched = Scenes.draw(odd, "XX", "XX");
        int plain = Scenes.piece(odd, "BR", "RB");
        CHECK.due("21: hatching is mirrored with its cells", odd.likeness(plain, hatched), 4);
    }

    private static void likenessRefused() {
        for (int wrong : NO_PIECES) {
            CHECK.refuses("21: piece " + wrong, () -> scene(), Check.INDEX, x -> x.likeness(wrong, 0));
        }
        CHECK.refuses("21: a piece no more", () -> scene(), Check.INDEX, x -> x.likeness(4, 0));
        for (int wrong : new int[] {2, 5, -1, Integer.MIN_VALUE, Integer.MAX_VALUE}) {
            CHECK.refuses("21: cartoon " + wrong, () -> scene(), Check.INDEX, x -> x.likeness(0, wrong));
        }
    }

    private static void balance() {
        WeftHouse house = new WeftHouse();
        CHECK.due("22: nothing", house.balances(), true);
        house.dye(0, 5, 9, true);
        house.dye(1, 99, 9, true);
        house.dye(0, 99, 9, true);
        CHECK.due("22: lots alone", house.balances(), true);
        int piece = house.loom(Scenes.draw(house, "RRB", "XRX"), 3, false);
        for (int step = 0; step < 6; step++) {
            house.weave(piece, step % 3);
            CHECK.due("22: step " + step, house.balances(), true);
        }
        int second = Scenes.weaveWhole(house, 0, true);
        house.light(piece, 9999);
        house.wash(second);
        CHECK.due("22: light and washing", house.balances(), true);
        int cut = house.cut(second, 1);
        CHECK.due("22: a cut", house.balances(), true);
        house.join(piece, second);
        house.join(cut, piece);
        CHECK.due("22: joinings", house.balances(), true);
        CHECK.due("22: threads", house.left(0) + house.left(1) + house.left(2), 203 - 12);
    }
}
