import java.util.function.IntFunction;

/** The sentences of the document's promises 14 to 22, each with a test of its own. */
public final class CallsOfFragmentsTest {
    private static final Check CHECK = new Check();
    private static final int[] NO_PIECES = {3, 5, 19, 20, -1, Integer.MIN_VALUE, Integer.MAX_VALUE};

    public static void main(String[] arguments) {
        promise14();
        promise15();
        promise16();
        promise17();
        promise18();
        promise19();
        promise20();
        promise21();
        promise22();
        CHECK.finish();
    }

    /**
     * Piece 0 is done, 3 rows and 4 columns; 1 has one cell yet to be woven; 2 is done, 1 row and 2
     * columns; 3 is no more; 4 is of 24 columns and 3 rows.
     */
    private static WeftHouse pieces() {
        WeftHouse house = new WeftHouse();
        house.dye(0, 500, 7, true);
        house.dye(1, 500, 2, false);
        Scenes.draw(house, "RBBR", "RBBR", "RBRR");
        Scenes.weaveWhole(house, 0, false);
        house.loom(0, 4, false);
        for (int weaver = 0; weaver < 11; weaver++) {
            house.weave(1, weaver % 4);
        }
        Scenes.piece(house, "RB");
        int twelve = Scenes.drawAlike(house, "RRRRRRRRRRRR", 3);
        int other = Scenes.weaveWhole(house, twelve, false);
        int widest = Scenes.weaveWhole(house, twelve, false);
        house.join(widest, other);
        return house;
    }

    private static final Check.Scene PIECES = () -> pieces();

    /** As the other, and there were 20 pieces. */
    private static WeftHouse fullHouse() {
        WeftHouse house = pieces();
        for (int piece = 5; piece < 20; piece++) {
            house.loom(1, 1, false);
        }
        return house;
    }

    private static void refusesPieces(Check.Call taken, IntFunction<Check.Call> refused) {
        CHECK.due("piece 0 is taken", Check.answer(taken, pieces()).endsWith("Exception"), false);
        for (int wrong : NO_PIECES) {
            CHECK.refuses("piece " + wrong, PIECES, Check.INDEX, refused.apply(wrong));
        }
    }

    private static void promise14() {
        CHECK.sentence("14: column: the second one of both", () -> {
            CHECK.takes("the first two", PIECES, 1, x -> x.sew(0, 1) ? 1 : 0);
            CHECK.takes("the next two", PIECES, 0, x -> x.sew(0, 2) ? 1 : 0);
            CHECK.takes("the last two", PIECES, 0, x -> x.sew(0, 3) ? 1 : 0);
            CHECK.takes("the last two of 24", PIECES, 0, x -> x.sew(4, 23) ? 1 : 0);
            WeftHouse house = Scenes.wovenHouse("RBB", "RBB", "RBB");
            CHECK.due("the column ahead is not sewn by it", house.sew(0, 2), false);
            CHECK.due("nor counted", house.pieceIs(0, 4), 1);
        });
        CHECK.sentence("14: Returns whether there was a slit.", () -> {
            WeftHouse house = pieces();
            CHECK.due("there was", house.sew(0, 1), true);
            CHECK.due("there was not", house.sew(0, 1), false);
            CHECK.due("of two rows", house.sew(0, 3), false);
            CHECK.due("none is left", house.pieceIs(0, 4), 0);
        });
        CHECK.sentence("14: Throws IndexOutOfBoundsException as told; column 0 is none", () -> {
            refusesPieces(x -> x.sew(0, 1) ? 1 : 0, piece -> x -> x.sew(piece, 1) ? 1 : 0);
            for (int wrong : Scenes.outside(1, 3)) {
                CHECK.refuses("column " + wrong, PIECES, Check.INDEX, x -> x.sew(0, wrong) ? 1 : 0);
                CHECK.refuses("of one not done " + wrong, PIECES, Check.INDEX, x -> x.sew(1, wrong) ? 1 : 0);
            }
            for (int wrong : Scenes.outside(1, 23)) {
                CHECK.refuses("of 24, " + wrong, PIECES, Check.INDEX, x -> x.sew(4, wrong) ? 1 : 0);
            }
        });
        CHECK.sentence("14: Throws IllegalStateException if the piece is not done", () -> {
            CHECK.refuses("the first columns", PIECES, Check.STATE, x -> x.sew(1, 1) ? 1 : 0);
            CHECK.refuses("the last ones", PIECES, Check.STATE, x -> x.sew(1, 3) ? 1 : 0);
            WeftHouse house = pieces();
            house.weave(1, 3);
            CHECK.due("when it is", house.sew(1, 1), true);
        });
    }

    private static void promise15() {
        CHECK.sentence("15: hours: 1 to 9999", () -> {
            CHECK.takes("least", PIECES, 1200, x -> x.light(0, 1));
            CHECK.takes("greatest", PIECES, 0, x -> x.light(0, 9999));
        });
        CHECK.sentence("15: Returns the sum of all shades then.", () -> {
            WeftHouse house = pieces();
            CHECK.due("seven red, five blue", house.light(0, 100), 7 * 93 + 5 * 98);
            CHECK.due("that it is", house.pieceIs(0, 5), 7 * 93 + 5 * 98);
            CHECK.due("more", house.light(0, 1328), 7 * 1 + 5 * 72);
            CHECK.due("0 at least", house.light(0, 1328), 5 * 46);
            CHECK.due("of this piece alone", house.pieceIs(2, 5), 200);
            CHECK.due("of the greatest piece", house.light(4, 100), 72 * 93);
        });
        CHECK.sentence("15: Throws IndexOutOfBoundsException as told", () -> {
            refusesPieces(x -> x.light(0, 1), piece -> x -> x.light(piece, 1));
            refusesPieces(x -> x.light(0, 1), piece -> x -> x.light(piece, 0));
        });
        CHECK.sentence("15: Throws IllegalArgumentException as told", () -> {
            for (int wrong : Scenes.outside(1, 9999)) {
                CHECK.refuses("hours " + wrong, PIECES, Check.ARGUMENT, x -> x.light(0, wrong));
                CHECK.refuses("of one not done " + wrong, PIECES, Check.ARGUMENT, x -> x.light(1, wrong));
            }
        });
        CHECK.sentence("15: Throws IllegalStateException if it is not done", () -> {
            CHECK.refuses("least", PIECES, Check.STATE, x -> x.light(1, 1));
            CHECK.refuses("greatest", PIECES, Check.STATE, x -> x.light(1, 9999));
        });
    }

    private static void promise16() {
        CHECK.sentence("16: Returns the sum of all shades then.", () -> {
            WeftHouse house = pieces();
            CHECK.due("washed", house.wash(0), 1200 - 5 * 7);
            CHECK.due("that it is", house.pieceIs(0, 5), 1200 - 5 * 7);
            CHECK.due("once more", house.wash(0), 1200 - 10 * 7);
            CHECK.due("of one row", house.wash(2), 195);
            CHECK.due("of one lot", house.wash(4), 7200);
        });
        CHECK.sentence("16: Throws IndexOutOfBoundsException as told",
                () -> refusesPieces(x -> x.wash(0), piece -> x -> x.wash(piece)));
        CHECK.sentence("16: Throws IllegalStateException if it is not done", () -> {
            CHECK.refuses("not done", PIECES, Check.STATE, x -> x.wash(1));
            WeftHouse house = pieces();
            house.weave(1, 3);
            CHECK.due("when it is", house.wash(1), 1200 - 5 * 7);
        });
    }

    private static void promise17() {
        CHECK.sentence("17: column: the first one of the new piece", () -> {
            for (int column = 1; column < 4; column++) {
                WeftHouse house = pieces();
                house.cut(0, column);
                CHECK.due("kept", Scenes.colours(house, 0, 2), "RBRR".substring(0, column));
                CHECK.due("the new piece", Scenes.colours(house, 5, 2), "RBRR".substring(column));
            }
        });
        CHECK.sentence("17: Returns its number.", () -> {
            WeftHouse house = pieces();
            for (int number = 5; number < 20; number++) {
                CHECK.due("the next one", house.cut(4, 24 - (number - 4)), number);
            }
            CHECK.due("columns left", house.pieceIs(4, 0), 9);
        });
        CHECK.sentence("17: Throws IndexOutOfBoundsException as told; column 0 is none", () -> {
            refusesPieces(x -> x.cut(0, 1), piece -> x -> x.cut(piece, 1));
            for (int wrong : Scenes.outside(1, 3)) {
                CHECK.refuses("column " + wrong, PIECES, Check.INDEX, x -> x.cut(0, wrong));
                CHECK.refuses("of one not done " + wrong, PIECES, Check.INDEX, x -> x.cut(1, wrong));
                CHECK.refuses("when full " + wrong, () -> fullHouse(), Check.INDEX, x -> x.cut(0, wrong));
            }
            for (int wrong : Scenes.outside(1, 23)) {
                CHECK.refuses("of 24, " + wrong, PIECES, Check.INDEX, x -> x.cut(4, wrong));
            }
        });
        CHECK.sentence("17: Throws IllegalStateException if it is not done, or there were 20 pieces", () -> {
            CHECK.refuses("not done", PIECES, Check.STATE, x -> x.cut(1, 1));
            CHECK.refuses("full", () -> fullHouse(), Check.STATE, x -> x.cut(0, 1));
            CHECK.refuses("full, the last column", () -> fullHouse(), Check.STATE, x -> x.cut(4, 23));
            CHECK.refuses("both", () -> fullHouse(), Check.STATE, x -> x.cut(1, 1));
        });
    }

    private static void promise18() {
        CHECK.sentence("18: Returns how many rows; NONE if they have not as many rows.", () -> {
            CHECK.takes("all", PIECES, 3, x -> x.match(0, 4));
            CHECK.takes("all, the other way", PIECES, 3, x -> x.match(4, 0));
            CHECK.takes("fewer rows", PIECES, WeftHouse.NONE, x -> x.match(0, 2));
            CHECK.takes("more rows", PIECES, WeftHouse.NONE, x -> x.match(2, 0));
            WeftHouse house = pieces();
            CHECK.due("the cut piece", house.cut(0, 2), 5);
            CHECK.due("BBB and BBR", house.match(0, 5), 2);
            CHECK.due("RRR and RRR", house.match(5, 0), 3);
            house.cut(5, 1);
            CHECK.due("BBR and RRR", house.match(5, 0), 1);
            house.cut(0, 1);
            CHECK.due("RRR and BBR", house.match(0, 5), 1);
            CHECK.due("RRR and BBB", house.match(0, 7), 0);
        });
        refusedPairs("18", (x, piece, other) -> x.match(piece, other));
        CHECK.sentence("18: Returns the match of two pieces.", () -> {
            for (int probe = 0; probe < Probes.COUNT; probe++) {
                WeftHouse house = pieces();
                house.match(0, 4);
                house.match(0, 2);
                CHECK.due("probe " + probe, Probes.ask(probe, house), Probes.ask(probe, pieces()));
            }
        });
    }

    /** A call of two pieces. */
    private interface PairCall {
        long on(WeftHouse house, int piece, int other);
    }

    private static void refusedPairs(String promise, PairCall call) {
        CHECK.sentence(promise + ": Throws IndexOutOfBoundsException as told, of both", () -> {
            for (int wrong : NO_PIECES) {
                CHECK.refuses("the first one " + wrong, PIECES, Check.INDEX, x -> call.on(x, wrong, 0));
                CHECK.refuses("the second one " + wrong, PIECES, Check.INDEX, x -> call.on(x, 0, wrong));
                CHECK.refuses("both " + wrong, PIECES, Check.INDEX, x -> call.on(x, wrong, wrong));
                CHECK.refuses("and one not done " + wrong, PIECES, Check.INDEX, x -> call.on(x, 1, wrong));
                CHECK.refuses("ahead of one not done " + wrong, PIECES, Check.INDEX, x -> call.on(x, wrong, 1));
            }
        });
        CHECK.sentence(promise + ": Throws IllegalArgumentException if both are the same", () -> {
            for (int piece : new int[] {0, 1, 2, 4}) {
                CHECK.refuses("piece " + piece, PIECES, Check.ARGUMENT, x -> call.on(x, piece, piece));
            }
        });
        CHECK.sentence(promise + ": Throws IllegalStateException if one is not done", () -> {
            CHECK.refuses("the first one", PIECES, Check.STATE, x -> call.on(x, 1, 0));
            CHECK.refuses("the second one", PIECES, Check.STATE, x -> call.on(x, 0, 1));
            CHECK.refuses("and unlike rows", PIECES, Check.STATE, x -> call.on(x, 1, 2));
            CHECK.refuses("and unlike rows, the second one", PIECES, Check.STATE, x -> call.on(x, 2, 1));
            Check.Scene neither = () -> {
                WeftHouse house = pieces();
                house.loom(0, 1, false);
                return house;
            };
            CHECK.refuses("neither", neither, Check.STATE, x -> call.on(x, 1, 5));
        });
    }

    private static void promise19() {
        CHECK.sentence("19: Returns whether the joining is true.", () -> {
            for (int column = 1; column < 4; column++) {
                WeftHouse house = pieces();
                int part = house.cut(0, column);
                CHECK.due("as they were woven", house.join(0, part), true);
                int again = house.cut(0, column);
                CHECK.due("the other way round", house.join(again, 0), false);
            }
            WeftHouse house = pieces();
            int part = house.cut(4, 4);
            CHECK.due("another piece's columns", house.join(0, part), false);
        });
        refusedPairs("19", (x, piece, other) -> x.join(piece, other) ? 1 : 0);
        CHECK.sentence("19: Throws IllegalStateException if they cannot be joined", () -> {
            CHECK.refuses("unlike rows", PIECES, Check.STATE, x -> x.join(0, 2) ? 1 : 0);
            CHECK.refuses("unlike rows, the other way", PIECES, Check.STATE, x -> x.join(2, 0) ? 1 : 0);
            CHECK.refuses("28 columns", PIECES, Check.STATE, x -> x.join(0, 4) ? 1 : 0);
            CHECK.refuses("28 columns, the other way", PIECES, Check.STATE, x -> x.join(4, 0) ? 1 : 0);
            Check.Scene next = () -> {
                WeftHouse house = pieces();
                house.cut(4, 21);
                return house;
            };
            CHECK.refuses("25 columns", next, Check.STATE, x -> x.join(0, 4) ? 1 : 0);
            Check.Scene just = () -> {
                WeftHouse house = pieces();
                house.cut(4, 20);
                return house;
            };
            CHECK.takes("24 columns", just, 0, x -> x.join(0, 4) ? 1 : 0);
        });
        CHECK.sentence("19: Joins two pieces.", () -> {
            Check.Scene full = () -> {
                WeftHouse house = pieces();
                house.cut(4, 20);
                for (int piece = 6; piece < 20; piece++) {
                    house.loom(1, 1, false);
                }
                return house;
            };
            CHECK.takes("joined", full, 0, x -> x.join(0, 4) ? 1 : 0);
            CHECK.takes("joined truly", full, 1, x -> x.join(4, 5) ? 1 : 0);
        });
    }

    private static void promise20() {
        CHECK.sentence("20: Tells whether a piece is true.", () -> {
            CHECK.takes("of one loom", PIECES, 1, x -> x.isTrue(0) ? 1 : 0);
            CHECK.takes("not done", PIECES, 1, x -> x.isTrue(1) ? 1 : 0);
            CHECK.takes("joined falsely", PIECES, 0, x -> x.isTrue(4) ? 1 : 0);
            WeftHouse house = pieces();
            int part = house.cut(4, 11);
            CHECK.due("what is kept", house.isTrue(4), true);
            CHECK.due("what is cut off with the false joint", house.isTrue(part), false);
            int rest = house.cut(part, 1);
            CHECK.due("ahead of the joint", house.isTrue(part), true);
            CHECK.due("behind the joint", house.isTrue(rest), true);
            CHECK.due("joined truly", house.join(4, part), true);
            CHECK.due("is true", house.isTrue(4), true);
            CHECK.due("joined falsely again", house.join(4, rest), false);
            CHECK.due("is not true", house.isTrue(4), false);
        });
        CHECK.sentence("20: Throws IndexOutOfBoundsException as told",
                () -> refusesPieces(x -> x.isTrue(0) ? 1 : 0, piece -> x -> x.isTrue(piece) ? 1 : 0));
    }

    private static void promise21() {
        CHECK.sentence("21: Returns how many cells; NONE if they have not as many rows and columns.", () -> {
            CHECK.takes("all", PIECES, 12, x -> x.likeness(0, 0));
            CHECK.takes("not done", PIECES, 12, x -> x.likeness(1, 0));
            CHECK.takes("unlike rows", PIECES, WeftHouse.NONE, x -> x.likeness(2, 0));
            CHECK.takes("unlike columns", PIECES, WeftHouse.NONE, x -> x.likeness(0, 2));
            CHECK.takes("both unlike", PIECES, WeftHouse.NONE, x -> x.likeness(0, 1));
            CHECK.takes("24 columns", PIECES, WeftHouse.NONE, x -> x.likeness(4, 2));
            CHECK.takes("12 of them", PIECES, 36, x -> {
                x.cut(4, 12);
                return x.likeness(4, 2);
            });
            WeftHouse house = pieces();
            CHECK.due("a row too many", house.likeness(2, Scenes.draw(house, "RB", "RB")), WeftHouse.NONE);
            CHECK.due("none of them", house.likeness(2, Scenes.draw(house, "YG")), 0);
            WeftHouse other = pieces();
            CHECK.due("one of two", other.likeness(2, Scenes.draw(other, "RR")), 1);
            CHECK.due("rows too few", other.likeness(0, Scenes.draw(other, "RBBR")), WeftHouse.NONE);
        });
        CHECK.sentence("21: Throws IndexOutOfBoundsException as told, of both", () -> {
            refusesPieces(x -> x.likeness(0, 0), piece -> x -> x.likeness(piece, 0));
            refusesPieces(x -> x.likeness(0, 0), piece -> x -> x.likeness(piece, 3));
            for (int wrong : Scenes.outside(0, 2)) {
                CHECK.refuses("cartoon " + wrong, PIECES, Check.INDEX, x -> x.likeness(0, wrong));
            }
        });
    }

    private static void promise22() {
        CHECK.sentence("22: Tells whether of each lot as many threads are woven, thread by thread in all pieces, as it "
                + "has fewer than at first.", () -> {
            CHECK.takes("nothing there yet", () -> new WeftHouse(), 1, x -> x.balances() ? 1 : 0);
            CHECK.takes("many pieces", PIECES, 1, x -> x.balances() ? 1 : 0);
            CHECK.takes("all that there can be", () -> fullHouse(), 1, x -> x.balances() ? 1 : 0);
            WeftHouse house = pieces();
            CHECK.due("red ones", 500 - house.left(0), 7 + 6 + 1 + 72);
            CHECK.due("blue ones", 500 - house.left(1), 5 + 5 + 1);
            house.cut(0, 3);
            house.join(5, 0);
            house.light(5, 9999);
            house.wash(5);
            house.dye(0, 999, 0, true);
            CHECK.due("cut, joined, lit, washed", house.balances(), true);
            Check.answer(x -> x.weave(0, 0), house);
            CHECK.due("and refused", house.balances(), true);
        });
        CHECK.sentence("22: of each lot", () -> {
            WeftHouse house = new WeftHouse();
            for (int lot = 0; lot < 20; lot++) {
                house.dye(0, 1, 0, false);
            }
            house.loom(Scenes.drawAlike(house, "RR", 10), 1, false);
            for (int row = 0; row < 10; row++) {
                house.weave(0, 0);
                CHECK.due("row " + row, house.balances(), true);
                CHECK.due("the last lot", house.left(19), row == 9 ? 0 : 1);
            }
        });
    }
}
