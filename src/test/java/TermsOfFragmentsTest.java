import java.util.ArrayList;
import java.util.List;

/**
 * The sentences of the document's terms on slits, light, washing, fragments, exceptions and the
 * constant, each with a test of its own.
 */
public final class TermsOfFragmentsTest {
    private static final Check CHECK = new Check();

    public static void main(String[] arguments) {
        onlyWhenDone();
        slits();
        lightAndWashing();
        cutting();
        joining();
        truth();
        likeness();
        exceptions();
        CHECK.finish();
    }

    private static void onlyWhenDone() {
        CHECK.sentence("only then it can be lit, washed, sewn, cut and joined", () -> onlyThen());
    }

    private static final Check.Call LIGHT = x -> x.light(0, 1);
    private static final Check.Call WASH = x -> x.wash(0);
    private static final Check.Call SEW = x -> x.sew(0, 1) ? 1 : 0;
    private static final Check.Call CUT = x -> x.cut(0, 1);
    private static final Check.Call JOIN_BEHIND = x -> x.join(0, 1) ? 1 : 0;
    private static final Check.Call JOIN_AHEAD = x -> x.join(1, 0) ? 1 : 0;
    private static final Check.Call MATCH_BEHIND = x -> x.match(0, 1);
    private static final Check.Call MATCH_AHEAD = x -> x.match(1, 0);
    private static final Check.Call[] ONLY_WHEN_DONE = {
        LIGHT, WASH, SEW, CUT, JOIN_BEHIND, JOIN_AHEAD, MATCH_BEHIND, MATCH_AHEAD};

    private static void onlyThen() {
        long[] due = {400, 400, 0, 2, 0, 0, 1, 1};
        for (int call = 0; call < ONLY_WHEN_DONE.length; call++) {
            for (int rows = 0; rows < 4; rows++) {
                int woven = rows;
                Check.Scene scene = () -> begunAndDone(woven);
                CHECK.refuses("call " + call + " with rows woven " + rows, scene, Check.STATE, ONLY_WHEN_DONE[call]);
            }
            CHECK.takes("call " + call + " when done", () -> begunAndDone(4), due[call], ONLY_WHEN_DONE[call]);
        }
    }

    /** Piece 0 has two weavers, who together have woven so many of their four rows; piece 1 is done. */
    private static WeftHouse begunAndDone(int rows) {
        WeftHouse house = Scenes.drawnHouse("RB", "RR");
        house.loom(0, 2, false);
        for (int row = 0; row < rows; row++) {
            house.weave(0, row % 2);
        }
        Scenes.weaveWhole(house, 0, false);
        return house;
    }

    private static void slits() {
        CHECK.sentence("Between two columns beside one another there is a slit, one however long", () -> oneSlit());
        CHECK.sentence("if in three rows, one above the other, or more, the colours on both sides of it are unlike",
                () -> threeRows());
        CHECK.sentence("It is sewn for good; where it is sewn, there is no slit.", () -> sewnForGood());
    }

    private static void oneSlit() {
        for (int rows = 3; rows <= 10; rows++) {
            WeftHouse house = Scenes.dyedHouse();
            int piece = Scenes.weaveWhole(house, Scenes.drawAlike(house, "RB", rows), false);
            CHECK.due("of so many rows, " + rows, house.pieceIs(piece, 4), 1);
        }
        WeftHouse twice = Scenes.wovenHouse("RB", "RB", "RB", "RR", "RB", "RB", "RB");
        CHECK.due("three rows and three rows are one", twice.pieceIs(0, 4), 1);
        CHECK.due("sewn", twice.sew(0, 1), true);
        CHECK.due("both of them", twice.pieceIs(0, 4), 0);
        WeftHouse wide = Scenes.dyedHouse();
        int piece = Scenes.weaveWhole(wide, Scenes.drawAlike(wide, "RBRBRBRBRBRB", 3), false);
        CHECK.due("between all columns", wide.pieceIs(piece, 4), 11);
        wide.join(piece, Scenes.weaveWhole(wide, 0, true));
        CHECK.due("of the widest piece", wide.pieceIs(piece, 4), 22);
        WeftHouse plain = Scenes.wovenHouse("RR", "BB", "YY");
        CHECK.due("columns of like colours", plain.pieceIs(0, 4), 0);
    }

    /** Each way in which the rows of two columns can be like or unlike. */
    private static void threeRows() {
        for (int rows = 1; rows <= 10; rows++) {
            for (int unlike = 0; unlike < 1 << rows; unlike++) {
                String[] drawn = new String[rows];
                for (int row = 0; row < rows; row++) {
                    drawn[row] = (unlike >> row & 1) == 1 ? "RB" : "BB";
                }
                boolean due = (unlike & unlike >> 1 & unlike >> 2) != 0;
                WeftHouse house = Scenes.wovenHouse(drawn);
                String what = String.join(" ", drawn);
                CHECK.due("slits of " + what, house.pieceIs(0, 4), due ? 1 : 0);
                CHECK.due("the slit of " + what, house.sew(0, 1), due);
            }
        }
        WeftHouse lots = new WeftHouse();
        for (int lot = 0; lot < 6; lot++) {
            lots.dye(0, 1, 0, false);
        }
        CHECK.due("unlike lots of a colour", lots.sew(Scenes.piece(lots, "RR", "RR", "RR"), 1), false);
    }

    private static void sewnForGood() {
        for (int column = 1; column < 12; column++) {
            WeftHouse house = Scenes.dyedHouse();
            int piece = Scenes.weaveWhole(house, Scenes.drawAlike(house, "RBRBRBRBRBRB", 3), false);
            CHECK.due("a slit", house.sew(piece, column), true);
            CHECK.due("there is none", house.pieceIs(piece, 4), 10);
            house.light(piece, 9999);
            house.wash(piece);
            CHECK.due("for good", house.sew(piece, column), false);
            CHECK.due("the others are", house.pieceIs(piece, 4), 10);
        }
    }

    private static void lightAndWashing() {
        CHECK.sentence("Light of so many hours makes the shade of each cell less by the hours times the fade of its "
                + "lot, by 100, rounded down, 0 at least.", () -> light());
        CHECK.sentence("To wash a piece lets each cell of a lot that bleeds make the shades of the cells beside, above "
                + "and below it, that are of other lots, 5 less each, 0 at least", () -> washing());
        CHECK.sentence("each such one does so", () -> eachOne());
    }

    private static void light() {
        int[] hours = {1, 11, 12, 99, 100, 101, 199, 200, 1099, 1100, 1111, 1112, 4999, 9998, 9999};
        for (int fade = 0; fade <= 9; fade++) {
            for (int lit : hours) {
                WeftHouse house = new WeftHouse();
                house.dye(0, 2, fade, true);
                int piece = Scenes.piece(house, "RR");
                int less = Math.floorDiv(lit * fade, 100);
                CHECK.due(lit + " hours on fade " + fade, house.light(piece, lit), 2 * Math.max(0, 100 - less));
                int twice = Math.max(0, Math.max(0, 100 - less) - less);
                CHECK.due("once more", house.light(piece, lit), 2 * twice);
            }
        }
        WeftHouse house = new WeftHouse();
        house.dye(0, 1, 9, false);
        house.dye(0, 1, 4, false);
        int piece = Scenes.piece(house, "RR");
        house.light(piece, 1111);
        CHECK.due("to one, and its own lot's fade", Scenes.shades(house, piece, 0), "1 56");
        house.light(piece, 12);
        CHECK.due("to none", Scenes.shades(house, piece, 0), "0 56");
        house.light(piece, 9999);
        CHECK.due("not below none", Scenes.shades(house, piece, 0), "0 0");
    }

    /** A bleeding cell in each place of a piece of three rows and columns. */
    private static void washing() {
        for (int place = 0; place < 9; place++) {
            StringBuilder cells = new StringBuilder("BBBBBBBBB");
            cells.setCharAt(place, 'R');
            WeftHouse house = washHouse();
            int piece = Scenes.piece(house, cells.substring(0, 3), cells.substring(3, 6), cells.substring(6, 9));
            house.wash(piece);
            for (int cell = 0; cell < 9; cell++) {
                int apart = Math.abs(cell / 3 - place / 3) + Math.abs(cell % 3 - place % 3);
                CHECK.due("cell " + cell + " of the bleeding one at " + place,
                        house.cell(piece, cell / 3, cell % 3, 2), apart == 1 ? 95 : 100);
            }
        }
        WeftHouse like = washHouse();
        CHECK.due("of the same lot", like.wash(Scenes.piece(like, "RR", "RR")), 400);
        WeftHouse other = new WeftHouse();
        other.dye(0, 1, 0, true);
        other.dye(0, 1, 0, true);
        CHECK.due("of the same colour, not lot", other.wash(Scenes.piece(other, "RR")), 190);
        notBelowNone();
    }

    /** Red bleeds, blue does not, and fades by one in 50 hours. */
    private static WeftHouse washHouse() {
        WeftHouse house = new WeftHouse();
        house.dye(0, 99, 0, true);
        house.dye(1, 99, 2, false);
        return house;
    }

    private static void notBelowNone() {
        for (int shade = 0; shade <= 10; shade++) {
            WeftHouse house = washHouse();
            int piece = Scenes.piece(house, "RB");
            house.light(piece, 50 * (100 - shade));
            CHECK.due("lit", house.cell(piece, 0, 1, 2), shade);
            CHECK.due("washed from " + shade, house.wash(piece), 100 + Math.max(0, shade - 5));
        }
    }

    private static void eachOne() {
        String[][] pieces = {{"BBB", "BBB"}, {"BRB", "BBB"}, {"RBR", "BBB"}, {"RBR", "BRB"}};
        for (int bleeding = 0; bleeding < pieces.length; bleeding++) {
            WeftHouse house = washHouse();
            int piece = Scenes.piece(house, pieces[bleeding]);
            house.wash(piece);
            int due = bleeding == 1 ? 100 : 100 - 5 * bleeding;
            CHECK.due("bleeding ones beside it, " + bleeding, house.cell(piece, 0, 1, 2), due);
        }
        WeftHouse four = washHouse();
        int piece = Scenes.piece(four, "BRB", "RBR", "BRB");
        CHECK.due("all of them", four.wash(piece), 900 - 20 - 4 * 10);
        CHECK.due("on all sides", four.cell(piece, 1, 1, 2), 80);
        for (int washing = 0; washing < 4; washing++) {
            four.wash(piece);
        }
        CHECK.due("five times", four.cell(piece, 1, 1, 2), 0);
        four.wash(piece);
        CHECK.due("and once more", four.cell(piece, 1, 1, 2), 0);
        CHECK.due("at the edge", four.cell(piece, 0, 0, 2), 40);
        WeftHouse both = new WeftHouse();
        both.dye(0, 99, 0, true);
        both.dye(1, 99, 0, true);
        CHECK.due("each on the other", both.wash(Scenes.piece(both, "RB", "BR")), 400 - 8 * 5);
        WeftHouse pale = new WeftHouse();
        pale.dye(0, 99, 9, true);
        pale.dye(1, 99, 0, false);
        int faded = Scenes.piece(pale, "RB");
        pale.light(faded, 9999);
        CHECK.due("one that has no shade", pale.wash(faded), 95);
    }

    private static void cutting() {
        CHECK.sentence("A piece that is done can be cut ahead of a column, neither the first one nor behind the last "
                + "one", () -> whereToCut());
        CHECK.sentence("it keeps the columns ahead of that, a new piece, which has no weavers, has the others",
                () -> whoHasTheColumns());
        CHECK.sentence("What is sewn goes with its columns; at the cut, and where pieces are joined, nothing is sewn.",
                () -> whatIsSewn());
    }

    private static final String WIDEST = "RBYGWZRBYGWZZWGYBRZWGYBR";

    private static WeftHouse house24() {
        WeftHouse house = Scenes.wovenHouse("RBYGWZRBYGWZ");
        Scenes.weaveWhole(house, 0, true);
        house.join(0, 1);
        return house;
    }

    private static void whereToCut() {
        for (int width = 2; width <= 12; width++) {
            String row = WIDEST.substring(0, width);
            Check.Scene scene = () -> Scenes.wovenHouse(row);
            CHECK.takes("the first cut of " + row, scene, 1, x -> x.cut(0, 1));
            CHECK.takes("the last cut of " + row, scene, 1, x -> x.cut(0, row.length() - 1));
            CHECK.refuses("the first column of " + row, scene, Check.INDEX, x -> x.cut(0, 0));
            CHECK.refuses("behind the last column of " + row, scene, Check.INDEX, x -> x.cut(0, row.length()));
        }
        Check.Scene one = () -> {
            WeftHouse house = Scenes.wovenHouse("RB");
            house.cut(0, 1);
            return house;
        };
        for (int column = -1; column <= 2; column++) {
            int wrong = column;
            CHECK.refuses("one column cut at " + wrong, one, Check.INDEX, x -> x.cut(0, wrong));
            CHECK.refuses("the other one cut at " + wrong, one, Check.INDEX, x -> x.cut(1, wrong));
        }
        CHECK.takes("the last column of 24", () -> house24(), 2, x -> x.cut(0, 23));
        for (int wrong : Scenes.outside(1, 23)) {
            CHECK.refuses("column " + wrong + " of 24", () -> house24(), Check.INDEX, x -> x.cut(0, wrong));
        }
    }

    private static void whoHasTheColumns() {
        for (int column = 1; column < 24; column++) {
            WeftHouse house = house24();
            int part = house.cut(0, column);
            CHECK.due("kept", Scenes.colours(house, 0, 0), WIDEST.substring(0, column));
            CHECK.due("cut off", Scenes.colours(house, part, 0), WIDEST.substring(column));
            CHECK.due("how many are kept", house.pieceIs(0, 0), column);
            CHECK.due("how many are cut off", house.pieceIs(part, 0), 24 - column);
            CHECK.due("both are done", house.pieceIs(0, 3) + house.pieceIs(part, 3), 2);
        }
        Check.Scene scene = () -> {
            WeftHouse house = Scenes.drawnHouse("RBYG");
            house.loom(0, 4, false);
            for (int weaver = 0; weaver < 4; weaver++) {
                house.weave(0, weaver);
            }
            house.cut(0, 2);
            return house;
        };
        for (int weaver = 0; weaver < 4; weaver++) {
            int asked = weaver;
            CHECK.refuses("the new one's weaver " + asked, scene, Check.INDEX, x -> x.weave(1, asked));
            CHECK.refuses("the old one's weaver " + asked, scene, Check.STATE, x -> x.weave(0, asked));
        }
        CHECK.refuses("the old one's fifth weaver", scene, Check.INDEX, x -> x.weave(0, 4));
    }

    /** Of four columns with slits between all, each set of seams, each cut, and each joining again. */
    private static void whatIsSewn() {
        for (int seams = 0; seams < 8; seams++) {
            for (int cut = 1; cut < 4; cut++) {
                WeftHouse house = Scenes.wovenHouse("RBYG", "RBYG", "RBYG");
                sewAll(house, seams);
                int part = house.cut(0, cut);
                String what = "seams " + seams + ", cut at " + cut;
                CHECK.due("kept, " + what, openColumns(house, 0), openOf(seams, 1, cut));
                CHECK.due("cut off, " + what, openColumns(house, part), openOf(seams, cut + 1, 4));
                joinedAgain(seams, cut, false, what);
                joinedAgain(seams, cut, true, what);
            }
        }
    }

    private static void joinedAgain(int seams, int cut, boolean isTurned, String what) {
        WeftHouse house = Scenes.wovenHouse("RBYG", "RBYG", "RBYG");
        sewAll(house, seams);
        int part = house.cut(0, cut);
        int first = isTurned ? part : 0;
        house.join(first, isTurned ? 0 : part);
        String kept = openOf(seams, 1, cut);
        String other = openOf(seams, cut + 1, 4);
        String due = isTurned ? other + "o" + kept : kept + "o" + other;
        CHECK.due("joined, turned " + isTurned + ", " + what, openColumns(house, first), due);
    }

    private static void sewAll(WeftHouse house, int seams) {
        for (int column = 1; column < 4; column++) {
            if ((seams >> column - 1 & 1) == 1) {
                house.sew(0, column);
            }
        }
    }

    /** For each column but the first one whether it is open ahead of it, or sewn. */
    private static String openColumns(WeftHouse house, int piece) {
        StringBuilder open = new StringBuilder();
        int columns = house.pieceIs(piece, 0);
        int slits = house.pieceIs(piece, 4);
        for (int column = 1; column < columns; column++) {
            boolean isOpen = house.sew(piece, column);
            slits -= isOpen ? 1 : 0;
            open.append(isOpen ? 'o' : 's');
        }
        CHECK.due("as many slits as are open", slits, 0);
        return open.toString();
    }

    private static String openOf(int seams, int from, int end) {
        StringBuilder open = new StringBuilder();
        for (int column = from; column < end; column++) {
            open.append((seams >> column - 1 & 1) == 1 ? 's' : 'o');
        }
        return open.toString();
    }

    private static void joining() {
        CHECK.sentence("The match of two unlike pieces of as many rows is how many rows have the same lot in the last "
                + "column of the first one and the first column of the second one.", () -> match());
        CHECK.sentence("They can be joined, if they have 24 columns together at most", () -> widestJoining());
        CHECK.sentence("the first one has those of the second one behind its own then", () -> columnsJoined());
        CHECK.sentence("the second one is no more", () -> noMore());
    }

    /** Each set of rows that can match, of up to ten rows. */
    private static void match() {
        for (int rows = 1; rows <= 10; rows++) {
            for (int like = 0; like < 1 << rows; like += rows < 8 ? 1 : 7) {
                String[] others = new String[rows];
                for (int row = 0; row < rows; row++) {
                    others[row] = (like >> row & 1) == 1 ? "RY" : "YB";
                }
                WeftHouse house = Scenes.dyedHouse();
                int first = Scenes.weaveWhole(house, Scenes.drawAlike(house, "BR", rows), false);
                int second = Scenes.piece(house, others);
                int due = Integer.bitCount(like);
                CHECK.due("BR and " + String.join(" ", others), house.match(first, second), due);
                CHECK.due("the other way", house.match(second, first), rows - due);
            }
        }
        WeftHouse lots = new WeftHouse();
        lots.dye(0, 4, 0, false);
        lots.dye(0, 4, 0, false);
        int first = Scenes.piece(lots, "RR", "RR");
        int second = Scenes.weaveWhole(lots, 0, false);
        CHECK.due("the same colour, other lots", lots.match(first, second), 0);
        WeftHouse unlike = Scenes.wovenHouse("RR", "RR", "RR");
        Scenes.piece(unlike, "RR", "RR");
        Scenes.piece(unlike, "RR", "RR", "RR", "RR");
        CHECK.due("a row less", unlike.match(0, 1), WeftHouse.NONE);
        CHECK.due("a row more", unlike.match(0, 2), WeftHouse.NONE);
        CHECK.due("two rows more", unlike.match(1, 2), WeftHouse.NONE);
        CHECK.refuses("a piece and itself", () -> Scenes.wovenHouse("RR"), Check.ARGUMENT, x -> x.match(0, 0));
        CHECK.refuses("joined with itself", () -> Scenes.wovenHouse("RR"), Check.ARGUMENT, x -> x.join(0, 0) ? 1 : 0);
    }

    /** Pieces 0 and 1, of so many columns each, 24 at most. */
    private static WeftHouse pairOf(int first, int second) {
        WeftHouse house = Scenes.dyedHouse();
        Scenes.draw(house, "RRRRRRRRRRRR");
        for (int piece = 0; piece < 4; piece++) {
            Scenes.weaveWhole(house, 0, false);
        }
        house.join(0, 2);
        house.join(1, 3);
        if (first < 24) {
            house.cut(0, first);
        }
        if (second < 24) {
            house.cut(1, second);
        }
        return house;
    }

    private static void widestJoining() {
        int[][] widths = {{12, 12}, {1, 23}, {23, 1}, {1, 1}, {11, 12}, {20, 4}};
        for (int[] pair : widths) {
            Check.Scene scene = () -> pairOf(pair[0], pair[1]);
            String what = pair[0] + " and " + pair[1];
            CHECK.takes(what, scene, 0, x -> x.join(0, 1) ? 1 : 0);
            WeftHouse house = scene.make();
            house.join(0, 1);
            CHECK.due("columns of " + what, house.pieceIs(0, 0), pair[0] + pair[1]);
        }
        int[][] tooWide = {{12, 13}, {13, 12}, {24, 1}, {1, 24}, {2, 23}, {24, 24}};
        for (int[] pair : tooWide) {
            CHECK.refuses(pair[0] + " and " + pair[1], () -> pairOf(pair[0], pair[1]), Check.STATE,
                    x -> x.join(0, 1) ? 1 : 0);
        }
        Check.Scene unlike = () -> {
            WeftHouse house = Scenes.wovenHouse("RR", "RR");
            Scenes.piece(house, "RR");
            Scenes.piece(house, "RR", "RR", "RR");
            return house;
        };
        CHECK.refuses("a row less", unlike, Check.STATE, x -> x.join(0, 1) ? 1 : 0);
        CHECK.refuses("a row more", unlike, Check.STATE, x -> x.join(0, 2) ? 1 : 0);
        CHECK.takes("as many rows, that match in none", () -> noMatch(), 0, x -> x.join(0, 1) ? 1 : 0);
    }

    private static WeftHouse noMatch() {
        WeftHouse house = Scenes.wovenHouse("RB");
        Scenes.piece(house, "YG");
        CHECK.due("no match", house.match(0, 1), 0);
        return house;
    }

    private static void columnsJoined() {
        WeftHouse house = Scenes.wovenHouse("RBYG", "GGGG");
        int second = Scenes.piece(house, "WZX", "XXX");
        house.light(second, 9999);
        house.join(second, 0);
        CHECK.due("its own ahead", Scenes.colours(house, second, 0), "WZRRBYG");
        CHECK.due("in each row", Scenes.colours(house, second, 1), "BRBGGGG");
        CHECK.due("the lots", Scenes.lots(house, second, 0), "EFAABCD");
        WeftHouse lit = new WeftHouse();
        lit.dye(0, 99, 1, false);
        int pale = Scenes.piece(lit, "RR");
        int fresh = Scenes.weaveWhole(lit, 0, false);
        lit.light(pale, 1000);
        lit.join(fresh, pale);
        CHECK.due("the shades", Scenes.shades(lit, fresh, 0), "100 100 90 90");
        CHECK.due("the sum of all", lit.pieceIs(fresh, 5), 380);
    }

    private static void noMore() {
        Check.Scene scene = () -> {
            WeftHouse house = Scenes.wovenHouse("RB");
            Scenes.weaveWhole(house, 0, false);
            Scenes.weaveWhole(house, 0, false);
            house.join(2, 1);
            return house;
        };
        Check.Call[] calls = {
            x -> x.weave(1, 0), x -> x.pieceIs(1, 0), x -> x.cell(1, 0, 0, 0), x -> x.sew(1, 1) ? 1 : 0,
            x -> x.light(1, 1), x -> x.wash(1), x -> x.cut(1, 1), x -> x.match(1, 0), x -> x.match(0, 1),
            x -> x.join(1, 0) ? 1 : 0, x -> x.join(0, 1) ? 1 : 0, x -> x.isTrue(1) ? 1 : 0, x -> x.likeness(1, 0)};
        for (int call = 0; call < calls.length; call++) {
            CHECK.refuses("call " + call, scene, Check.INDEX, calls[call]);
        }
        CHECK.takes("its number is not given again", scene, 3, x -> x.loom(0, 1, false));
        CHECK.takes("nor by a cut", scene, 3, x -> x.cut(0, 1));
    }

    private static void truth() {
        CHECK.sentence("A joining is true, if the cells at it were beside one another, the first one's ahead, as they "
                + "were woven, in all rows", () -> trueJoinings());
        CHECK.sentence("a piece is true, if all that was joined in it, and was not cut off it, is so",
                () -> truePieces());
    }

    /** Four columns of two looms each, cut apart, and any two of them joined. */
    private static void trueJoinings() {
        for (int first = 0; first < 8; first++) {
            for (int second = 0; second < 8; second++) {
                if (first != second) {
                    WeftHouse house = Scenes.drawnHouse("RRRR", "RRRR");
                    int[] parts = new int[8];
                    for (int loom = 0; loom < 2; loom++) {
                        parts[4 * loom] = Scenes.weaveWhole(house, 0, loom == 1);
                        parts[4 * loom + 1] = house.cut(parts[4 * loom], 1);
                        parts[4 * loom + 2] = house.cut(parts[4 * loom + 1], 1);
                        parts[4 * loom + 3] = house.cut(parts[4 * loom + 2], 1);
                    }
                    boolean due = second == first + 1 && second != 4;
                    CHECK.due("column " + first + " and column " + second, house.join(parts[first], parts[second]), due);
                    CHECK.due("the piece of " + first + " and " + second, house.isTrue(parts[first]), due);
                }
            }
        }
        WeftHouse edge = Scenes.wovenHouse("RRRRRRRRRRRR");
        Scenes.weaveWhole(edge, 0, false);
        CHECK.due("a loom's last column and the next one's first", edge.join(0, 1), false);
    }

    /** Every joint of a piece of many joints, cut or not, makes out whether the parts are true. */
    private static void truePieces() {
        for (int piece = 0; piece < 3; piece++) {
            int asked = piece;
            CHECK.takes("a piece of which nothing was joined, " + asked, () -> begunAndCut(), 1,
                    x -> x.isTrue(asked) ? 1 : 0);
        }
        for (int cut = 1; cut < 8; cut++) {
            WeftHouse house = falselyJoined();
            CHECK.due("joined falsely", house.isTrue(0), false);
            int part = house.cut(0, cut);
            CHECK.due("kept, cut at " + cut, house.isTrue(0), cut <= 4);
            CHECK.due("cut off at " + cut, house.isTrue(part), cut >= 4);
            CHECK.due("joined again at " + cut, house.join(0, part), cut != 4);
            CHECK.due("all of it, cut at " + cut, house.isTrue(0), false);
        }
        WeftHouse turned = falselyJoined();
        int behind = turned.cut(0, 4);
        int end = turned.cut(behind, 2);
        CHECK.due("a true joint in a true piece", turned.join(behind, end), true);
        CHECK.due("is true", turned.isTrue(behind), true);
        CHECK.due("behind it all", turned.join(behind, 0), false);
        CHECK.due("is false", turned.isTrue(behind), false);
        int first = turned.cut(behind, 4);
        CHECK.due("what was false is cut off", turned.isTrue(behind) && turned.isTrue(first), true);
    }

    private static WeftHouse begunAndCut() {
        WeftHouse house = Scenes.wovenHouse("RBYG");
        house.loom(0, 1, true);
        house.cut(0, 2);
        return house;
    }

    /** Piece 0 of eight columns, a false joint between the first four and the others. */
    private static WeftHouse falselyJoined() {
        WeftHouse house = Scenes.wovenHouse("RRRR");
        Scenes.weaveWhole(house, 0, false);
        house.join(0, 1);
        return house;
    }

    private static void likeness() {
        CHECK.sentence("The likeness of a piece, done or not, and a cartoon of as many rows and columns is how many "
                + "cells have the colours of the cartoon, as it is now, or of it mirrored, the greater number.",
                () -> likenessOfAll());
    }

    private static void likenessOfAll() {
        WeftHouse house = Scenes.drawnHouse("RBYG", "XXXX");
        int piece = house.loom(0, 1, false);
        CHECK.due("nothing woven", house.likeness(piece, 0), 8);
        house.weave(piece, 0);
        CHECK.due("not done", house.likeness(piece, 0), 8);
        house.weave(piece, 0);
        CHECK.due("done", house.likeness(piece, 0), 8);
        CHECK.due("a mirrored one", house.likeness(house.loom(0, 4, true), 0), 8);
        house.hatch(0, 0, 5);
        CHECK.due("as it is now", house.likeness(piece, 0), 6);
        house.hatch(0, 4, 5);
        CHECK.due("and as it is now", house.likeness(piece, 0), 4);
        CHECK.due("none at all", house.likeness(piece, Scenes.drawAlike(house, "ZZZZ", 2)), 0);
        CHECK.due("the greater one, as it is", house.likeness(piece, Scenes.draw(house, "RBYG", "WWBR")), 6);
        CHECK.due("the greater one, mirrored", house.likeness(piece, Scenes.draw(house, "GYBR", "WWWB")), 5);
        CHECK.due("not both together", house.likeness(piece, Scenes.draw(house, "RYBG", "WWWW")), 2);
        unlikeSizes();
    }

    private static void unlikeSizes() {
        for (int rows = 1; rows <= 3; rows++) {
            for (int columns = 2; columns <= 4; columns++) {
                WeftHouse house = Scenes.wovenHouse("RRR", "RRR");
                int cartoon = Scenes.drawAlike(house, "R".repeat(columns), rows);
                int due = rows == 2 && columns == 3 ? 6 : WeftHouse.NONE;
                CHECK.due(rows + " rows and " + columns + " columns", house.likeness(0, cartoon), due);
            }
        }
        WeftHouse house = Scenes.wovenHouse("RBYG");
        CHECK.due("no row", house.likeness(0, house.cartoon(4)), WeftHouse.NONE);
        int part = house.cut(0, 2);
        CHECK.due("columns cut off", house.likeness(0, 0), WeftHouse.NONE);
        CHECK.due("a part", house.likeness(part, Scenes.draw(house, "GY")), 2);
        house.join(0, part);
        CHECK.due("joined again", house.likeness(0, 0), 4);
        WeftHouse widest = house24();
        CHECK.due("wider than any cartoon", widest.likeness(0, 0), WeftHouse.NONE);
    }

    private static void exceptions() {
        CHECK.sentence("When a call throws, nothing has changed", () -> nothingHasChanged());
        CHECK.sentence("of several exceptions it is the first one of the throws clause", () -> firstOfClause());
        CHECK.sentence("IndexOutOfBoundsException: there is no such cartoon, colour, lot, piece (any more), weaver, "
                + "row or column.", () -> noSuch());
        CHECK.sentence("IllegalArgumentException: another argument is out of its range.", () -> outOfRange());
        CHECK.sentence("`NONE = -1`: There is none.", () -> none());
        CHECK.sentence("An object is used for at most 512 calls after it has been made", () -> lastCalls());
    }

    /** Many refused calls one behind the other, and the house is as one on which there were none. */
    private static void nothingHasChanged() {
        List<Check.Call> refused = refusedCalls();
        for (int probe = 0; probe < Probes.COUNT; probe++) {
            WeftHouse house = busyHouse();
            for (int call = 0; call < refused.size(); call++) {
                String answer = Check.answer(refused.get(call), house);
                CHECK.due("call " + call + " is refused: " + answer, answer.endsWith("Exception"), true);
            }
            CHECK.due("probe " + probe, Probes.ask(probe, house), Probes.ask(probe, busyHouse()));
        }
    }

    /** Piece 0 is done and sewn, piece 1 is begun by two, piece 2 is no more, piece 3 is of two rows. */
    private static WeftHouse busyHouse() {
        WeftHouse house = new WeftHouse();
        house.dye(0, 60, 3, true);
        house.dye(1, 30, 7, false);
        Scenes.weaveWhole(house, Scenes.draw(house, "RBX", "XBR", "RBX"), false);
        house.sew(0, 2);
        house.loom(0, 2, true);
        house.weave(1, 1);
        Scenes.weaveWhole(house, 0, true);
        house.join(0, 2);
        Scenes.piece(house, "RB", "RB");
        house.light(3, 77);
        Scenes.draw(house, "ZZ");
        Scenes.typeWord(house, "RXB");
        return house;
    }

    private static List<Check.Call> refusedCalls() {
        List<Check.Call> calls = new ArrayList<>();
        calls.add(x -> x.type('?'));
        calls.add(x -> x.cartoon(13));
        calls.add(x -> x.row(1));
        calls.add(x -> x.row(3));
        calls.add(x -> hatch(x, 0, 5, 6));
        calls.add(x -> hatch(x, 0, -1, 4));
        calls.add(x -> x.dye(6, 9, 9, true));
        calls.add(x -> x.dye(0, 1000, 9, true));
        calls.add(x -> x.dye(0, 9, 10, true));
        calls.add(x -> x.left(2));
        calls.add(x -> x.loom(0, 4, false));
        calls.add(x -> x.loom(3, 1, false));
        calls.add(x -> x.weave(1, 1));
        calls.add(x -> x.weave(0, 0));
        calls.add(x -> x.weave(1, 2));
        calls.add(x -> x.pieceIs(0, 6));
        calls.add(x -> x.cell(0, 0, 0, 3));
        calls.add(x -> x.cell(0, 3, 0, 0));
        calls.add(x -> x.sew(0, 0) ? 1 : 0);
        calls.add(x -> x.sew(1, 1) ? 1 : 0);
        calls.add(x -> x.light(0, 10000));
        calls.add(x -> x.light(1, 5000));
        calls.add(x -> x.wash(1));
        calls.add(x -> x.wash(2));
        calls.add(x -> x.cut(0, 6));
        calls.add(x -> x.cut(1, 1));
        calls.add(x -> x.match(0, 1));
        calls.add(x -> x.match(0, 2));
        calls.add(x -> x.join(0, 0) ? 1 : 0);
        calls.add(x -> x.join(0, 1) ? 1 : 0);
        calls.add(x -> x.join(0, 3) ? 1 : 0);
        calls.add(x -> x.isTrue(2) ? 1 : 0);
        calls.add(x -> x.likeness(0, 3));
        return calls;
    }

    private static long hatch(WeftHouse house, int cartoon, int first, int second) {
        house.hatch(cartoon, first, second);
        return 0;
    }

    private static void firstOfClause() {
        Check.Scene busy = () -> fullHouse();
        CHECK.refuses("type: argument, state", busy, Check.ARGUMENT, x -> x.type('Q'));
        CHECK.refuses("cartoon: argument, state", busy, Check.ARGUMENT, x -> x.cartoon(1));
        CHECK.refuses("row: index, state", busy, Check.INDEX, x -> x.row(5));
        CHECK.refuses("dye: index, argument, state", busy, Check.INDEX, x -> x.dye(6, 0, 10, false));
        CHECK.refuses("dye: index, state", busy, Check.INDEX, x -> x.dye(6, 1, 1, false));
        CHECK.refuses("dye: argument of threads, state", busy, Check.ARGUMENT, x -> x.dye(5, 0, 1, false));
        CHECK.refuses("dye: argument of fade, state", busy, Check.ARGUMENT, x -> x.dye(5, 1, 10, false));
        CHECK.refuses("loom: index, argument, state", busy, Check.INDEX, x -> x.loom(5, 5, false));
        CHECK.refuses("loom: index, state", busy, Check.INDEX, x -> x.loom(5, 1, false));
        CHECK.refuses("loom: argument, full", busy, Check.ARGUMENT, x -> x.loom(0, 0, false));
        CHECK.refuses("loom: argument, no row", busy, Check.ARGUMENT, x -> x.loom(1, 3, false));
        CHECK.refuses("weave: index, state", busy, Check.INDEX, x -> x.weave(0, 1));
        CHECK.refuses("pieceIs: index, argument", busy, Check.INDEX, x -> x.pieceIs(2, 6));
        CHECK.refuses("cell: index of the piece, argument", busy, Check.INDEX, x -> x.cell(2, 0, 0, 3));
        CHECK.refuses("cell: index of the row, argument", busy, Check.INDEX, x -> x.cell(0, 1, 0, 3));
        CHECK.refuses("cell: index of the column, argument", busy, Check.INDEX, x -> x.cell(0, 0, 4, 3));
        CHECK.refuses("sew: index, state", busy, Check.INDEX, x -> x.sew(1, 2) ? 1 : 0);
        CHECK.refuses("light: index, argument", busy, Check.INDEX, x -> x.light(2, 0));
        CHECK.refuses("light: argument, state", busy, Check.ARGUMENT, x -> x.light(1, 10000));
        CHECK.refuses("cut: index, state", busy, Check.INDEX, x -> x.cut(1, 0));
        CHECK.refuses("cut: index, full", busy, Check.INDEX, x -> x.cut(0, 4));
        CHECK.refuses("match: index, argument", busy, Check.INDEX, x -> x.match(2, 2));
        CHECK.refuses("match: index, state", busy, Check.INDEX, x -> x.match(1, 2));
        CHECK.refuses("match: argument, state", busy, Check.ARGUMENT, x -> x.match(1, 1));
        CHECK.refuses("join: index, argument", busy, Check.INDEX, x -> x.join(2, 2) ? 1 : 0);
        CHECK.refuses("join: index, state", busy, Check.INDEX, x -> x.join(1, 2) ? 1 : 0);
        CHECK.refuses("join: argument, state", busy, Check.ARGUMENT, x -> x.join(1, 1) ? 1 : 0);
    }

    /** All is full; piece 0 is done, piece 1 and from 3 on are not, piece 2 is no more. */
    private static WeftHouse fullHouse() {
        WeftHouse house = new WeftHouse();
        for (int lot = 0; lot < 20; lot++) {
            house.dye(lot % 6, 9, lot % 10, lot % 3 == 0);
        }
        Scenes.draw(house, "RB");
        for (int cartoon = 1; cartoon < 5; cartoon++) {
            house.cartoon(2);
        }
        Scenes.weaveWhole(house, 0, false);
        house.loom(0, 1, false);
        Scenes.weaveWhole(house, 0, false);
        house.join(0, 2);
        for (int piece = 3; piece < 20; piece++) {
            house.loom(0, 2, true);
        }
        Scenes.typeWord(house, "RBYGWZXRBYGW");
        return house;
    }

    private static void noSuch() {
        Check.Scene scene = () -> Scenes.wovenHouse("RBB", "BBR");
        for (int wrong : Scenes.outside(0, 0)) {
            CHECK.refuses("cartoon " + wrong, scene, Check.INDEX, x -> x.loom(wrong, 1, false));
            CHECK.refuses("lot " + wrong, () -> oneLot(), Check.INDEX, x -> x.left(wrong));
            CHECK.refuses("piece " + wrong, scene, Check.INDEX, x -> x.wash(wrong));
            CHECK.refuses("weaver " + wrong, scene, Check.INDEX, x -> x.weave(0, wrong));
        }
        for (int wrong : Scenes.outside(0, 5)) {
            CHECK.refuses("colour " + wrong, scene, Check.INDEX, x -> x.dye(wrong, 1, 1, false));
        }
        for (int wrong : Scenes.outside(0, 1)) {
            CHECK.refuses("row " + wrong, scene, Check.INDEX, x -> x.cell(0, wrong, 0, 0));
        }
        for (int wrong : Scenes.outside(0, 2)) {
            CHECK.refuses("column " + wrong, scene, Check.INDEX, x -> x.cell(0, 0, wrong, 0));
        }
        CHECK.refuses("a piece no more", () -> gone(), Check.INDEX, x -> x.pieceIs(1, 0));
        CHECK.refuses("a piece never begun", () -> gone(), Check.INDEX, x -> x.pieceIs(2, 0));
    }

    private static WeftHouse oneLot() {
        WeftHouse house = new WeftHouse();
        house.dye(0, 9, 9, true);
        return house;
    }

    private static WeftHouse gone() {
        WeftHouse house = Scenes.wovenHouse("RB");
        Scenes.weaveWhole(house, 0, false);
        house.join(0, 1);
        return house;
    }

    private static void outOfRange() {
        Check.Scene scene = () -> Scenes.wovenHouse("RBYGW");
        for (int wrong : Scenes.outside(1, 4)) {
            CHECK.refuses("weavers " + wrong, scene, Check.ARGUMENT, x -> x.loom(0, wrong, false));
        }
        for (int wrong : Scenes.outside(1, 999)) {
            CHECK.refuses("threads " + wrong, scene, Check.ARGUMENT, x -> x.dye(0, wrong, 0, false));
        }
        for (int wrong : Scenes.outside(0, 9)) {
            CHECK.refuses("fade " + wrong, scene, Check.ARGUMENT, x -> x.dye(0, 1, wrong, false));
        }
        for (int wrong : Scenes.outside(2, 12)) {
            CHECK.refuses("width " + wrong, scene, Check.ARGUMENT, x -> x.cartoon(wrong));
        }
        for (int wrong : Scenes.outside(0, 5)) {
            CHECK.refuses("what of a piece " + wrong, scene, Check.ARGUMENT, x -> x.pieceIs(0, wrong));
        }
        for (int wrong : Scenes.outside(0, 2)) {
            CHECK.refuses("what of a cell " + wrong, scene, Check.ARGUMENT, x -> x.cell(0, 0, 0, wrong));
        }
        for (int wrong : Scenes.outside(1, 9999)) {
            CHECK.refuses("hours " + wrong, scene, Check.ARGUMENT, x -> x.light(0, wrong));
        }
    }

    private static void none() {
        CHECK.due("NONE", WeftHouse.NONE, -1);
        WeftHouse house = Scenes.drawnHouse("RB", "RB");
        house.loom(0, 1, false);
        CHECK.due("no lot", house.cell(0, 0, 0, 1), WeftHouse.NONE);
        CHECK.due("no likeness", house.likeness(0, house.cartoon(2)), WeftHouse.NONE);
        house.weave(0, 0);
        house.weave(0, 0);
        CHECK.due("no match", house.match(0, Scenes.piece(house, "RB")), WeftHouse.NONE);
    }

    private static void lastCalls() {
        WeftHouse house = new WeftHouse();
        for (int calls = 0; calls < 511; calls++) {
            int due = calls % 13;
            if (due < 12) {
                CHECK.due("call " + calls, house.type('R'), due + 1);
            } else {
                CHECK.due("call " + calls, house.empty(), 12);
            }
        }
        CHECK.due("the 512th call", house.empty(), 511 % 13);
    }
}
