/**
 * Questions that tell the state of a house apart, each probe on a house of its own: many of them
 * change it, and a house is used for 512 calls at most.
 */
final class Probes {
    private static final int PIECES = 20;
    private static final int CARTOONS = 5;
    private static final int FIRST_OF_PIECES = 3 + CARTOONS;
    private static final int PER_PIECE = 4;
    static final int COUNT = FIRST_OF_PIECES + PER_PIECE * PIECES;

    private Probes() {
    }

    static String ask(int probe, WeftHouse house) {
        StringBuilder answers = new StringBuilder();
        if (probe == 0) {
            askCounts(house, answers);
        } else if (probe == 1) {
            askWord(house, answers);
        } else if (probe == 2) {
            askNextNumbers(house, answers);
        } else if (probe < FIRST_OF_PIECES) {
            askCartoon(house, probe - 3, answers);
        } else {
            int piece = (probe - FIRST_OF_PIECES) / PER_PIECE;
            int part = (probe - FIRST_OF_PIECES) % PER_PIECE;
            if (part < 3) {
                askCells(house, piece, part, answers);
            } else {
                askPiece(house, piece, answers);
            }
        }
        return answers.toString();
    }

    private static void note(StringBuilder answers, WeftHouse house, Check.Call call) {
        answers.append(Check.answer(call, house)).append(' ');
    }

    private static void askCounts(WeftHouse house, StringBuilder answers) {
        note(answers, house, x -> x.gold());
        note(answers, house, x -> x.balances() ? 1 : 0);
        for (int lot = 0; lot < 20; lot++) {
            int asked = lot;
            note(answers, house, x -> x.left(asked));
        }
    }

    /** Which letters the word has shows only in a row; how many, by asking a cartoon of each width. */
    private static void askWord(WeftHouse house, StringBuilder answers) {
        for (int width = 2; width <= 12; width++) {
            int asked = width;
            note(answers, house, x -> x.cartoon(asked));
        }
        for (int cartoon = 0; cartoon < CARTOONS; cartoon++) {
            int asked = cartoon;
            note(answers, house, x -> x.row(asked));
            askTopmostRow(house, begun(house, cartoon, answers), answers);
        }
        note(answers, house, x -> x.empty());
    }

    private static void askTopmostRow(WeftHouse house, int piece, StringBuilder answers) {
        int columns = piece == WeftHouse.NONE ? 0 : house.pieceIs(piece, 0);
        for (int column = 0; column < columns; column++) {
            int at = column;
            note(answers, house, x -> x.cell(piece, x.pieceIs(piece, 1) - 1, at, 0));
        }
    }

    /** The number of a piece newly begun from a cartoon, or NONE if there can be none. */
    private static int begun(WeftHouse house, int cartoon, StringBuilder answers) {
        String number = Check.answer(x -> x.loom(cartoon, 1, false), house);
        answers.append(number).append(' ');
        return number.length() <= 2 ? Integer.parseInt(number) : WeftHouse.NONE;
    }

    private static void askNextNumbers(WeftHouse house, StringBuilder answers) {
        note(answers, house, x -> x.empty());
        note(answers, house, x -> x.cartoon(2));
        note(answers, house, x -> x.dye(0, 1, 0, false));
        note(answers, house, x -> x.type('R'));
        note(answers, house, x -> x.type('R'));
        for (int cartoon = 0; cartoon < CARTOONS; cartoon++) {
            int asked = cartoon;
            note(answers, house, x -> x.row(asked));
            note(answers, house, x -> x.loom(asked, 1, false));
        }
    }

    /** Its colours show in a new piece, or, when there can be none, in the likeness of the others. */
    private static void askCartoon(WeftHouse house, int cartoon, StringBuilder answers) {
        askCells(house, begun(house, cartoon, answers), 0, answers);
        for (int piece = 0; piece < PIECES; piece++) {
            int asked = piece;
            note(answers, house, x -> x.likeness(asked, cartoon));
            note(answers, house, x -> x.pieceIs(asked, 0));
            note(answers, house, x -> x.pieceIs(asked, 1));
        }
    }

    private static boolean isThere(WeftHouse house, int piece, StringBuilder answers) {
        String columns = Check.answer(x -> x.pieceIs(piece, 0), house);
        answers.append(columns).append(' ');
        return columns.length() <= 2;
    }

    private static void askCells(WeftHouse house, int piece, int what, StringBuilder answers) {
        if (!isThere(house, piece, answers)) {
            return;
        }
        int rows = house.pieceIs(piece, 1);
        int columns = house.pieceIs(piece, 0);
        for (int row = 0; row < rows; row++) {
            for (int column = 0; column < columns; column++) {
                int up = row;
                int at = column;
                note(answers, house, x -> x.cell(piece, up, at, what));
            }
        }
    }

    /** What is sewn in a piece shows when it is done, and how its lots fade and bleed likewise. */
    private static void askPiece(WeftHouse house, int piece, StringBuilder answers) {
        if (!isThere(house, piece, answers)) {
            return;
        }
        for (int what = 0; what < 6; what++) {
            int asked = what;
            note(answers, house, x -> x.pieceIs(piece, asked));
        }
        note(answers, house, x -> x.isTrue(piece) ? 1 : 0);
        for (int other = 0; other < PIECES; other++) {
            int asked = other;
            note(answers, house, x -> x.match(piece, asked));
        }
        for (int round = 0; round < 10; round++) {
            for (int weaver = 0; weaver < 4; weaver++) {
                int asked = weaver;
                note(answers, house, x -> x.weave(piece, asked));
            }
        }
        note(answers, house, x -> x.pieceIs(piece, 4));
        for (int column = 1; column < 24; column++) {
            int at = column;
            note(answers, house, x -> x.sew(piece, at) ? 1 : 0);
        }
        note(answers, house, x -> x.light(piece, 100));
        note(answers, house, x -> x.wash(piece));
    }
}
