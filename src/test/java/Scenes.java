import java.util.Arrays;

/** What many tests do with a house first. */
final class Scenes {
    private Scenes() {
    }

    static void typeWord(WeftHouse house, String letters) {
        for (int at = 0; at < letters.length(); at++) {
            house.type(letters.charAt(at));
        }
    }

    /** Draws a cartoon, its rows from the lowest one on; returns its number. */
    static int draw(WeftHouse house, String... rows) {
        int cartoon = house.cartoon(rows[0].length());
        for (String row : rows) {
            typeWord(house, row);
            house.row(cartoon);
        }
        return cartoon;
    }

    /** Draws a cartoon whose rows are all the same; returns its number. */
    static int drawAlike(WeftHouse house, String row, int rows) {
        String[] alike = new String[rows];
        Arrays.fill(alike, row);
        return draw(house, alike);
    }

    /** A house with a dyed lot of each colour and one cartoon, 0. */
    static WeftHouse drawnHouse(String... rows) {
        WeftHouse house = dyedHouse();
        draw(house, rows);
        return house;
    }

    /** A house with a dyed lot of each colour, one cartoon, 0, and one piece of it, 0, that is done. */
    static WeftHouse wovenHouse(String... rows) {
        WeftHouse house = drawnHouse(rows);
        weaveWhole(house, 0, false);
        return house;
    }

    /** Begins a piece with one weaver and weaves it; returns its number. */
    static int weaveWhole(WeftHouse house, int cartoon, boolean isMirrored) {
        int piece = house.loom(cartoon, 1, isMirrored);
        int rows = house.pieceIs(piece, 1);
        for (int row = 0; row < rows; row++) {
            house.weave(piece, 0);
        }
        return piece;
    }

    /** Draws and weaves a piece; returns its number. */
    static int piece(WeftHouse house, String... rows) {
        return weaveWhole(house, draw(house, rows), false);
    }

    /** Dyes a lot of each colour, numbered as the colours are, that neither fades nor bleeds. */
    static WeftHouse dyedHouse() {
        WeftHouse house = new WeftHouse();
        for (int colour = 0; colour < 6; colour++) {
            house.dye(colour, 999, 0, false);
        }
        return house;
    }

    /** The colours of a row of a piece, from its first column on, as letters. */
    static String colours(WeftHouse house, int piece, int row) {
        return read(house, piece, row, 0, "RBYGWZ");
    }

    /** The lots of a row of a piece as letters, A the first one, - for none. */
    static String lots(WeftHouse house, int piece, int row) {
        return read(house, piece, row, 1, "ABCDEFGHIJKLMNOPQRST");
    }

    private static String read(WeftHouse house, int piece, int row, int what, String signs) {
        StringBuilder read = new StringBuilder();
        int columns = house.pieceIs(piece, 0);
        for (int column = 0; column < columns; column++) {
            int value = house.cell(piece, row, column, what);
            read.append(value == WeftHouse.NONE ? '-' : signs.charAt(value));
        }
        return read.toString();
    }

    /** Numbers that an argument cannot have: just below its least, just above its greatest, and far off. */
    static int[] outside(int least, int greatest) {
        return new int[] {least - 1, greatest + 1, Integer.MIN_VALUE, Integer.MAX_VALUE};
    }

    /** The shades of a row of a piece, with a blank between them. */
    static String shades(WeftHouse house, int piece, int row) {
        StringBuilder read = new StringBuilder();
        int columns = house.pieceIs(piece, 0);
        for (int column = 0; column < columns; column++) {
            if (column > 0) {
                read.append(' ');
            }
            read.append(house.cell(piece, row, column, 2));
        }
        return read.toString();
    }
}
