import java.util.ArrayList;
import java.util.List;

/**
 * The document once more, written for plainness alone: every cell is an object that knows where it
 * was woven. The tests compare long runs of calls on it and on the program.
 */
final class Model {
    private static final String LETTERS = "RBYGWZX";

    private static final class Drawing {
        int width;
        int first = 0;
        int second = 1;
        final List<String> rows = new ArrayList<>();

        int colour(int row, int column) {
            char letter = rows.get(row).charAt(column);
            if (letter == 'X') {
                return (row + column) % 2 == 0 ? first : second;
            }
            return LETTERS.indexOf(letter);
        }
    }

    private static final class Dye {
        int number;
        int colour;
        int first;
        int left;
        int fade;
        boolean bleeds;
    }

    private static final class Thread {
        int loom;
        int loomColumn;
        int loomRow;
        int colour;
        Dye lot;
        int shade;
    }

    private static final class Cloth {
        /** By columns, each from the lowest row on. */
        final List<List<Thread>> columns = new ArrayList<>();
        /** Whether it is sewn ahead of a column. */
        final List<Boolean> seams = new ArrayList<>();
        int[] progress = new int[0];
        int loomWidth;
        int rows;

        boolean done() {
            for (List<Thread> column : columns) {
                for (Thread thread : column) {
                    if (thread.lot == null) {
                        return false;
                    }
                }
            }
            return true;
        }

        Thread at(int row, int column) {
            return columns.get(column).get(row);
        }
    }

    private final StringBuilder word = new StringBuilder();
    private final List<Drawing> drawings = new ArrayList<>();
    private final List<Dye> dyes = new ArrayList<>();
    private final List<Cloth> cloths = new ArrayList<>();

    private static void state(boolean holds) {
        if (!holds) {
            throw new IllegalStateException();
        }
    }

    private static void range(boolean holds) {
        if (!holds) {
            throw new IllegalArgumentException();
        }
    }

    private static void index(boolean holds) {
        if (!holds) {
            throw new IndexOutOfBoundsException();
        }
    }

    private Drawing drawing(int number) {
        index(number >= 0 && number < drawings.size());
        return drawings.get(number);
    }

    private Cloth cloth(int number) {
        index(number >= 0 && number < cloths.size() && cloths.get(number) != null);
        return cloths.get(number);
    }

    int type(char letter) {
        range(LETTERS.indexOf(letter) >= 0);
        state(word.length() < 12);
        return word.append(letter).length();
    }

    int empty() {
        int had = word.length();
        word.setLength(0);
        return had;
    }

    int cartoon(int width) {
        range(width >= 2 && width <= 12);
        state(drawings.size() < 5);
        Drawing drawing = new Drawing();
        drawing.width = width;
        drawings.add(drawing);
        return drawings.size() - 1;
    }

    int row(int cartoon) {
        Drawing drawing = drawing(cartoon);
        state(word.length() == drawing.width && drawing.rows.size() < 10);
        drawing.rows.add(word.toString());
        word.setLength(0);
        return drawing.rows.size();
    }

    void hatch(int cartoon, int first, int second) {
        Drawing drawing = drawing(cartoon);
        index(first >= 0 && first <= 5 && second >= 0 && second <= 5);
        drawing.first = first;
        drawing.second = second;
    }

    int dye(int colour, int threads, int fade, boolean bleeds) {
        index(colour >= 0 && colour <= 5);
        range(threads >= 1 && threads <= 999 && fade >= 0 && fade <= 9);
        state(dyes.size() < 20);
        Dye dye = new Dye();
        dye.number = dyes.size();
        dye.colour = colour;
        dye.first = threads;
        dye.left = threads;
        dye.fade = fade;
        dye.bleeds = bleeds;
        dyes.add(dye);
        return dye.number;
    }

    int left(int lot) {
        index(lot >= 0 && lot < dyes.size());
        return dyes.get(lot).left;
    }

    private List<Thread> allWoven() {
        List<Thread> woven = new ArrayList<>();
        for (Cloth cloth : cloths) {
            if (cloth != null) {
                for (List<Thread> column : cloth.columns) {
                    for (Thread thread : column) {
                        if (thread.lot != null) {
                            woven.add(thread);
                        }
                    }
                }
            }
        }
        return woven;
    }

    int gold() {
        int gold = 0;
        for (Thread thread : allWoven()) {
            gold += thread.lot.colour == 5 ? 1 : 0;
        }
        return gold;
    }

    int loom(int cartoon, int weavers, boolean isMirrored) {
        Drawing drawing = drawing(cartoon);
        range(weavers >= 1 && weavers <= 4 && weavers <= drawing.width);
        state(!drawing.rows.isEmpty() && cloths.size() < 20);
        Cloth cloth = new Cloth();
        cloth.progress = new int[weavers];
        cloth.loomWidth = drawing.width;
        cloth.rows = drawing.rows.size();
        for (int column = 0; column < drawing.width; column++) {
            List<Thread> threads = new ArrayList<>();
            for (int row = 0; row < cloth.rows; row++) {
                Thread thread = new Thread();
                thread.loom = cloths.size();
                thread.loomColumn = column;
                thread.loomRow = row;
                thread.colour = drawing.colour(row, isMirrored ? drawing.width - 1 - column : column);
                threads.add(thread);
            }
            cloth.columns.add(threads);
            cloth.seams.add(false);
        }
        cloths.add(cloth);
        return cloths.size() - 1;
    }

    int weave(int piece, int weaver) {
        Cloth cloth = cloth(piece);
        index(weaver >= 0 && weaver < cloth.progress.length);
        int row = cloth.progress[weaver];
        state(row < cloth.rows);
        for (int beside = 0; beside < cloth.progress.length; beside++) {
            state(Math.abs(beside - weaver) != 1 || cloth.progress[beside] >= row);
        }
        List<Dye> given = new ArrayList<>();
        boolean lacks = false;
        int weavers = cloth.progress.length;
        int from = (int) Math.floor((double) weaver * cloth.loomWidth / weavers);
        int to = (int) Math.floor((double) (weaver + 1) * cloth.loomWidth / weavers) - 1;
        for (int column = from; column <= to && !lacks; column++) {
            Dye dye = firstWithThread(cloth.at(row, column).colour);
            lacks = dye == null;
            if (!lacks) {
                dye.left--;
                given.add(dye);
            }
        }
        if (lacks) {
            for (Dye dye : given) {
                dye.left++;
            }
            throw new IllegalStateException();
        }
        for (int column = from; column <= to; column++) {
            cloth.at(row, column).lot = given.get(column - from);
            cloth.at(row, column).shade = 100;
        }
        return cloth.progress[weaver]++;
    }

    private Dye firstWithThread(int colour) {
        for (Dye dye : dyes) {
            if (dye.colour == colour && dye.left > 0) {
                return dye;
            }
        }
        return null;
    }

    int pieceIs(int piece, int what) {
        Cloth cloth = cloth(piece);
        range(what >= 0 && what <= 5);
        int woven = 0;
        for (List<Thread> column : cloth.columns) {
            for (Thread thread : column) {
                woven += thread.lot == null ? 0 : 1;
            }
        }
        int slits = 0;
        for (int column = 1; column < cloth.columns.size(); column++) {
            slits += slit(cloth, column) ? 1 : 0;
        }
        int done = cloth.done() ? 1 : 0;
        return new int[] {cloth.columns.size(), cloth.rows, woven, done, done * slits, shades(cloth)}[what];
    }

    private static int shades(Cloth cloth) {
        int sum = 0;
        for (List<Thread> column : cloth.columns) {
            for (Thread thread : column) {
                sum += thread.shade;
            }
        }
        return sum;
    }

    private static boolean slit(Cloth cloth, int column) {
        for (int row = 2; row < cloth.rows; row++) {
            int unlike = 0;
            for (int each = row - 2; each <= row; each++) {
                unlike += cloth.at(each, column).colour == cloth.at(each, column - 1).colour ? 0 : 1;
            }
            if (unlike == 3) {
                return !cloth.seams.get(column);
            }
        }
        return false;
    }

    int cell(int piece, int row, int column, int what) {
        Cloth cloth = cloth(piece);
        index(row >= 0 && row < cloth.rows && column >= 0 && column < cloth.columns.size());
        range(what >= 0 && what <= 2);
        Thread thread = cloth.at(row, column);
        return new int[] {thread.colour, thread.lot == null ? -1 : thread.lot.number, thread.shade}[what];
    }

    boolean sew(int piece, int column) {
        Cloth cloth = cloth(piece);
        index(column >= 1 && column < cloth.columns.size());
        state(cloth.done());
        boolean was = slit(cloth, column);
        cloth.seams.set(column, true);
        return was;
    }

    int light(int piece, int hours) {
        Cloth cloth = cloth(piece);
        range(hours >= 1 && hours <= 9999);
        state(cloth.done());
        for (List<Thread> column : cloth.columns) {
            for (Thread thread : column) {
                thread.shade = Math.max(0, thread.shade - hours * thread.lot.fade / 100);
            }
        }
        return shades(cloth);
    }

    int wash(int piece) {
        Cloth cloth = cloth(piece);
        state(cloth.done());
        int width = cloth.columns.size();
        for (int column = 0; column < width; column++) {
            for (int row = 0; row < cloth.rows; row++) {
                int stains = 0;
                for (int other = 0; other < width; other++) {
                    for (int up = 0; up < cloth.rows; up++) {
                        boolean near = Math.abs(other - column) + Math.abs(up - row) == 1;
                        Dye lot = cloth.at(up, other).lot;
                        stains += near && lot.bleeds && lot != cloth.at(row, column).lot ? 1 : 0;
                    }
                }
                Thread thread = cloth.at(row, column);
                thread.shade = Math.max(0, thread.shade - 5 * stains);
            }
        }
        return shades(cloth);
    }

    int cut(int piece, int column) {
        Cloth cloth = cloth(piece);
        index(column >= 1 && column < cloth.columns.size());
        state(cloth.done() && cloths.size() < 20);
        Cloth part = new Cloth();
        part.rows = cloth.rows;
        while (cloth.columns.size() > column) {
            part.columns.add(cloth.columns.remove(column));
            part.seams.add(cloth.seams.remove(column));
        }
        part.seams.set(0, false);
        cloths.add(part);
        return cloths.size() - 1;
    }

    int match(int piece, int other) {
        Cloth first = cloth(piece);
        Cloth second = cloth(other);
        range(piece != other);
        state(first.done() && second.done());
        if (first.rows != second.rows) {
            return -1;
        }
        int rows = 0;
        for (int row = 0; row < first.rows; row++) {
            rows += first.at(row, first.columns.size() - 1).lot == second.at(row, 0).lot ? 1 : 0;
        }
        return rows;
    }

    boolean join(int piece, int other) {
        Cloth first = cloth(piece);
        Cloth second = cloth(other);
        range(piece != other);
        state(first.done() && second.done() && first.rows == second.rows);
        state(first.columns.size() + second.columns.size() <= 24);
        int joint = first.columns.size();
        first.columns.addAll(second.columns);
        first.seams.addAll(second.seams);
        first.seams.set(joint, false);
        cloths.set(other, null);
        return trueAhead(first, joint);
    }

    private static boolean trueAhead(Cloth cloth, int column) {
        for (int row = 0; row < cloth.rows; row++) {
            Thread left = cloth.at(row, column - 1);
            Thread right = cloth.at(row, column);
            if (left.loom != right.loom || left.loomRow != right.loomRow || left.loomColumn + 1 != right.loomColumn) {
                return false;
            }
        }
        return true;
    }

    boolean isTrue(int piece) {
        Cloth cloth = cloth(piece);
        for (int column = 1; column < cloth.columns.size(); column++) {
            if (!trueAhead(cloth, column)) {
                return false;
            }
        }
        return true;
    }

    int likeness(int piece, int cartoon) {
        Cloth cloth = cloth(piece);
        Drawing drawing = drawing(cartoon);
        if (cloth.rows != drawing.rows.size() || cloth.columns.size() != drawing.width) {
            return -1;
        }
        int plain = 0;
        int mirrored = 0;
        for (int row = 0; row < cloth.rows; row++) {
            for (int column = 0; column < drawing.width; column++) {
                int colour = cloth.at(row, column).colour;
                plain += colour == drawing.colour(row, column) ? 1 : 0;
                mirrored += colour == drawing.colour(row, drawing.width - 1 - column) ? 1 : 0;
            }
        }
        return Math.max(plain, mirrored);
    }

    boolean balances() {
        int[] woven = new int[20];
        for (Thread thread : allWoven()) {
            woven[thread.lot.number]++;
        }
        for (Dye dye : dyes) {
            if (woven[dye.number] != dye.first - dye.left) {
                return false;
            }
        }
        return true;
    }
}
