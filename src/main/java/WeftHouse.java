/**
 * Tapestries from cartoon to wall: a word of letters that becomes the rows of cartoons, lots of
 * dyed thread, pieces that weavers weave side by side, and what befalls the pieces later: sewing,
 * light, washing, cutting and joining.
 */
public final class WeftHouse {
    /** There is none. */
    public static final int NONE = -1;

    private static final int RED = 0;
    private static final int BLUE = 1;
    private static final int YELLOW = 2;
    private static final int GREEN = 3;
    private static final int WHITE = 4;
    private static final int GOLD = 5;
    private static final int COLOURS = 6;
    private static final int HATCHED = 6;

    private static final int LEAST_WIDTH = 2;
    private static final int MOST_WIDTH = 12;
    private static final int MOST_ROWS = 10;
    private static final int MOST_CARTOONS = 5;
    private static final int MOST_LOTS = 20;
    private static final int MOST_THREADS = 999;
    private static final int MOST_FADE = 9;
    private static final int MOST_WEAVERS = 4;
    private static final int MOST_PIECES = 20;
    private static final int MOST_COLUMNS = 24;
    private static final int MOST_HOURS = 9999;

    private static final int FULL_SHADE = 100;
    private static final int FADE_PARTS = 100;
    private static final int STAIN = 5;
    private static final int SLIT_ROWS = 3;

    private final int[] word = new int[MOST_WIDTH];
    private int wordLength = 0;
    private final Cartoon[] cartoons = new Cartoon[MOST_CARTOONS];
    private int cartoonCount = 0;
    private final Lots lots = new Lots();
    private final Piece[] pieces = new Piece[MOST_PIECES];
    private int pieceCount = 0;
    private final int[] threadsByLot = new int[MOST_LOTS];

    /** Begins with an empty word. */
    public WeftHouse() {
    }

    // ---- cartoons, lots

    /** Types a letter behind the word; returns how many it has then. */
    public int type(char letter) throws IllegalArgumentException, IllegalStateException {
        int sign = signOf(letter);
        if (sign == NONE) {
            throw new IllegalArgumentException("no such letter");
        }
        if (wordLength >= MOST_WIDTH) {
            throw new IllegalStateException("the word is full");
        }
        setAt(word, wordLength, sign);
        wordLength++;
        return wordLength;
    }

    /** Empties the word; returns how many letters it had. */
    public int empty() {
        int had = wordLength;
        wordLength = 0;
        return had;
    }

    /** Begins a cartoon; returns its number. */
    public int cartoon(int width) throws IllegalArgumentException, IllegalStateException {
        if (width < LEAST_WIDTH || width > MOST_WIDTH) {
            throw new IllegalArgumentException("the width is out of its range");
        }
        if (cartoonCount < 0 || cartoonCount >= cartoons.length) {
            throw new IllegalStateException("there are as many cartoons as there can be");
        }
        int number = cartoonCount;
        cartoons[number] = new Cartoon(width);
        cartoonCount++;
        return number;
    }

    /** Adds the word as a row above the others; returns how many rows the cartoon has then. */
    public int row(int cartoon) throws IndexOutOfBoundsException, IllegalStateException {
        Cartoon drawn = cartoonNumbered(cartoon);
        if (wordLength != drawn.width()) {
            throw new IllegalStateException("the word is not as long as the cartoon is wide");
        }
        if (drawn.height() >= MOST_ROWS) {
            throw new IllegalStateException("the cartoon has as many rows as it can have");
        }
        drawn.addRow(word);
        wordLength = 0;
        return drawn.height();
    }

    /** Tells the hatching colours of a cartoon, for pieces from now on. */
    public void hatch(int cartoon, int first, int second) throws IndexOutOfBoundsException {
        Cartoon drawn = cartoonNumbered(cartoon);
        requireColour(first);
        requireColour(second);
        drawn.hatchBetween(first, second);
    }

    /** Dyes a lot; returns its number. */
    public int dye(int colour, int threads, int fade, boolean bleeds)
            throws IndexOutOfBoundsException, IllegalArgumentException, IllegalStateException {
        requireColour(colour);
        if (threads < 1 || threads > MOST_THREADS) {
            throw new IllegalArgumentException("the threads are out of their range");
        }
        if (fade < 0 || fade > MOST_FADE) {
            throw new IllegalArgumentException("the fade is out of its range");
        }
        if (lots.count() >= MOST_LOTS) {
            throw new IllegalStateException("there are as many lots as there can be");
        }
        return lots.add(colour, threads, fade, bleeds);
    }

    /** Returns how many threads a lot has left. */
    public int left(int lot) throws IndexOutOfBoundsException {
        if (lot < 0 || lot >= lots.count()) {
            throw new IndexOutOfBoundsException("no such lot");
        }
        return lots.threadsIn(lot);
    }

    /** Returns how many threads of gold were woven, in all pieces that there are. */
    public int gold() {
        int sum = 0;
        for (int number = 0; number < pieces.length; number++) {
            Piece piece = pieces[number];
            if (piece != null) {
                sum += piece.countWovenOf(GOLD);
            }
        }
        return sum;
    }

    // ---- weaving

    /** Begins a piece; returns its number. */
    public int loom(int cartoon, int weavers, boolean isMirrored)
            throws IndexOutOfBoundsException, IllegalArgumentException, IllegalStateException {
        Cartoon drawn = cartoonNumbered(cartoon);
        if (weavers < 1 || weavers > MOST_WEAVERS || weavers > drawn.width()) {
            throw new IllegalArgumentException("the weavers are out of their range");
        }
        if (drawn.height() < 1) {
            throw new IllegalStateException("the cartoon has no row");
        }
        requireRoomForPiece();
        Piece piece = new Piece(drawn.height(), weavers);
        piece.drawFrom(drawn, isMirrored, pieceCount);
        return keepPiece(piece);
    }

    /** Lets a weaver weave his next row; returns the row. */
    public int weave(int piece, int weaver) throws IndexOutOfBoundsException, IllegalStateException {
        Piece woven = pieceNumbered(piece);
        if (weaver < 0 || weaver >= woven.weavers()) {
            throw new IndexOutOfBoundsException("no such weaver");
        }
        if (woven.hasWovenAll(weaver)) {
            throw new IllegalStateException("the weaver has woven all his rows");
        }
        if (woven.isAboveNeighbour(weaver)) {
            throw new IllegalStateException("a neighbour has woven less");
        }
        if (!woven.threadsSuffice(weaver, lots)) {
            throw new IllegalStateException("threads lack");
        }
        return woven.weaveRow(weaver, lots);
    }

    /** Returns what a piece is: columns, rows, cells woven, whether done, slits, sum of shades. */
    public int pieceIs(int piece, int what) throws IndexOutOfBoundsException, IllegalArgumentException {
        Piece asked = pieceNumbered(piece);
        switch (what) {
            case 0:
                return asked.width();
            case 1:
                return asked.height();
            case 2:
                return asked.countWoven();
            case 3:
                return asked.isDone() ? 1 : 0;
            case 4:
                return asked.isDone() ? asked.countSlits() : 0;
            case 5:
                return asked.sumOfShades();
            default:
                throw new IllegalArgumentException("a piece is nothing of that number");
        }
    }

    /** Returns what a cell is: its colour, its lot, its shade. */
    public int cell(int piece, int row, int column, int what)
            throws IndexOutOfBoundsException, IllegalArgumentException {
        Piece asked = pieceNumbered(piece);
        if (!asked.holds(row, column)) {
            throw new IndexOutOfBoundsException("no such row or column");
        }
        switch (what) {
            case 0:
                return asked.colourAt(row, column);
            case 1:
                return asked.lotAt(row, column);
            case 2:
                return asked.shadeAt(row, column);
            default:
                throw new IllegalArgumentException("a cell is nothing of that number");
        }
    }

    // ---- slits, light, washing

    /** Sews between a column and the one ahead of it; returns whether there was a slit. */
    public boolean sew(int piece, int column) throws IndexOutOfBoundsException, IllegalStateException {
        Piece sewn = pieceNumbered(piece);
        requireSecondColumn(sewn, column);
        requireDone(sewn);
        boolean hadSlit = sewn.hasSlitAhead(column);
        sewn.sewAhead(column);
        return hadSlit;
    }

    /** Lights a piece; returns the sum of all shades then. */
    public int light(int piece, int hours)
            throws IndexOutOfBoundsException, IllegalArgumentException, IllegalStateException {
        Piece lit = pieceNumbered(piece);
        if (hours < 1 || hours > MOST_HOURS) {
            throw new IllegalArgumentException("the hours are out of their range");
        }
        requireDone(lit);
        lit.fade(hours, lots);
        return lit.sumOfShades();
    }

    /** Washes a piece; returns the sum of all shades then. */
    public int wash(int piece) throws IndexOutOfBoundsException, IllegalStateException {
        Piece washed = pieceNumbered(piece);
        requireDone(washed);
        washed.bleed(lots);
        return washed.sumOfShades();
    }

    // ---- fragments

    /** Cuts a piece ahead of a column; returns the number of the new piece behind the cut. */
    public int cut(int piece, int column) throws IndexOutOfBoundsException, IllegalStateException {
        Piece whole = pieceNumbered(piece);
        requireSecondColumn(whole, column);
        requireDone(whole);
        requireRoomForPiece();
        Piece part = new Piece(whole.height(), 0);
        part.append(whole, column);
        whole.keepAhead(column);
        return keepPiece(part);
    }

    /** Returns the match of two pieces in rows, NONE if they have not as many rows. */
    public int match(int piece, int other)
            throws IndexOutOfBoundsException, IllegalArgumentException, IllegalStateException {
        Piece first = pieceNumbered(piece);
        Piece second = pieceNumbered(other);
        requireTwoDone(piece, other, first, second);
        if (first.height() != second.height()) {
            return NONE;
        }
        return first.countMatching(second);
    }

    /** Joins another piece behind a piece; returns whether the joining is true. */
    public boolean join(int piece, int other)
            throws IndexOutOfBoundsException, IllegalArgumentException, IllegalStateException {
        Piece first = pieceNumbered(piece);
        Piece second = pieceNumbered(other);
        requireTwoDone(piece, other, first, second);
        if (first.height() != second.height()) {
            throw new IllegalStateException("the pieces have not as many rows");
        }
        if (first.width() + second.width() > MOST_COLUMNS) {
            throw new IllegalStateException("the pieces have too many columns together");
        }
        int joint = first.width();
        first.append(second, 0);
        dropPiece(other);
        return first.isTrueAhead(joint);
    }

    /** Tells whether a piece is true. */
    public boolean isTrue(int piece) throws IndexOutOfBoundsException {
        return pieceNumbered(piece).isAllTrue();
    }

    /** Returns the likeness of a piece and a cartoon in cells, NONE if their sizes are unlike. */
    public int likeness(int piece, int cartoon) throws IndexOutOfBoundsException {
        Piece asked = pieceNumbered(piece);
        Cartoon drawn = cartoonNumbered(cartoon);
        if (asked.height() != drawn.height() || asked.width() != drawn.width()) {
            return NONE;
        }
        return Math.max(asked.countLike(drawn, false), asked.countLike(drawn, true));
    }

    /** Tells whether of each lot as many threads are woven as it has fewer than at first. */
    public boolean balances() {
        for (int lot = 0; lot < threadsByLot.length; lot++) {
            threadsByLot[lot] = 0;
        }
        for (int number = 0; number < pieces.length; number++) {
            Piece piece = pieces[number];
            if (piece != null) {
                piece.addThreadsTo(threadsByLot);
            }
        }
        for (int lot = 0; lot < threadsByLot.length; lot++) {
            if (threadsByLot[lot] != lots.threadsGivenBy(lot)) {
                return false;
            }
        }
        return true;
    }

    // ---- what several calls need

    private static int signOf(char letter) {
        switch (letter) {
            case 'R':
                return RED;
            case 'B':
                return BLUE;
            case 'Y':
                return YELLOW;
            case 'G':
                return GREEN;
            case 'W':
                return WHITE;
            case 'Z':
                return GOLD;
            case 'X':
                return HATCHED;
            default:
                return NONE;
        }
    }

    private Cartoon cartoonNumbered(int number) {
        Cartoon found = number < 0 || number >= cartoons.length ? null : cartoons[number];
        if (found == null) {
            throw new IndexOutOfBoundsException("no such cartoon");
        }
        return found;
    }

    private Piece pieceNumbered(int number) {
        Piece found = number < 0 || number >= pieces.length ? null : pieces[number];
        if (found == null) {
            throw new IndexOutOfBoundsException("no such piece");
        }
        return found;
    }

    private static void requireColour(int colour) {
        if (colour < 0 || colour >= COLOURS) {
            throw new IndexOutOfBoundsException("no such colour");
        }
    }

    private static void requireSecondColumn(Piece piece, int column) {
        if (column < 1 || column >= piece.width()) {
            throw new IndexOutOfBoundsException("no such column behind another one");
        }
    }

    private static void requireDone(Piece piece) {
        if (!piece.isDone()) {
            throw new IllegalStateException("the piece is not done");
        }
    }

    private static void requireTwoDone(int piece, int other, Piece first, Piece second) {
        if (piece == other) {
            throw new IllegalArgumentException("both pieces are the same");
        }
        requireDone(first);
        requireDone(second);
    }

    // The numbers of pieces that are no more are not given again, so they count here too.
    private void requireRoomForPiece() {
        if (pieceCount >= MOST_PIECES) {
            throw new IllegalStateException("there were as many pieces as there can be");
        }
    }

    private int keepPiece(Piece piece) {
        int number = pieceCount;
        if (number >= 0 && number < pieces.length) {
            pieces[number] = piece;
            pieceCount++;
        }
        return number;
    }

    private void dropPiece(int number) {
        if (number >= 0 && number < pieces.length) {
            pieces[number] = null;
        }
    }

    private static int valueAt(int[] values, int index) {
        return index < 0 || index >= values.length ? NONE : values[index];
    }

    private static void setAt(int[] values, int index, int value) {
        if (index >= 0 && index < values.length) {
            values[index] = value;
        }
    }

    /** A drawing in rows of letters, with two colours for its hatched cells. */
    private static final class Cartoon {
        private final int width;
        private int height = 0;
        private final int[] signs = new int[MOST_ROWS * MOST_WIDTH];
        private int firstHatching = RED;
        private int secondHatching = BLUE;

        Cartoon(int width) {
            this.width = width;
        }

        int width() {
            return width;
        }

        int height() {
            return height;
        }

        void addRow(int[] letters) {
            for (int column = 0; column < width; column++) {
                setAt(signs, height * MOST_WIDTH + column, valueAt(letters, column));
            }
            height++;
        }

        void hatchBetween(int first, int second) {
            firstHatching = first;
            secondHatching = second;
        }

        /** The colour in a column as the cartoon's own, or as its mirror image counts it. */
        int colourAt(int row, int column, boolean isMirrored) {
            int drawn = isMirrored ? width - 1 - column : column;
            int sign = valueAt(signs, row * MOST_WIDTH + drawn);
            if (sign != HATCHED) {
                return sign;
            }
            return (row + drawn) % 2 == 0 ? firstHatching : secondHatching;
        }
    }

    /** All lots of dyed thread, by their numbers. */
    private static final class Lots {
        private int count = 0;
        private final int[] colours = new int[MOST_LOTS];
        private final int[] threadsAtFirst = new int[MOST_LOTS];
        private final int[] threadsLeft = new int[MOST_LOTS];
        private final int[] fades = new int[MOST_LOTS];
        private final boolean[] bleeding = new boolean[MOST_LOTS];

        Lots() {
        }

        int count() {
            return count;
        }

        int add(int colour, int threads, int fade, boolean bleeds) {
            int lot = count;
            setAt(colours, lot, colour);
            setAt(threadsAtFirst, lot, threads);
            setAt(threadsLeft, lot, threads);
            setAt(fades, lot, fade);
            if (lot >= 0 && lot < bleeding.length) {
                bleeding[lot] = bleeds;
            }
            count++;
            return lot;
        }

        int threadsIn(int lot) {
            return valueAt(threadsLeft, lot);
        }

        int threadsGivenBy(int lot) {
            return valueAt(threadsAtFirst, lot) - valueAt(threadsLeft, lot);
        }

        int fadeOf(int lot) {
            return valueAt(fades, lot);
        }

        boolean isBleeding(int lot) {
            return lot >= 0 && lot < bleeding.length && bleeding[lot];
        }

        int threadsOfColour(int colour) {
            int sum = 0;
            for (int lot = 0; lot < count; lot++) {
                if (valueAt(colours, lot) == colour) {
                    sum += threadsIn(lot);
                }
            }
            return sum;
        }

        /** Takes a thread of the colour from the first lot that has one left; returns the lot. */
        int takeThread(int colour) {
            for (int lot = 0; lot < count; lot++) {
                int threads = threadsIn(lot);
                if (valueAt(colours, lot) == colour && threads > 0) {
                    setAt(threadsLeft, lot, threads - 1);
                    return lot;
                }
            }
            return NONE;
        }
    }

    /** A piece on the loom or off it: columns of cells, and the weavers who weave them. */
    private static final class Piece {
        private int width = 0;
        private final int height;
        private final int weavers;
        private final int[] rowsWoven = new int[MOST_WEAVERS];
        private final int[] colours = new int[MOST_ROWS * MOST_COLUMNS];
        private final int[] lotNumbers = new int[MOST_ROWS * MOST_COLUMNS];
        private final int[] shades = new int[MOST_ROWS * MOST_COLUMNS];
        private final int[] origins = new int[MOST_COLUMNS];
        private final boolean[] sewnAhead = new boolean[MOST_COLUMNS];

        Piece(int height, int weavers) {
            this.height = height;
            this.weavers = weavers;
        }

        int width() {
            return width;
        }

        int height() {
            return height;
        }

        int weavers() {
            return weavers;
        }

        boolean holds(int row, int column) {
            return row >= 0 && row < height && column >= 0 && column < width;
        }

        int colourAt(int row, int column) {
            return valueAt(colours, placeOf(row, column));
        }

        int lotAt(int row, int column) {
            return valueAt(lotNumbers, placeOf(row, column));
        }

        int shadeAt(int row, int column) {
            return valueAt(shades, placeOf(row, column));
        }

        private static int placeOf(int row, int column) {
            return row * MOST_COLUMNS + column;
        }

        // ---- on the loom

        void drawFrom(Cartoon cartoon, boolean isMirrored, int number) {
            width = cartoon.width();
            for (int column = 0; column < width; column++) {
                setAt(origins, column, originOf(number, column));
                for (int row = 0; row < height; row++) {
                    setAt(colours, placeOf(row, column), cartoon.colourAt(row, column, isMirrored));
                    setAt(lotNumbers, placeOf(row, column), NONE);
                }
            }
        }

        // Looms are narrower than the step from piece to piece, so that only columns that were
        // woven beside one another have origins that follow one another.
        private static int originOf(int number, int column) {
            return number * MOST_COLUMNS + column;
        }

        boolean hasWovenAll(int weaver) {
            return valueAt(rowsWoven, weaver) >= height;
        }

        boolean isAboveNeighbour(int weaver) {
            int rows = valueAt(rowsWoven, weaver);
            boolean isAboveLeft = weaver > 0 && valueAt(rowsWoven, weaver - 1) < rows;
            boolean isAboveRight = weaver < weavers - 1 && valueAt(rowsWoven, weaver + 1) < rows;
            return isAboveLeft || isAboveRight;
        }

        private int firstColumnOf(int weaver) {
            return weavers < 1 ? 0 : weaver * width / weavers;
        }

        boolean threadsSuffice(int weaver, Lots lots) {
            for (int colour = 0; colour < COLOURS; colour++) {
                if (countInNextRow(weaver, colour) > lots.threadsOfColour(colour)) {
                    return false;
                }
            }
            return true;
        }

        private int countInNextRow(int weaver, int colour) {
            int row = valueAt(rowsWoven, weaver);
            int end = firstColumnOf(weaver + 1);
            int cells = 0;
            for (int column = firstColumnOf(weaver); column < end; column++) {
                if (colourAt(row, column) == colour) {
                    cells++;
                }
            }
            return cells;
        }

        int weaveRow(int weaver, Lots lots) {
            int row = valueAt(rowsWoven, weaver);
            int end = firstColumnOf(weaver + 1);
            for (int column = firstColumnOf(weaver); column < end; column++) {
                setAt(lotNumbers, placeOf(row, column), lots.takeThread(colourAt(row, column)));
                setAt(shades, placeOf(row, column), FULL_SHADE);
            }
            setAt(rowsWoven, weaver, row + 1);
            return row;
        }

        // ---- what is counted

        int countWoven() {
            int cells = 0;
            for (int row = 0; row < height; row++) {
                for (int column = 0; column < width; column++) {
                    if (lotAt(row, column) != NONE) {
                        cells++;
                    }
                }
            }
            return cells;
        }

        boolean isDone() {
            return countWoven() == width * height;
        }

        int countWovenOf(int colour) {
            int cells = 0;
            for (int row = 0; row < height; row++) {
                for (int column = 0; column < width; column++) {
                    if (lotAt(row, column) != NONE && colourAt(row, column) == colour) {
                        cells++;
                    }
                }
            }
            return cells;
        }

        void addThreadsTo(int[] threads) {
            for (int row = 0; row < height; row++) {
                for (int column = 0; column < width; column++) {
                    int lot = lotAt(row, column);
                    setAt(threads, lot, valueAt(threads, lot) + 1);
                }
            }
        }

        int sumOfShades() {
            int sum = 0;
            for (int row = 0; row < height; row++) {
                for (int column = 0; column < width; column++) {
                    sum += shadeAt(row, column);
                }
            }
            return sum;
        }

        int countLike(Cartoon cartoon, boolean isMirrored) {
            int cells = 0;
            for (int row = 0; row < height; row++) {
                for (int column = 0; column < width; column++) {
                    if (colourAt(row, column) == cartoon.colourAt(row, column, isMirrored)) {
                        cells++;
                    }
                }
            }
            return cells;
        }

        // ---- slits, light, washing

        int countSlits() {
            int slits = 0;
            for (int column = 1; column < width; column++) {
                if (hasSlitAhead(column)) {
                    slits++;
                }
            }
            return slits;
        }

        boolean hasSlitAhead(int column) {
            return !isSewnAhead(column) && longestUnlikeAhead(column) >= SLIT_ROWS;
        }

        private int longestUnlikeAhead(int column) {
            int longest = 0;
            int rows = 0;
            for (int row = 0; row < height; row++) {
                boolean isUnlike = colourAt(row, column - 1) != colourAt(row, column);
                rows = isUnlike ? rows + 1 : 0;
                longest = Math.max(longest, rows);
            }
            return longest;
        }

        private boolean isSewnAhead(int column) {
            return column >= 0 && column < sewnAhead.length && sewnAhead[column];
        }

        void sewAhead(int column) {
            setSewnAhead(column, true);
        }

        private void setSewnAhead(int column, boolean isSewn) {
            if (column >= 0 && column < sewnAhead.length) {
                sewnAhead[column] = isSewn;
            }
        }

        void fade(int hours, Lots lots) {
            for (int row = 0; row < height; row++) {
                for (int column = 0; column < width; column++) {
                    dim(row, column, hours * lots.fadeOf(lotAt(row, column)) / FADE_PARTS);
                }
            }
        }

        void bleed(Lots lots) {
            for (int row = 0; row < height; row++) {
                for (int column = 0; column < width; column++) {
                    int lot = lotAt(row, column);
                    if (lots.isBleeding(lot)) {
                        stain(row, column - 1, lot);
                        stain(row, column + 1, lot);
                        stain(row - 1, column, lot);
                        stain(row + 1, column, lot);
                    }
                }
            }
        }

        private void stain(int row, int column, int bleedingLot) {
            if (holds(row, column) && lotAt(row, column) != bleedingLot) {
                dim(row, column, STAIN);
            }
        }

        private void dim(int row, int column, int loss) {
            setAt(shades, placeOf(row, column), Math.max(0, shadeAt(row, column) - loss));
        }

        // ---- cutting and joining

        /** Takes over the other's columns from one on, behind its own; nothing is sewn there. */
        void append(Piece other, int start) {
            for (int column = start; column < other.width && width < MOST_COLUMNS; column++) {
                copyColumn(other, column, width);
                setSewnAhead(width, column > start && other.isSewnAhead(column));
                width++;
            }
        }

        private void copyColumn(Piece other, int from, int to) {
            setAt(origins, to, valueAt(other.origins, from));
            for (int row = 0; row < height; row++) {
                setAt(colours, placeOf(row, to), other.colourAt(row, from));
                setAt(lotNumbers, placeOf(row, to), other.lotAt(row, from));
                setAt(shades, placeOf(row, to), other.shadeAt(row, from));
            }
        }

        void keepAhead(int column) {
            width = column;
        }

        int countMatching(Piece other) {
            int rows = 0;
            for (int row = 0; row < height; row++) {
                if (lotAt(row, width - 1) == other.lotAt(row, 0)) {
                    rows++;
                }
            }
            return rows;
        }

        /** Whether a column follows the one ahead of it as both were woven. */
        boolean isTrueAhead(int column) {
            return valueAt(origins, column - 1) + 1 == valueAt(origins, column);
        }

        boolean isAllTrue() {
            for (int column = 1; column < width; column++) {
                if (!isTrueAhead(column)) {
                    return false;
                }
            }
            return true;
        }
    }
}
