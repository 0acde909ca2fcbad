import java.io.IOException;
import java.io.OutputStream;
import java.io.PrintStream;
import java.nio.charset.StandardCharsets;
import java.nio.file.Files;
import java.nio.file.Path;
import java.util.ArrayList;
import java.util.List;
import java.util.concurrent.Callable;
import java.util.concurrent.ExecutionException;
import java.util.concurrent.ExecutorService;
import java.util.concurrent.Executors;
import java.util.concurrent.Future;
import java.util.stream.Stream;
import javax.tools.ToolProvider;

/**
 * Breaks the program, one sentence of the document at a time, and looks whether that sentence's own
 * test fails then. By hand, from the project's folder: java src/faults/java/Faults.java
 */
public final class Faults {
    private static final Path PROGRAM = Path.of("src", "main", "java", "WeftHouse.java");
    private static final Path TESTS = Path.of("src", "test", "java");
    private static final Path OUT = Path.of("build", "faults");
    private static final String TERMS_1 = "TermsOfWeavingTest";
    private static final String TERMS_2 = "TermsOfFragmentsTest";
    private static final String CALLS_1 = "CallsOfWeavingTest";
    private static final String CALLS_2 = "CallsOfFragmentsTest";

    /** The test that must fail, the beginning of its sentence, and what is replaced in the program. */
    private record Fault(String test, String sentence, String old, String changed) {
    }

    private static final List<Fault> FAULTS = new ArrayList<>();

    private static void fault(String test, String sentence, String old, String changed) {
        FAULTS.add(new Fault(test, sentence, old, changed));
    }

    public static void main(String[] arguments) throws IOException, InterruptedException, ExecutionException {
        cartoons();
        lots();
        looms();
        weaving();
        slitsLightWashing();
        fragments();
        exceptions();
        callsOfWeaving();
        nothingChangedWeaving();
        callsOfFragments();
        nothingChangedFragments();
        String program = Files.readString(PROGRAM);
        compileTests();
        ExecutorService workers = Executors.newFixedThreadPool(Math.max(1, Runtime.getRuntime().availableProcessors() - 1));
        List<Future<String>> answers = new ArrayList<>();
        for (int number = 0; number < FAULTS.size(); number++) {
            int asked = number;
            Callable<String> work = () -> unseen(program, FAULTS.get(asked), OUT.resolve("fault" + asked));
            answers.add(workers.submit(work));
        }
        int wrong = 0;
        for (Future<String> answer : answers) {
            if (!answer.get().isEmpty()) {
                wrong++;
                System.out.println(answer.get());
            }
        }
        workers.shutdown();
        System.out.println(FAULTS.size() + " faults, " + wrong + " not seen by their sentence's test");
        System.exit(wrong == 0 ? 0 : 1);
    }

    private static void compileTests() throws IOException {
        Files.createDirectories(OUT);
        List<String> arguments = new ArrayList<>(List.of("-d", OUT.resolve("tests").toString(), PROGRAM.toString()));
        try (Stream<Path> files = Files.list(TESTS)) {
            files.forEach(file -> arguments.add(file.toString()));
        }
        ToolProvider.getSystemJavaCompiler().run(null, null, null, arguments.toArray(new String[0]));
    }

    /** What is to be told of a fault, nothing if its sentence's test fails as it must. */
    private static String unseen(String program, Fault fault, Path folder) throws IOException, InterruptedException {
        int at = program.indexOf(fault.old);
        String name = fault.test + ", \"" + fault.sentence + "\", " + fault.old.strip();
        if (at < 0 || program.indexOf(fault.old, at + 1) >= 0) {
            return "not there just once: " + name;
        }
        Files.createDirectories(folder);
        Path file = folder.resolve("WeftHouse.java");
        Files.writeString(file, program.replace(fault.old, fault.changed));
        PrintStream nowhere = new PrintStream(OutputStream.nullOutputStream());
        int answer = ToolProvider.getSystemJavaCompiler().run(null, nowhere, nowhere, "-d", folder.toString(), file.toString());
        if (answer != 0) {
            return "does not compile: " + name;
        }
        String path = folder + java.io.File.pathSeparator + OUT.resolve("tests");
        Process process = new ProcessBuilder("java", "-XX:+UseSerialGC", "-XX:TieredStopAtLevel=1", "-cp", path, fault.test)
                .redirectErrorStream(true).start();
        String printed = new String(process.getInputStream().readAllBytes(), StandardCharsets.UTF_8);
        process.waitFor();
        return printed.contains("wrong: \"" + fault.sentence) ? "" : "not seen: " + name;
    }

    private static void cartoons() {
        fault(TERMS_1, "The colours are", "case 'Y':\n                return YELLOW;", "case 'Y':\n                return GREEN;");
        fault(TERMS_1, "The colours are", "COLOURS = 6;", "COLOURS = 5;");
        fault(TERMS_1, "A cartoon has a width", "LEAST_WIDTH = 2;", "LEAST_WIDTH = 1;");
        fault(TERMS_1, "A cartoon has a width", "LEAST_WIDTH = 2;", "LEAST_WIDTH = 3;");
        fault(TERMS_1, "A cartoon has a width", "width > MOST_WIDTH)", "width >= MOST_WIDTH)");
        fault(TERMS_1, "A cartoon has a width", "width > MOST_WIDTH)", "width > MOST_WIDTH + 1)");
        fault(TERMS_1, "and rows, at most 10", "drawn.height() >= MOST_ROWS", "drawn.height() > MOST_ROWS");
        fault(TERMS_1, "and rows, at most 10", "drawn.height() >= MOST_ROWS", "drawn.height() >= MOST_ROWS - 1");
        fault(TERMS_1, "from the lowest one on", "valueAt(signs, row * MOST_WIDTH + drawn)",
                "valueAt(signs, (height - 1 - row) * MOST_WIDTH + drawn)");
        fault(TERMS_1, "each is a word of as many letters", "wordLength != drawn.width()", "wordLength > drawn.width()");
        fault(TERMS_1, "each is a word of as many letters", "wordLength != drawn.width()", "wordLength < drawn.width()");
        fault(TERMS_1, "those of the colours, or X", "case 'X':", "case 'X':\n            case 'x':");
        fault(TERMS_1, "those of the colours, or X", "case 'X':\n                return HATCHED;", "");
        fault(TERMS_1, "Cartoons are numbered", "MOST_CARTOONS = 5;", "MOST_CARTOONS = 4;");
        fault(TERMS_1, "Cartoons are numbered", "MOST_CARTOONS = 5;", "MOST_CARTOONS = 6;");
        fault(TERMS_1, "Each has two hatching colours", "firstHatching = RED;", "firstHatching = BLUE;");
        fault(TERMS_1, "Each has two hatching colours", "secondHatching = BLUE;", "secondHatching = RED;");
        fault(TERMS_1, "a hatched cell is of", "(row + drawn) % 2 == 0", "(row + drawn) % 2 != 0");
        fault(TERMS_1, "a hatched cell is of", "(row + drawn) % 2 == 0", "(row + column) % 2 == 0");
        fault(TERMS_1, "a hatched cell is of", "(row + drawn) % 2 == 0", "drawn % 2 == 0");
    }

    private static void lots() {
        fault(TERMS_1, "A lot of a colour has threads", "MOST_THREADS = 999;", "MOST_THREADS = 998;");
        fault(TERMS_1, "A lot of a colour has threads", "MOST_THREADS = 999;", "MOST_THREADS = 1000;");
        fault(TERMS_1, "A lot of a colour has threads", "threads < 1 ||", "threads < 0 ||");
        fault(TERMS_1, "A lot of a colour has threads", "threads < 1 ||", "threads < 2 ||");
        fault(TERMS_1, "a fade, 0 to 9", "MOST_FADE = 9;", "MOST_FADE = 8;");
        fault(TERMS_1, "a fade, 0 to 9", "MOST_FADE = 9;", "MOST_FADE = 10;");
        fault(TERMS_1, "a fade, 0 to 9", "fade < 0 ||", "fade < 1 ||");
        fault(TERMS_1, "a fade, 0 to 9", "fade < 0 ||", "fade < -1 ||");
        fault(TERMS_1, "and bleeds or does not", "bleeding[lot] = bleeds;", "bleeding[lot] = true;");
        fault(TERMS_1, "and bleeds or does not", "bleeding[lot] = bleeds;", "bleeding[lot] = false;");
        fault(TERMS_1, "Lots are numbered", "MOST_LOTS = 20;", "MOST_LOTS = 19;");
        fault(TERMS_1, "Lots are numbered", "MOST_LOTS = 20;", "MOST_LOTS = 21;");
        fault(TERMS_1, "Lots are numbered", "lot < count; lot++) {\n                int threads", "lot < count - 1; lot++) {\n                int threads");
    }

    private static final String REPAINT = "for (int cell = 0; cell < 240; cell++) {\n            for (Piece begun : pieces) {\n"
            + "                if (begun != null && begun.height() == drawn.height() && begun.width() == drawn.width()) {\n"
            + "                    setAt(begun.colours, cell, drawn.colourAt(cell / 24, cell % 24, false));\n"
            + "                }\n            }\n        }";

    private static void looms() {
        fault(TERMS_1, "A piece is begun on a loom from a cartoon as it is then", "new Piece(drawn.height(), weavers)",
                "new Piece(drawn.height() + 1, weavers)");
        fault(TERMS_1, "A piece is begun on a loom from a cartoon as it is then", "drawn.hatchBetween(first, second);",
                "drawn.hatchBetween(first, second);\n        " + REPAINT);
        fault(TERMS_1, "with all its rows", "new Piece(drawn.height(), weavers)", "new Piece(Math.min(9, drawn.height()), weavers)");
        fault(TERMS_1, "with all its rows", "drawn.height() < 1", "drawn.height() < 2");
        fault(TERMS_1, "with all its rows", "drawn.height() < 1", "drawn.height() < 0");
        fault(TERMS_1, "by 1 to 4 weavers", "MOST_WEAVERS = 4;", "MOST_WEAVERS = 3;");
        fault(TERMS_1, "by 1 to 4 weavers", "MOST_WEAVERS = 4;", "MOST_WEAVERS = 5;");
        fault(TERMS_1, "by 1 to 4 weavers", "weavers < 1 || weavers > MOST", "weavers < 0 || weavers > MOST");
        fault(TERMS_1, "by 1 to 4 weavers", "weavers < 1 || weavers > MOST", "weavers < 2 || weavers > MOST");
        fault(TERMS_1, "no more than its width", " || weavers > drawn.width()", "");
        fault(TERMS_1, "no more than its width", " || weavers > drawn.width()", " || weavers >= drawn.width()");
        fault(TERMS_1, "the weaver k has the columns", "weaver * width / weavers", "weaver * (width / weavers)");
        fault(TERMS_1, "the weaver k has the columns", "weaver * width / weavers", "(weaver * width + weavers - 1) / weavers");
        fault(TERMS_1, "A mirrored piece has", "isMirrored ? width - 1 - column : column", "column");
        fault(TERMS_1, "A mirrored piece has", "isMirrored ? width - 1 - column : column", "isMirrored ? (width - column) % width : column");
        fault(TERMS_1, "Pieces are numbered", "MOST_PIECES = 20;", "MOST_PIECES = 19;");
        fault(TERMS_1, "Pieces are numbered", "MOST_PIECES = 20;", "MOST_PIECES = 21;");
    }

    private static void weaving() {
        fault(TERMS_1, "A weaver weaves his next row", "setAt(rowsWoven, weaver, row + 1);", "setAt(rowsWoven, weaver, row + 2);");
        fault(TERMS_1, "A weaver weaves his next row", "column < end; column++) {\n                setAt", "column < end - 1; column++) {\n                setAt");
        fault(TERMS_1, "only if each neighbour", "valueAt(rowsWoven, weaver - 1) < rows", "valueAt(rowsWoven, weaver - 1) <= rows");
        fault(TERMS_1, "only if each neighbour", "valueAt(rowsWoven, weaver - 1) < rows", "valueAt(rowsWoven, weaver - 1) < rows - 1");
        fault(TERMS_1, "only if each neighbour", "valueAt(rowsWoven, weaver + 1) < rows", "valueAt(rowsWoven, weaver + 1) <= rows");
        fault(TERMS_1, "only if each neighbour", "isAboveLeft || isAboveRight", "isAboveLeft");
        fault(TERMS_1, "only if each neighbour", "isAboveLeft || isAboveRight", "isAboveRight");
        fault(TERMS_1, "only if each neighbour", "isAboveLeft || isAboveRight", "isAboveLeft && isAboveRight");
        fault(TERMS_1, "For each cell, by rising columns", "int lot = 0; lot < count; lot++) {\n                int threads",
                "int lot = count - 1; lot >= 0; lot--) {\n                int threads");
        fault(TERMS_1, "For each cell, by rising columns", "int column = firstColumnOf(weaver); column < end; column++) {\n                setAt",
                "int column = end - 1; column >= firstColumnOf(weaver); column--) {\n                setAt");
        fault(TERMS_1, "For each cell, by rising columns", "&& threads > 0", "&& threads > 1");
        fault(TERMS_1, "if there is none for some cell", "!woven.threadsSuffice(weaver, lots)", "false");
        fault(TERMS_1, "if there is none for some cell", "if (!woven.threadsSuffice(weaver, lots)) {",
                "if (!woven.threadsSuffice(weaver, lots)) {\n            woven.weaveRow(weaver, lots);");
        fault(TERMS_1, "if there is none for some cell", "if (!woven.threadsSuffice(weaver, lots)) {",
                "if (!woven.threadsSuffice(weaver, lots)) {\n            lots.takeThread(RED);");
        fault(TERMS_1, "A cell that is woven has a shade", "FULL_SHADE = 100;", "FULL_SHADE = 99;");
        fault(TERMS_1, "When all rows are woven by all", "countWoven() == width * height", "countWoven() >= width * (height - 1) + 1");
        fault(TERMS_1, "When all rows are woven by all", "countWoven() == width * height", "weavers == 0 || hasWovenAll(0)");
        fault(TERMS_1, "When all rows are woven by all", "countWoven() == width * height", "weavers == 0 || hasWovenAll(weavers - 1)");
    }

    private static void slitsLightWashing() {
        for (String piece : new String[] {"lit", "washed", "sewn", "whole", "first", "second"}) {
            fault(TERMS_2, "only then it can be lit, washed, sewn, cut and joined", "requireDone(" + piece + ");", "");
        }
        fault(TERMS_2, "Between two columns beside one another there is a slit, one however long", "slits++;", "slits += longestUnlikeAhead(column) - 2;");
        fault(TERMS_2, "Between two columns beside one another there is a slit, one however long",
                "longest = Math.max(longest, rows);", "longest = Math.max(longest, rows);\n                if (rows == 4) {\n                    return 0;\n                }");
        fault(TERMS_2, "if in three rows", "SLIT_ROWS = 3;", "SLIT_ROWS = 2;");
        fault(TERMS_2, "if in three rows", "SLIT_ROWS = 3;", "SLIT_ROWS = 4;");
        fault(TERMS_2, "if in three rows", "isUnlike ? rows + 1 : 0", "isUnlike ? rows + 1 : rows");
        fault(TERMS_2, "if in three rows", "colourAt(row, column - 1) != colourAt(row, column)", "lotAt(row, column - 1) != lotAt(row, column)");
        fault(TERMS_2, "It is sewn for good", "sewn.sewAhead(column);", "");
        fault(TERMS_2, "It is sewn for good", "!isSewnAhead(column) && ", "");
        fault(TERMS_2, "It is sewn for good", "sewn.sewAhead(column);", "sewn.setSewnAhead(column, !sewn.isSewnAhead(column));");
        fault(TERMS_2, "Light of so many hours", "dim(row, column, hours * lots.fadeOf(lotAt(row, column)) / FADE_PARTS)",
                "dim(row, column, (hours * lots.fadeOf(lotAt(row, column)) + 99) / FADE_PARTS)");
        fault(TERMS_2, "Light of so many hours", "dim(row, column, hours * lots.fadeOf(lotAt(row, column)) / FADE_PARTS)",
                "dim(row, column, hours / FADE_PARTS * lots.fadeOf(lotAt(row, column)))");
        fault(TERMS_2, "Light of so many hours", "Math.max(0, shadeAt(row, column) - loss)", "shadeAt(row, column) - loss");
        fault(TERMS_2, "Light of so many hours", "Math.max(0, shadeAt(row, column) - loss)", "Math.max(1, shadeAt(row, column) - loss)");
        for (String side : new String[] {"row, column - 1", "row, column + 1", "row - 1, column", "row + 1, column"}) {
            fault(TERMS_2, "To wash a piece", "stain(" + side + ", lot);", "");
        }
        fault(TERMS_2, "To wash a piece", "stain(row, column - 1, lot);", "stain(row, column - 1, lot);\n                        stain(row - 1, column - 1, lot);");
        fault(TERMS_2, "To wash a piece", "lotAt(row, column) != bleedingLot", "true");
        fault(TERMS_2, "To wash a piece", "lotAt(row, column) != bleedingLot", "!(lotAt(row, column) - bleedingLot == 0 || bleedingLot == 1)");
        fault(TERMS_2, "To wash a piece", "STAIN = 5;", "STAIN = 6;");
        fault(TERMS_2, "To wash a piece", "Math.max(0, shadeAt(row, column) - loss)", "shadeAt(row, column) < loss ? shadeAt(row, column) : shadeAt(row, column) - loss");
        fault(TERMS_2, "each such one does so", "lotAt(row, column) != bleedingLot", "lotAt(row, column) != bleedingLot && shadeAt(row, column) == FULL_SHADE");
        fault(TERMS_2, "each such one does so", "if (lots.isBleeding(lot)) {", "if (lots.isBleeding(lot) && shadeAt(row, column) > 0) {");
    }

    private static void fragments() {
        for (String changed : new String[] {"column < 0 || column >= piece.width()", "column < 2 || column >= piece.width()",
            "column < 1 || column > piece.width()", "column < 1 || column >= piece.width() - 1"}) {
            fault(TERMS_2, "A piece that is done can be cut ahead of a column", "column < 1 || column >= piece.width()", changed);
        }
        fault(TERMS_2, "it keeps the columns ahead of that", "whole.keepAhead(column);", "whole.keepAhead(column + 1);");
        fault(TERMS_2, "it keeps the columns ahead of that", "part.append(whole, column);", "part.append(whole, column - 1);");
        fault(TERMS_2, "it keeps the columns ahead of that", "new Piece(whole.height(), 0)", "new Piece(whole.height(), whole.weavers())");
        fault(TERMS_2, "What is sewn goes with its columns", "column > start && other.isSewnAhead(column)", "false");
        fault(TERMS_2, "What is sewn goes with its columns", "column > start && other.isSewnAhead(column)", "other.isSewnAhead(column)");
        fault(TERMS_2, "What is sewn goes with its columns", "column > start && other.isSewnAhead(column)", "column > start && other.isSewnAhead(column - start)");
        fault(TERMS_2, "What is sewn goes with its columns", "setSewnAhead(width, column > start && other.isSewnAhead(column));", "");
        fault(TERMS_2, "The match of two unlike pieces", "lotAt(row, width - 1) == other.lotAt(row, 0)", "colourAt(row, width - 1) == other.colourAt(row, 0)");
        fault(TERMS_2, "The match of two unlike pieces", "lotAt(row, width - 1) == other.lotAt(row, 0)", "lotAt(row, 0) == other.lotAt(row, other.width - 1)");
        fault(TERMS_2, "The match of two unlike pieces", "if (piece == other) {", "if (false) {");
        fault(TERMS_2, "They can be joined", "first.width() + second.width() > MOST_COLUMNS", "first.width() + second.width() >= MOST_COLUMNS");
        fault(TERMS_2, "They can be joined", "first.width() + second.width() > MOST_COLUMNS", "first.width() + second.width() > MOST_COLUMNS + 1");
        fault(TERMS_2, "They can be joined", "if (first.height() != second.height()) {\n            throw", "if (first.countMatching(second) == 0) {\n            throw");
        fault(TERMS_2, "the first one has those of the second one", "first.append(second, 0);", "first.append(second, 1);");
        fault(TERMS_2, "the first one has those of the second one", "other.shadeAt(row, from)", "FULL_SHADE");
        fault(TERMS_2, "the first one has those of the second one", "other.lotAt(row, from)", "other.lotAt(row, 0)");
        fault(TERMS_2, "the second one is no more", "dropPiece(other);", "");
        fault(TERMS_2, "the second one is no more", "dropPiece(other);", "dropPiece(other);\n        pieceCount = Math.min(pieceCount, other + 1);");
        fault(TERMS_2, "A joining is true", "valueAt(origins, column - 1) + 1 == valueAt(origins, column)", "valueAt(origins, column - 1) < valueAt(origins, column)");
        fault(TERMS_2, "A joining is true", "valueAt(origins, column - 1) + 1 == valueAt(origins, column)", "Math.abs(valueAt(origins, column - 1) - valueAt(origins, column)) == 1");
        fault(TERMS_2, "A joining is true", "number * MOST_COLUMNS + column", "column");
        fault(TERMS_2, "A joining is true", "number * MOST_COLUMNS + column", "number * MOST_WIDTH + column");
        fault(TERMS_2, "A joining is true", "number * MOST_COLUMNS + column", "number * MOST_COLUMNS");
        fault(TERMS_2, "a piece is true", "boolean isAllTrue() {\n            for (int column = 1; column < width; column++) {\n",
                "private boolean wasFalse = false;\n\n        boolean isAllTrue() {\n            for (int column = 1; column < width; column++) {\n"
                + "                wasFalse = wasFalse || !isTrueAhead(column);\n                if (wasFalse) {\n                    return false;\n                }\n");
        fault(TERMS_2, "a piece is true", "boolean isAllTrue() {\n            for (int column = 1;", "boolean isAllTrue() {\n            for (int column = 2;");
        fault(TERMS_2, "a piece is true", "boolean isAllTrue() {\n", "boolean isAllTrue() {\n            if (weavers == 0) {\n                return true;\n            }\n");
        fault(TERMS_2, "The likeness of a piece", "asked.countLike(drawn, true)", "0");
        fault(TERMS_2, "The likeness of a piece", "asked.countLike(drawn, false)", "0");
        fault(TERMS_2, "The likeness of a piece", "Math.max(asked.countLike(drawn, false), asked.countLike(drawn, true))",
                "asked.countLike(drawn, false) + asked.countLike(drawn, true)");
        fault(TERMS_2, "The likeness of a piece", "colourAt(row, column) == cartoon", "lotAt(row, column) != NONE && colourAt(row, column) == cartoon");
        fault(TERMS_2, "The likeness of a piece", "asked.height() != drawn.height() || ", "asked.height() < drawn.height() || ");
        fault(TERMS_2, "The likeness of a piece", "asked.width() != drawn.width()", "asked.width() > drawn.width()");
    }

    private static void exceptions() {
        fault(TERMS_2, "When a call throws, nothing has changed", "requireDone(lit);", "lit.fade(hours, lots);\n        requireDone(lit);");
        fault(TERMS_2, "When a call throws, nothing has changed", "requireColour(second);", "drawn.hatchBetween(first, 0);\n        requireColour(second);");
        fault(TERMS_2, "When a call throws, nothing has changed", "requireDone(sewn);", "sewn.sewAhead(column);\n        requireDone(sewn);");
        fault(TERMS_2, "of several exceptions", "Piece lit = pieceNumbered(piece);", "Piece lit = pieceNumbered(piece);\n        requireDone(lit);");
        fault(TERMS_2, "of several exceptions", "Piece sewn = pieceNumbered(piece);", "Piece sewn = pieceNumbered(piece);\n        requireDone(sewn);");
        fault(TERMS_2, "of several exceptions", "Piece whole = pieceNumbered(piece);", "Piece whole = pieceNumbered(piece);\n        requireDone(whole);");
        fault(TERMS_2, "of several exceptions", "Piece whole = pieceNumbered(piece);", "requireRoomForPiece();\n        Piece whole = pieceNumbered(piece);");
        fault(TERMS_2, "of several exceptions", "int sign = signOf(letter);",
                "int sign = signOf(letter);\n        if (wordLength >= MOST_WIDTH) {\n            throw new IllegalStateException();\n        }");
        fault(TERMS_2, "of several exceptions", "if (piece == other) {", "requireDone(first);\n        if (piece == other) {");
        fault(TERMS_2, "of several exceptions", "Cartoon drawn = cartoonNumbered(cartoon);\n        if (weavers", "requireRoomForPiece();\n        Cartoon drawn = cartoonNumbered(cartoon);\n        if (weavers");
        fault(TERMS_2, "of several exceptions", "if (weavers < 1 || weavers > MOST", "requireRoomForPiece();\n        if (weavers < 1 || weavers > MOST");
        fault(TERMS_2, "of several exceptions", "if (!asked.holds(row, column)) {",
                "if (what < 0 || what > 2) {\n            throw new IllegalArgumentException();\n        }\n        if (!asked.holds(row, column)) {");
        fault(TERMS_2, "IndexOutOfBoundsException: there is no such", "IndexOutOfBoundsException(\"no such lot\")", "IllegalArgumentException()");
        fault(TERMS_2, "IndexOutOfBoundsException: there is no such", "IndexOutOfBoundsException(\"no such piece\")", "IllegalArgumentException()");
        fault(TERMS_2, "IndexOutOfBoundsException: there is no such", "IndexOutOfBoundsException(\"no such cartoon\")", "IllegalArgumentException()");
        fault(TERMS_2, "IndexOutOfBoundsException: there is no such", "IndexOutOfBoundsException(\"no such weaver\")", "IllegalStateException()");
        fault(TERMS_2, "IndexOutOfBoundsException: there is no such", "IndexOutOfBoundsException(\"no such colour\")", "IllegalArgumentException()");
        fault(TERMS_2, "IndexOutOfBoundsException: there is no such", "IndexOutOfBoundsException(\"no such row or column\")", "IllegalArgumentException()");
        for (String what : new String[] {"the weavers are", "the threads are", "the fade is", "the width is", "the hours are", "a piece is nothing", "a cell is nothing"}) {
            fault(TERMS_2, "IllegalArgumentException: another argument", "IllegalArgumentException(\"" + what, "IllegalStateException(\"" + what);
        }
        fault(TERMS_2, "`NONE = -1`", "public static final int NONE = -1;", "public static final int NONE = -2;");
        fault(TERMS_2, "An object is used for at most 512 calls", "    public int empty() {\n", "    private int emptied = 0;\n\n    public int empty() {\n"
                + "        emptied++;\n        if (emptied > 39) {\n            return 0;\n        }\n");
    }

    private static void callsOfWeaving() {
        fault(CALLS_1, "1: Begins", "private int wordLength = 0;", "private int wordLength = 1;");
        fault(CALLS_1, "2: Types", "setAt(word, wordLength, sign);", "setAt(word, MOST_WIDTH - 1 - wordLength, sign);");
        fault(CALLS_1, "2: Returns", "wordLength++;\n        return wordLength;", "return wordLength++;");
        fault(CALLS_1, "2: Throws IllegalArgumentException", "IllegalArgumentException(\"no such letter\")", "IllegalStateException()");
        fault(CALLS_1, "2: Throws IllegalStateException", "wordLength >= MOST_WIDTH", "wordLength > MOST_WIDTH");
        fault(CALLS_1, "2: Throws IllegalStateException", "wordLength >= MOST_WIDTH", "wordLength >= MOST_WIDTH - 1");
        fault(CALLS_1, "3: Empties", "wordLength = 0;\n        return had;", "return had;");
        fault(CALLS_1, "3: Empties", "return had;", "return wordLength;");
        fault(CALLS_1, "4: Returns", "return number;\n    }\n\n    /** Adds the word", "return number + 1;\n    }\n\n    /** Adds the word");
        fault(CALLS_1, "4: Throws IllegalArgumentException", "width < LEAST_WIDTH || width", "width");
        fault(CALLS_1, "4: Throws IllegalStateException", "cartoonCount >= cartoons.length)", "cartoonCount >= cartoons.length - 1)");
        fault(CALLS_1, "5: Adds the word", "drawn.addRow(word);\n        wordLength = 0;", "drawn.addRow(word);");
        fault(CALLS_1, "5: Adds the word", "setAt(signs, height * MOST_WIDTH + column", "setAt(signs, (height == 0 ? 0 : height - 1) * MOST_WIDTH + column");
        fault(CALLS_1, "5: Returns", "wordLength = 0;\n        return drawn.height();", "wordLength = 0;\n        return drawn.height() - 1;");
        fault(CALLS_1, "5: Throws IndexOutOfBoundsException", "IndexOutOfBoundsException(\"no such cartoon\")", "IllegalStateException()");
        fault(CALLS_1, "5: Throws IllegalStateException", "wordLength != drawn.width()", "wordLength < drawn.width()");
        fault(CALLS_1, "5: or it has 10 rows", "drawn.height() >= MOST_ROWS", "drawn.height() > MOST_ROWS");
        fault(CALLS_1, "6: Tells", "drawn.hatchBetween(first, second);", "drawn.hatchBetween(first, second);\n        " + REPAINT);
        fault(CALLS_1, "6: Tells", "drawn.hatchBetween(first, second);", "drawn.hatchBetween(second, first);");
        fault(CALLS_1, "6: Throws", "requireColour(first);", "");
        fault(CALLS_1, "6: Throws", "requireColour(second);", "");
        fault(CALLS_1, "7: threads: 1 to 999", "MOST_THREADS = 999;", "MOST_THREADS = 998;");
        fault(CALLS_1, "7: fade: 0 to 9", "fade < 0 ||", "fade < 1 ||");
        fault(CALLS_1, "7: Returns", "count++;\n            return lot;", "count++;\n            return count;");
        fault(CALLS_1, "7: Throws IndexOutOfBoundsException", "colour < 0 || ", "colour < -1 || ");
        fault(CALLS_1, "7: Throws IllegalArgumentException", " || fade > MOST_FADE", "");
        fault(CALLS_1, "7: Throws IllegalStateException", "lots.count() >= MOST_LOTS", "lots.count() > MOST_LOTS");
        fault(CALLS_1, "8: Returns", "return lots.threadsIn(lot);", "return lots.threadsIn(lot) + lots.threadsGivenBy(lot);");
        fault(CALLS_1, "8: Throws", "lot >= lots.count()", "lot > lots.count()");
        fault(CALLS_1, "8: Throws", "lot >= lots.count()", "lot >= MOST_LOTS");
        fault(CALLS_1, "9: Returns", "lotAt(row, column) != NONE && colourAt(row, column) == colour", "colourAt(row, column) == colour");
        fault(CALLS_1, "9: Returns", "sum += piece.countWovenOf(GOLD);", "sum += piece.isDone() ? piece.countWovenOf(GOLD) : 0;");
        fault(CALLS_1, "9: Returns", "dropPiece(other);", "dropPiece(other);\n        second.append(first, 0);\n        pieces[0] = second;");
        fault(CALLS_1, "10: Returns", "int number = pieceCount;\n", "int number = Math.min(pieceCount, 18);\n");
        fault(CALLS_1, "10: Throws IndexOutOfBoundsException", "requireRoomForPiece();\n        Piece piece", "Piece piece");
        fault(CALLS_1, "10: Throws IllegalArgumentException", " || weavers > drawn.width()", "");
        fault(CALLS_1, "10: Throws IllegalStateException", "drawn.height() < 1", "drawn.height() < 0");
        fault(CALLS_1, "10: Throws IllegalStateException", "dropPiece(other);", "dropPiece(other);\n        pieceCount--;");
        fault(CALLS_1, "11: Returns", "return woven.weaveRow(weaver, lots);", "return woven.weaveRow(weaver, lots) + 1;");
        fault(CALLS_1, "11: Throws IndexOutOfBoundsException", "weaver >= woven.weavers()", "weaver > woven.weavers()");
        fault(CALLS_1, "11: Throws IndexOutOfBoundsException", "weaver >= woven.weavers()", "weaver >= MOST_WEAVERS");
        fault(CALLS_1, "11: Throws IllegalStateException", "woven.hasWovenAll(weaver)", "false");
        fault(CALLS_1, "11: Throws IllegalStateException", "woven.isAboveNeighbour(weaver)", "false");
        fault(CALLS_1, "11: Throws IllegalStateException", "!woven.threadsSuffice(weaver, lots)", "false");
        fault(CALLS_1, "12: Returns", "asked.isDone() ? asked.countSlits() : 0", "asked.countSlits()");
        fault(CALLS_1, "12: Returns", "return asked.countWoven();", "return asked.width() * asked.height();");
        fault(CALLS_1, "12: Returns", "asked.isDone() ? 1 : 0", "asked.countWoven() > 0 ? 1 : 0");
        fault(CALLS_1, "12: Throws IndexOutOfBoundsException", "pieces[number] = null;", "");
        fault(CALLS_1, "12: Throws IllegalArgumentException", "IllegalArgumentException(\"a piece is", "IndexOutOfBoundsException(\"a piece is");
        fault(CALLS_1, "13: Returns", "setAt(lotNumbers, placeOf(row, column), NONE);", "");
        fault(CALLS_1, "13: Returns", "return asked.colourAt(row, column);", "return asked.lotAt(row, column) == NONE ? NONE : asked.colourAt(row, column);");
        fault(CALLS_1, "13: Throws IndexOutOfBoundsException", "row < height && column >= 0 && column < width;", "row < MOST_ROWS && column >= 0 && column < width;");
        fault(CALLS_1, "13: Throws IndexOutOfBoundsException", "row < height && column >= 0 && column < width;", "row < height && column >= 0 && column < MOST_COLUMNS;");
        fault(CALLS_1, "13: Throws IllegalArgumentException", "IllegalArgumentException(\"a cell is", "IndexOutOfBoundsException(\"a cell is");
    }

    /** Calls that change something and throw then. */
    private static void nothingChangedWeaving() {
        thrown(CALLS_1, "2: Throws IllegalArgumentException", "IllegalArgumentException(\"no such letter\")", "wordLength = 0;");
        thrown(CALLS_1, "2: Throws IllegalStateException", "IllegalStateException(\"the word is full\")", "wordLength--;");
        thrown(CALLS_1, "4: Throws IllegalArgumentException", "IllegalArgumentException(\"the width is out of its range\")", "wordLength = 0;");
        thrown(CALLS_1, "4: Throws IllegalStateException", "IllegalStateException(\"there are as many cartoons as there can be\")", "cartoons[4] = new Cartoon(width + 1);");
        thrown(CALLS_1, "5: Throws IllegalStateException", "IllegalStateException(\"the word is not as long as the cartoon is wide\")", "wordLength = 0;");
        thrown(CALLS_1, "5: or it has 10 rows", "IllegalStateException(\"the cartoon has as many rows as it can have\")", "wordLength = 0;");
        fault(CALLS_1, "6: Throws", "requireColour(second);", "drawn.hatchBetween(first, drawn.secondHatching);\n        requireColour(second);");
        thrown(CALLS_1, "7: Throws IllegalArgumentException", "IllegalArgumentException(\"the fade is out of its range\")", "setAt(lots.fades, 0, 5);");
        thrown(CALLS_1, "7: Throws IllegalStateException", "IllegalStateException(\"there are as many lots as there can be\")", "setAt(lots.fades, 0, fade);");
        thrown(CALLS_1, "7: Throws IllegalStateException", "IllegalStateException(\"there are as many lots as there can be\")", "setAt(lots.threadsLeft, 19, threads);");
        thrown(CALLS_1, "10: Throws IllegalArgumentException", "IllegalArgumentException(\"the weavers are out of their range\")", "pieceCount++;");
        thrown(CALLS_1, "10: Throws IllegalStateException", "IllegalStateException(\"the cartoon has no row\")", "pieceCount++;");
        thrown(CALLS_1, "11: Throws IllegalStateException", "IllegalStateException(\"a neighbour has woven less\")", "woven.weaveRow(weaver, lots);");
        thrown(CALLS_1, "11: Throws IllegalStateException", "IllegalStateException(\"threads lack\")", "woven.weaveRow(weaver, lots);");
        thrown(CALLS_1, "11: Throws IndexOutOfBoundsException", "IndexOutOfBoundsException(\"no such weaver\")", "woven.weaveRow(0, lots);");
        thrown(CALLS_1, "12: Throws IllegalArgumentException", "IllegalArgumentException(\"a piece is nothing of that number\")", "asked.sewAhead(1);");
        thrown(CALLS_1, "13: Throws IllegalArgumentException", "IllegalArgumentException(\"a cell is nothing of that number\")", "asked.dim(row, column, 1);");
    }

    private static void thrown(String test, String sentence, String thrown, String ahead) {
        fault(test, sentence, "throw new " + thrown, ahead + "\n            throw new " + thrown);
    }

    private static void callsOfFragments() {
        fault(CALLS_2, "14: column: the second one of both", "sewn.hasSlitAhead(column);\n        sewn.sewAhead(column);",
                "sewn.hasSlitAhead(column);\n        sewn.sewAhead(column);\n        sewn.sewAhead(column - 1);");
        fault(CALLS_2, "14: column: the second one of both", "sewn.sewAhead(column);", "sewn.sewAhead(column - 1);");
        fault(CALLS_2, "14: Returns", "return hadSlit;", "return !hadSlit;");
        fault(CALLS_2, "14: Returns", "return hadSlit;", "return true;");
        fault(CALLS_2, "14: Throws IndexOutOfBoundsException", "column < 1 || column >= piece.width()", "column < 0 || column >= piece.width()");
        fault(CALLS_2, "14: Throws IllegalStateException", "requireDone(sewn);", "");
        fault(CALLS_2, "15: hours: 1 to 9999", "MOST_HOURS = 9999;", "MOST_HOURS = 9998;");
        fault(CALLS_2, "15: hours: 1 to 9999", "hours < 1", "hours < 2");
        fault(CALLS_2, "15: Returns", "return lit.sumOfShades();", "return lit.sumOfShades() - 1;");
        fault(CALLS_2, "15: Throws IndexOutOfBoundsException", "Piece lit = pieceNumbered(piece);\n        if (hours",
                "Piece lit = hours < 1 ? null : pieceNumbered(piece);\n        if (hours");
        fault(CALLS_2, "15: Throws IllegalArgumentException", "MOST_HOURS = 9999;", "MOST_HOURS = 10000;");
        fault(CALLS_2, "15: Throws IllegalArgumentException", "hours < 1", "hours < 0");
        fault(CALLS_2, "15: Throws IllegalStateException", "requireDone(lit);", "");
        fault(CALLS_2, "16: Returns", "return washed.sumOfShades();", "return 5 * washed.countWoven();");
        fault(CALLS_2, "16: Throws IndexOutOfBoundsException", "pieces[number] = null;", "");
        fault(CALLS_2, "16: Throws IllegalStateException", "requireDone(washed);", "");
        fault(CALLS_2, "17: column: the first one of the new piece", "part.append(whole, column);\n        whole.keepAhead(column);",
                "part.append(whole, column - 1);\n        whole.keepAhead(column - 1);");
        fault(CALLS_2, "17: Returns", "return keepPiece(part);", "return keepPiece(part) - 1;");
        fault(CALLS_2, "17: Throws IndexOutOfBoundsException", "column < 1 || column >= piece.width()", "column < 1 || column > piece.width()");
        fault(CALLS_2, "17: Throws IllegalStateException", "requireDone(whole);", "");
        fault(CALLS_2, "17: Throws IllegalStateException", "requireRoomForPiece();\n        Piece part", "Piece part");
        fault(CALLS_2, "18: Returns how many", "return NONE;\n        }\n        return first.countMatching", "return 0;\n        }\n        return first.countMatching");
        fault(CALLS_2, "18: Returns how many", "if (first.height() != second.height()) {\n            return", "if (first.height() > second.height()) {\n            return");
        fault(CALLS_2, "18: Returns the match", "return first.countMatching(second);", "first.sewAhead(1);\n        return first.countMatching(second);");
        for (String promise : new String[] {"18", "19"}) {
            fault(CALLS_2, promise + ": Throws IndexOutOfBoundsException", "IndexOutOfBoundsException(\"no such piece\")", "IllegalArgumentException()");
            fault(CALLS_2, promise + ": Throws IllegalArgumentException", "if (piece == other) {", "if (false) {");
            fault(CALLS_2, promise + ": Throws IllegalArgumentException", "if (piece == other) {", "requireDone(first);\n        if (piece == other) {");
            fault(CALLS_2, promise + ": Throws IllegalStateException if one", "requireDone(first);", "");
            fault(CALLS_2, promise + ": Throws IllegalStateException if one", "requireDone(second);", "");
        }
        fault(CALLS_2, "19: Returns", "return first.isTrueAhead(joint);", "return first.isAllTrue() || joint == 4;");
        fault(CALLS_2, "19: Returns", "return first.isTrueAhead(joint);", "return true;");
        fault(CALLS_2, "19: Throws IllegalStateException if they cannot", "if (first.height() != second.height()) {\n            throw", "if (false) {\n            throw");
        fault(CALLS_2, "19: Throws IllegalStateException if they cannot", "second.width() > MOST_COLUMNS", "second.width() > MOST_COLUMNS + 1");
        fault(CALLS_2, "19: Joins two pieces", "int joint = first.width();", "requireRoomForPiece();\n        int joint = first.width();");
        fault(CALLS_2, "20: Tells", "boolean isAllTrue() {\n", "boolean isAllTrue() {\n            if (!isDone()) {\n                return false;\n            }\n");
        fault(CALLS_2, "20: Tells", "boolean isAllTrue() {\n", "boolean isAllTrue() {\n            if (weavers == 0) {\n                return true;\n            }\n");
        fault(CALLS_2, "20: Throws", "return pieceNumbered(piece).isAllTrue();", "return piece == 3 || pieceNumbered(piece).isAllTrue();");
        fault(CALLS_2, "21: Returns", "asked.height() != drawn.height() || ", "");
        fault(CALLS_2, "21: Returns", " || asked.width() != drawn.width()", "");
        fault(CALLS_2, "21: Throws", "Cartoon drawn = cartoonNumbered(cartoon);\n        if (asked", "Cartoon drawn = cartoonNumbered(Math.max(0, cartoon));\n        if (asked");
        fault(CALLS_2, "22: Tells", "!= lots.threadsGivenBy(lot)", "> 80 + lots.threadsGivenBy(lot) || lots.threadsGivenBy(lot) > 80");
        fault(CALLS_2, "22: Tells", "dropPiece(other);", "dropPiece(other);\n        pieces[0] = first;");
        fault(CALLS_2, "22: of each lot", "setAt(threads, lot, valueAt(threads, lot) + 1);", "setAt(threads, Math.min(18, lot), valueAt(threads, lot) + 1);");
    }

    /** Calls that change something and throw then. */
    private static void nothingChangedFragments() {
        fault(CALLS_2, "14: Throws IllegalStateException", "requireDone(sewn);", "sewn.sewAhead(column);\n        requireDone(sewn);");
        thrown(CALLS_2, "15: Throws IllegalArgumentException", "IllegalArgumentException(\"the hours are out of their range\")", "lit.dim(0, 0, 1);");
        fault(CALLS_2, "15: Throws IllegalStateException", "requireDone(lit);", "lit.fade(hours, lots);\n        requireDone(lit);");
        fault(CALLS_2, "16: Throws IllegalStateException", "requireDone(washed);", "washed.bleed(lots);\n        requireDone(washed);");
        fault(CALLS_2, "17: Throws IllegalStateException", "requireDone(whole);", "whole.keepAhead(column);\n        requireDone(whole);");
        fault(CALLS_2, "17: Throws IllegalStateException", "requireRoomForPiece();\n        Piece part", "whole.keepAhead(column);\n        requireRoomForPiece();\n        Piece part");
        thrown(CALLS_2, "17: Throws IndexOutOfBoundsException", "IndexOutOfBoundsException(\"no such column behind another one\")", "piece.keepAhead(1);");
        thrown(CALLS_2, "19: Throws IllegalArgumentException", "IllegalArgumentException(\"both pieces are the same\")", "first.sewAhead(1);");
        thrown(CALLS_2, "19: Throws IllegalStateException if they cannot", "IllegalStateException(\"the pieces have not as many rows\")", "dropPiece(other);");
        thrown(CALLS_2, "19: Throws IllegalStateException if they cannot", "IllegalStateException(\"the pieces have too many columns together\")", "dropPiece(other);");
        fault(CALLS_2, "19: Throws IllegalStateException if one", "requireDone(second);", "first.append(second, 0);\n        requireDone(second);");
    }
}
