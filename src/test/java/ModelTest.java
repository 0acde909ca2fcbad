/** Long runs of calls, the same on the program and on the model, of all promises mixed. */
public final class ModelTest {
    private static final Check CHECK = new Check();
    private static final int RUNS = 3000;
    private static final int CALLS = 512;
    private static final int[] EXTREMES = {-1, -2, 24, 6, 1000, 10000, Integer.MIN_VALUE, Integer.MAX_VALUE};
    private static final int KINDS = 21;

    private long seed;
    private final WeftHouse house = new WeftHouse();
    private final Model model = new Model();
    private final int[] refused = new int[KINDS];
    private final int[] answered = new int[KINDS];
    private int calls = 0;
    private int pieces = 0;
    private boolean isRight = true;

    /** A call of either. */
    private interface Answer {
        long get();
    }

    private ModelTest(int run) {
        seed = run * 7919L + 17;
    }

    public static void main(String[] arguments) {
        int[] refused = new int[KINDS];
        int[] answered = new int[KINDS];
        for (int run = 0; run < RUNS; run++) {
            ModelTest test = new ModelTest(run);
            test.play(run);
            for (int kind = 0; kind < KINDS; kind++) {
                refused[kind] += test.refused[kind];
                answered[kind] += test.answered[kind];
            }
        }
        for (int kind = 0; kind < KINDS; kind++) {
            boolean neverRefuses = kind == 1 || kind == 7 || kind == 20;
            CHECK.due("kind " + kind + " was refused often enough", refused[kind] > 500, !neverRefuses);
            CHECK.due("kind " + kind + " was answered often enough", answered[kind] > 1500, true);
        }
        CHECK.finish();
    }

    /** A number from 0 on below an end, the same ones in each run of the tests. */
    private int any(int end) {
        seed = seed * 6364136223846793005L + 1442695040888963407L;
        return (int) Math.floorMod(seed >>> 33, (long) end);
    }

    /** Mostly a number from 0 on below an end, now and then one far off. */
    private int mostly(int end) {
        return any(30) == 0 ? EXTREMES[any(EXTREMES.length)] : any(end);
    }

    private boolean coin() {
        return any(2) == 0;
    }

    private void play(int run) {
        int rows = 1 + any(4) + (any(8) == 0 ? 6 : 0);
        int width = 2 + any(run % 4 == 0 ? 11 : 4);
        drawMany(rows, width);
        dyeMany();
        weaveMany(rows);
        while (calls < CALLS && isRight) {
            int act = any(30);
            if (act == 0) {
                weaveMany(rows);
            } else if (act == 1) {
                draw(rows, width);
            } else {
                call(anyKind());
            }
        }
    }

    /** Begins a few pieces and weaves them, most of them to their end. */
    private void weaveMany(int rows) {
        int looms = 1 + any(3);
        for (int loom = 0; loom < looms; loom++) {
            int weavers = 1 + any(coin() ? 1 : 4);
            int piece = pieces;
            loom(any(3), weavers, coin());
            for (int step = 0; step < rows * weavers; step++) {
                weave(piece, any(20) == 0 ? any(4) : step % weavers);
            }
        }
    }

    private void loom(int cartoon, int weavers, boolean isMirrored) {
        compare(8, "loom(" + cartoon + ", " + weavers + ", " + isMirrored + ")",
                () -> house.loom(cartoon, weavers, isMirrored), () -> model.loom(cartoon, weavers, isMirrored));
    }

    /** Mostly a piece that there was. */
    private int anyPiece() {
        return mostly(Math.min(20, Math.max(1, pieces)));
    }

    /** Fragments more often than the rest. */
    private int anyKind() {
        return coin() ? any(KINDS) : 10 + any(11);
    }

    private void drawMany(int rows, int width) {
        int cartoons = 1 + any(4);
        for (int cartoon = 0; cartoon < cartoons; cartoon++) {
            int wide = any(3) == 0 ? 2 + any(5) : width;
            compare(2, "cartoon(" + wide + ")", () -> house.cartoon(wide), () -> model.cartoon(wide));
            for (int row = 0; row < rows; row++) {
                typeRow(wide);
                int number = cartoon;
                compare(3, "row(" + number + ")", () -> house.row(number), () -> model.row(number));
            }
        }
    }

    private void draw(int rows, int width) {
        typeRow(width);
        call(3);
        call(4);
        call(9);
    }

    private void typeRow(int width) {
        compare(1, "empty()", () -> house.empty(), () -> model.empty());
        String letters = any(3) == 0 ? "RBYGWZX" : "RBX";
        for (int at = 0; at < width; at++) {
            type(letters.charAt(any(letters.length())));
        }
    }

    private void type(char letter) {
        compare(0, "type(" + (int) letter + ")", () -> house.type(letter), () -> model.type(letter));
    }

    private void dyeMany() {
        int lots = 2 + any(12);
        for (int lot = 0; lot < lots; lot++) {
            dye(lot < 6 ? lot : any(6), 1 + any(coin() ? 40 : 999), any(10), any(3) == 0);
        }
    }

    private void dye(int colour, int threads, int fade, boolean bleeds) {
        compare(5, "dye(" + colour + ", " + threads + ", " + fade + ", " + bleeds + ")",
                () -> house.dye(colour, threads, fade, bleeds), () -> model.dye(colour, threads, fade, bleeds));
    }

    private void weave(int piece, int weaver) {
        compare(9, "weave(" + piece + ", " + weaver + ")", () -> house.weave(piece, weaver),
                () -> model.weave(piece, weaver));
    }

    private void call(int kind) {
        if (kind < 10) {
            callOfMaking(kind);
        } else {
            callOfPieces(kind);
        }
    }

    private void callOfMaking(int kind) {
        int a = mostly(kind == 4 || kind == 3 || kind == 8 ? 5 : 20);
        int b = mostly(5);
        int c = mostly(6);
        boolean flag = coin();
        switch (kind) {
            case 0 -> type((char) (any(4) == 0 ? any(128) : "RBYGWZX".charAt(any(7))));
            case 1 -> compare(1, "empty()", () -> house.empty(), () -> model.empty());
            case 2 -> compare(2, "cartoon(" + a + ")", () -> house.cartoon(a), () -> model.cartoon(a));
            case 3 -> compare(3, "row(" + a + ")", () -> house.row(a), () -> model.row(a));
            case 4 -> compare(4, "hatch(" + a + ", " + b + ", " + c + ")", () -> hatched(() -> house.hatch(a, b, c)),
                    () -> hatched(() -> model.hatch(a, b, c)));
            case 5 -> dye(mostly(6), mostly(60), mostly(11), flag);
            case 6 -> compare(6, "left(" + a + ")", () -> house.left(a), () -> model.left(a));
            case 7 -> compare(7, "gold()", () -> house.gold(), () -> model.gold());
            case 8 -> loom(a, b, flag);
            default -> weave(anyPiece(), b);
        }
    }

    private static long hatched(Runnable call) {
        call.run();
        return 0;
    }

    private void callOfPieces(int kind) {
        int a = anyPiece();
        int b = kind == 16 || kind == 17 ? anyPiece() : mostly(kind == 19 ? 5 : kind == 10 ? 7 : 6);
        int c = mostly(12);
        int d = mostly(4);
        int hours = any(3) == 0 ? mostly(10001) : mostly(300);
        String pair = "(" + a + ", " + b + ")";
        switch (kind) {
            case 10 -> compare(10, "pieceIs" + pair, () -> house.pieceIs(a, b), () -> model.pieceIs(a, b));
            case 11 -> compare(11, "cell(" + a + ", " + b + ", " + c + ", " + d + ")", () -> house.cell(a, b, c, d),
                    () -> model.cell(a, b, c, d));
            case 12 -> compare(12, "sew" + pair, () -> bit(house.sew(a, b)), () -> bit(model.sew(a, b)));
            case 13 -> compare(13, "light(" + a + ", " + hours + ")", () -> house.light(a, hours),
                    () -> model.light(a, hours));
            case 14 -> compare(14, "wash(" + a + ")", () -> house.wash(a), () -> model.wash(a));
            case 15 -> compare(15, "cut" + pair, () -> house.cut(a, b), () -> model.cut(a, b));
            case 16 -> compare(16, "match" + pair, () -> house.match(a, b), () -> model.match(a, b));
            case 17 -> compare(17, "join" + pair, () -> bit(house.join(a, b)), () -> bit(model.join(a, b)));
            case 18 -> compare(18, "isTrue(" + a + ")", () -> bit(house.isTrue(a)), () -> bit(model.isTrue(a)));
            case 19 -> compare(19, "likeness" + pair, () -> house.likeness(a, b), () -> model.likeness(a, b));
            default -> compare(20, "balances()", () -> bit(house.balances()), () -> bit(model.balances()));
        }
    }

    private static long bit(boolean answer) {
        return answer ? 1 : 0;
    }

    private void compare(int kind, String what, Answer ours, Answer theirs) {
        if (calls >= CALLS || !isRight) {
            return;
        }
        calls++;
        String got = answer(ours);
        String want = answer(theirs);
        CHECK.due("call " + calls + ", seed " + seed + ": " + what, got, want);
        isRight = got.equals(want);
        if (want.endsWith("Exception")) {
            refused[kind]++;
        } else {
            answered[kind]++;
            pieces += kind == 8 || kind == 15 ? 1 : 0;
        }
    }

    private static String answer(Answer answer) {
        try {
            return Long.toString(answer.get());
        } catch (RuntimeException e) {
            return e.getClass().getSimpleName();
        }
    }
}
