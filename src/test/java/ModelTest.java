import java.util.List;
import java.util.Map;
import java.util.Random;
import java.util.TreeMap;

/** All promises: long runs of calls, the same ones each time, on CutSheets and on the Model, must answer alike. */
public final class ModelTest {
    private static final int RUNS = 1500;
    /** So many calls are left for the last of a run, which may read a full sheet twice. */
    private static final int LEFT = 140;
    /** The whole sheet is read after so many calls; after the others it is only asked how long it is. */
    private static final int WHOLE = 12;
    private static final String[] OUTCOMES = {
        "cut done IAE ISE UOE", "line done IAE ISE UOE", "spot done IAE ISE UOE", "start done ISE",
        "erase done IAE ISE UOE", "copy done IAE ISE UOE", "uncopy done IAE ISE UOE", "wrap done IAE ISE UOE",
        "unwrap done IAE ISE UOE", "join done IAE ISE UOE", "sever done IAE ISE UOE", "back done ISE",
        "depth done IAE", "tokens done IAE", "holds done IAE ISE", "refutes done IAE ISE", "count done IAE"};

    private static final Map<String, Integer> seen = new TreeMap<>();

    public static void main(String[] args) {
        for (int run = 0; run < RUNS; run++) {
            oneRun(run, new Random(run));
        }
        for (String row : OUTCOMES) {
            String[] words = row.split(" ");
            for (int i = 1; i < words.length; i++) {
                String outcome = words[0] + " " + words[i];
                Calls.due("ModelTest", outcome, seen.getOrDefault(outcome, 0) >= 5 ? "often" : "seldom", "often");
            }
        }
        Calls.end();
    }

    private static void oneRun(int run, Random random) {
        CutSheets x = new CutSheets();
        Model model = new Model();
        int drawing = random.nextInt(40);
        int used = 0;
        for (int i = 0; used <= Calls.MOST - LEFT; i++) {
            String call = i < drawing ? drawCall(model, random) : i == drawing ? "start" : anyCall(model, random);
            String look = i % WHOLE == 0 ? "tokens 0" : "read 0";
            String got = Calls.answer(x, call);
            String want = Calls.answer(model, call);
            String sheet = Calls.answer(x, look);
            Calls.due("run " + run + ", call " + i, call, got, want);
            Calls.due("run " + run + ", after call " + i, call, sheet, Calls.answer(model, look));
            note(call, want);
            used += Calls.cost(call, got) + Calls.cost(look, sheet);
            if (!got.equals(want)) {
                return;
            }
        }
    }

    private static void note(String call, String answer) {
        String method = call.split(" ")[0];
        seen.merge(method + " " + (Calls.isRefusal(answer) ? answer : "done"), 1, Integer::sum);
        if (method.equals("refutes") && !Calls.isRefusal(answer)) {
            Calls.due("ModelTest", "a sheet follows from the first one", answer, "-1");
        }
    }

    private static String drawCall(Model model, Random random) {
        return switch (random.nextInt(16)) {
            case 0, 1, 2, 3 -> "cut " + area(model, random);
            case 4, 5, 6 -> "line " + area(model, random);
            case 7, 8, 9, 10, 11 -> spotCall(model, random);
            default -> anyCall(model, random).replace("start", "count 0");
        };
    }

    /** Mostly a number that is taken, but now and then any one, or one just beyond the limits. */
    private static int number(Model model, Random random, int kind) {
        int limit = kind == 0 ? 12 : kind == 1 ? 13 : 6;
        List<Integer> taken = model.taken(kind);
        int dice = random.nextInt(40);
        if (dice < 2) {
            return dice == 0 ? limit : -1;
        }
        return dice < 6 || taken.isEmpty() ? random.nextInt(limit) : taken.get(random.nextInt(taken.size()));
    }

    private static int area(Model model, Random random) {
        return random.nextInt(4) == 0 ? 0 : number(model, random, 1);
    }

    private static String spotCall(Model model, Random random) {
        return "spot " + area(model, random) + " " + random.nextInt(random.nextInt(8) == 0 ? 5 : 4)
                + " " + number(model, random, 2) + " " + number(model, random, 2);
    }

    private static String partOf(Model model, Random random) {
        if (random.nextInt(20) == 0) {
            return (random.nextBoolean() ? 3 : -1) + " " + random.nextInt(3);
        }
        int kind = random.nextInt(2);
        return kind + " " + number(model, random, kind);
    }

    private static String anyCall(Model model, Random random) {
        return switch (random.nextInt(42)) {
            case 0, 1, 2 -> "cut " + area(model, random);
            case 3, 4, 5 -> "line " + area(model, random);
            case 6, 7, 8, 9 -> spotCall(model, random);
            case 10 -> "erase " + partOf(model, random);
            case 11 -> "erase 2 " + number(model, random, 2);
            case 12, 13, 14, 15, 16 -> "copy " + partOf(model, random) + " " + area(model, random);
            case 17, 18, 19, 20, 21 -> "uncopy " + partOf(model, random);
            case 22, 23 -> "wrap " + partOf(model, random);
            case 24 -> "wrap 2 " + area(model, random);
            case 25, 26, 27 -> "unwrap " + number(model, random, 1);
            case 28, 29, 30 -> "join " + number(model, random, 2) + " " + number(model, random, 2);
            case 31, 32 -> "sever " + number(model, random, 2) + " " + area(model, random);
            case 33 -> "back";
            case 34 -> spotCall(model, random);
            case 35 -> "line " + area(model, random);
            case 36 -> "depth " + area(model, random);
            case 37 -> "tokens " + area(model, random);
            case 38 -> "count " + (random.nextInt(6) - 1);
            case 39 -> random.nextInt(3) == 0 ? "refutes " + random.nextInt(4) : "tokens " + area(model, random);
            case 40 -> random.nextInt(8) == 0 ? "start" : "cut " + area(model, random);
            default -> "holds " + random.nextBoolean() + " " + random.nextInt(5) + " "
                    + (random.nextInt(16380) - random.nextInt(3) + random.nextInt(6));
        };
    }
}
