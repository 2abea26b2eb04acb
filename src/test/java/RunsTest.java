import java.util.Arrays;
import java.util.Map;
import java.util.Random;
import java.util.TreeMap;

/** All promises: long runs of chosen calls, each answer (or exception) compared with the Model's. */
public final class RunsTest {
    private static final int RUNS = 2000;
    private static final int CALLS = 512;
    private static final String[] NAMES = {
        "setRoles", "setDeputy", "open", "hang", "setInterval", "draft", "change", "drop", "reviewer", "reader",
        "review", "answer", "approve", "confirm", "pass", "look", "isDue", "copy", "takeDown", "outOfDate", "day",
        "step", "inForce", "text", "inForceOn", "since", "waitsFor"};
    private static final String[] OFTEN = {
        "draft", "reviewer", "reviewer", "review", "review", "review", "answer", "answer", "approve", "approve",
        "confirm", "confirm", "pass", "step", "waitsFor", "isDue"};
    private static final int[] WILD = {
        -1, -2, 6, 8, 10, 30, 31, 50, 51, 101, 128, 512, 1000, 1001, 9999, 10000, Integer.MIN_VALUE, Integer.MAX_VALUE};

    public static void main(String[] args) {
        Map<String, Integer> seen = new TreeMap<>();
        for (int run = 0; run < RUNS; run++) {
            oneRun(run, seen);
        }
        for (String name : NAMES) {
            Expect.same(name + " was answered", seen.containsKey(name + " answers"), true);
        }
        if (args.length > 0) {
            System.out.println(seen);
        }
        Expect.close("RunsTest");
    }

    private static void oneRun(int run, Map<String, Integer> seen) {
        Random random = new Random(run);
        Model model = new Model();
        PaperKeeper keeper = new PaperKeeper();
        int papers = random.nextInt(9);
        boolean easy = run % 2 == 0;
        for (int call = 0; call < CALLS; call++) {
            String name = nameOf(random, call, papers, easy);
            int[] a = argumentsOf(random, name, model, papers, easy);
            if (call > papers + 6 && papers > 0 && random.nextInt(5) < 3) {
                int paper = random.nextInt(Math.min(papers, 3));
                name = nextCall(random, model, paper);
                a = nextArguments(random, name, model, paper);
            }
            String due = model.answer(name, a);
            String got = answerOf(keeper, name, a);
            seen.merge(name + (due.endsWith("Exception") ? " throws" : " answers"), 1, Integer::sum);
            Expect.same("run " + run + ", call " + call + ": " + name + Arrays.toString(a), got, due);
            if (!got.equals(due)) {
                return;
            }
        }
    }

    private static String nameOf(Random random, int call, int papers, boolean easy) {
        if (call < papers) {
            return "open";
        }
        if (easy && call < papers + 6) {
            return "setRoles";
        }
        return random.nextInt(3) > 0 ? OFTEN[random.nextInt(OFTEN.length)] : NAMES[random.nextInt(NAMES.length)];
    }

    private static int ask(Model model, String name, int paper) {
        return Integer.parseInt(model.answer(name, new int[] {paper}));
    }

    /** The call that brings the paper's draft on. */
    private static String nextCall(Random random, Model model, int paper) {
        switch (ask(model, "step", paper)) {
            case 0:
                return "draft";
            case 1:
                return random.nextInt(3) == 0 || ask(model, "waitsFor", paper) < 0 ? "reviewer" : "review";
            case 2:
                return "answer";
            case 3:
                return random.nextInt(3) == 0 ? "reader" : "approve";
            case 4:
                return random.nextInt(4) == 0 ? "pass" : "confirm";
            default:
                return random.nextInt(4) == 0 ? "reader" : "pass";
        }
    }

    private static int[] nextArguments(Random random, String name, Model model, int paper) {
        int today = ask(model, "day", 0);
        int next = ask(model, "waitsFor", paper);
        int person = random.nextInt(4) == 0 || next < 0 ? random.nextInt(6) : next;
        switch (name) {
            case "draft":
                return new int[] {paper, person, random.nextInt(4)};
            case "review":
                return new int[] {paper, person, random.nextInt(4) == 0 ? 1 : 0};
            case "answer":
                return new int[] {paper, random.nextInt(3)};
            case "approve":
                return new int[] {paper, person, Math.min(1000, today + 1 + random.nextInt(4))};
            case "pass":
                return new int[] {1 + random.nextInt(3)};
            default:
                return new int[] {paper, person};
        }
    }

    private static int[] argumentsOf(Random random, String name, Model model, int papers, boolean easy) {
        int paper = random.nextInt(Math.max(1, Math.min(papers, 1 + random.nextInt(4))));
        int person = random.nextInt(6);
        int today = Integer.parseInt(model.answer("day", new int[0]));
        int[] a = {paper, person, random.nextInt(2)};
        switch (name) {
            case "setRoles":
                int role = easy || random.nextBoolean() ? 1 : random.nextInt(2);
                a = new int[] {person, role, random.nextInt(4) > 0 ? role : 1 - role};
                break;
            case "setDeputy":
                a = new int[] {person, random.nextInt(7) - 1};
                break;
            case "open":
                a = new int[] {random.nextInt(2)};
                break;
            case "hang":
                a[1] = random.nextInt(8);
                break;
            case "setInterval":
                a = new int[] {random.nextInt(3) > 0 ? 1 + random.nextInt(12) : random.nextInt(102)};
                break;
            case "draft":
                a[2] = random.nextInt(10000);
                break;
            case "change":
                a[1] = random.nextInt(4);
                break;
            case "answer":
                a[1] = random.nextInt(4);
                break;
            case "approve":
                a[2] = today + random.nextInt(6);
                break;
            case "pass":
                a = new int[] {random.nextInt(8) == 0 ? random.nextInt(52) : 1 + random.nextInt(4)};
                break;
            case "copy":
                a[1] = random.nextInt(10);
                break;
            case "takeDown":
                a = new int[] {random.nextInt(random.nextInt(30) + 1)};
                break;
            case "inForceOn":
                a[1] = random.nextInt(today + 2);
                break;
            case "since":
                a[1] = random.nextInt(8);
                break;
            default:
                break;
        }
        if (random.nextInt(40) == 0) {
            int place = random.nextInt(2);
            boolean isFlag = name.equals("setRoles") && place > 0 || name.equals("open");
            if (!isFlag && place < a.length) {
                a[place] = WILD[random.nextInt(WILD.length)];
            }
        }
        return a;
    }

    private static String answerOf(PaperKeeper keeper, String name, int[] a) {
        try {
            return call(keeper, name, a);
        } catch (RuntimeException e) {
            return e.getClass().getSimpleName();
        }
    }

    private static String call(PaperKeeper x, String name, int[] a) {
        switch (name) {
            case "setRoles":
                x.setRoles(a[0], a[1] == 1, a[2] == 1);
                return "nothing";
            case "draft":
                x.draft(a[0], a[1], a[2]);
                return "nothing";
            case "approve":
                x.approve(a[0], a[1], a[2]);
                return "nothing";
            case "look":
                return x.look(a[0]) ? "1" : "0";
            case "isDue":
                return x.isDue(a[0]) ? "1" : "0";
            default:
                return "" + number(x, name, a);
        }
    }

    private static int number(PaperKeeper x, String name, int[] a) {
        switch (name) {
            case "setDeputy": return x.setDeputy(a[0], a[1]);
            case "open": return x.open(a[0] == 1);
            case "hang": return x.hang(a[0], a[1]);
            case "setInterval": return x.setInterval(a[0]);
            case "change": return x.change(a[0], a[1]);
            case "drop": return x.drop(a[0]);
            case "reviewer": return x.reviewer(a[0], a[1]);
            case "reader": return x.reader(a[0], a[1]);
            case "review": return x.review(a[0], a[1], a[2] == 1);
            case "answer": return x.answer(a[0], a[1]);
            case "confirm": return x.confirm(a[0], a[1]);
            case "pass": return x.pass(a[0]);
            case "copy": return x.copy(a[0], a[1]);
            case "takeDown": return x.takeDown(a[0]);
            case "outOfDate": return x.outOfDate(a[0]);
            case "day": return x.day();
            case "step": return x.step(a[0]);
            case "inForce": return x.inForce(a[0]);
            case "text": return x.text(a[0]);
            case "inForceOn": return x.inForceOn(a[0], a[1]);
            case "since": return x.since(a[0], a[1]);
            case "waitsFor": return x.waitsFor(a[0]);
            default: throw new AssertionError(name);
        }
    }
}
