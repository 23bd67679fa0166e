import java.lang.reflect.Method;
import java.nio.charset.StandardCharsets;
import java.util.ArrayList;
import java.util.Arrays;
import java.util.Comparator;
import java.util.List;
import java.util.Random;

/** All promises: runs of drawn calls (the same ones each time), each answer against the slow Model's. */
public final class ModelTest {
    private static final int RUNS = 500;
    private static final int DRAWS = 250;
    // an object is used for at most 512 calls, and one draw may write two texts
    private static final int MOST_CALLS = 440;

    private final Random random;
    private final EchoPaysRent program = new EchoPaysRent();
    private final Model model = new Model();
    private final List<Method> methods = new ArrayList<>();
    private final List<String> run = new ArrayList<>();
    private boolean wrong = false;

    private ModelTest(int seed) {
        random = new Random(seed);
        for (Method method : Model.class.getDeclaredMethods()) {
            if (java.lang.reflect.Modifier.isPublic(method.getModifiers())) {
                methods.add(method);
            }
        }
        methods.sort(Comparator.comparing(Method::getName));
    }

    public static void main(String[] args) throws ReflectiveOperationException {
        int seeds = args.length > 0 ? Integer.parseInt(args[0]) : RUNS;
        for (int seed = 0; seed < seeds; seed++) {
            new ModelTest(seed).drawnRun();
        }
        Due.finish("ModelTest");
    }

    private void drawnRun() throws ReflectiveOperationException {
        for (int i = 0; i < DRAWS && run.size() < MOST_CALLS && !wrong; i++) {
            int kind = random.nextInt(100);
            if (i == 0 && kind > 10 || kind == 0) {
                tellText(goodText());
                call("lay");
            } else if (kind == 1) {
                tellText(random.nextInt(4) == 0 ? cutText() : spoiltText());
                call("fault");
            } else if (kind < 4) {
                trueEar();
            } else {
                Method method = methods.get(random.nextInt(methods.size()));
                // acts that empty all at once are rare, so that rich states come up
                boolean rare = List.of("lay", "wipe", "noTalk", "noEars").contains(method.getName());
                if (!rare || random.nextInt(6) == 0) {
                    call(method.getName(), draw(method));
                }
            }
        }
        Due.due("calls of one object: " + run.size(), run.size() <= 512 ? 1 : 0, 1);
    }

    private void call(String name, Object... args) throws ReflectiveOperationException {
        for (Method method : methods) {
            if (method.getName().equals(name)) {
                Method own = EchoPaysRent.class.getMethod(name, method.getParameterTypes());
                run.add(name + Arrays.toString(args));
                int got = (Integer) own.invoke(program, args);
                int want = (Integer) method.invoke(model, args);
                if (got != want) {
                    wrong = true;
                    System.out.println("the run: " + run);
                }
                Due.due(name + Arrays.toString(args), got, want);
            }
        }
    }

    private void tellText(String text) throws ReflectiveOperationException {
        if (random.nextInt(4) != 0) {
            call("wipe");
        }
        byte[] bytes = text.getBytes(StandardCharsets.ISO_8859_1);
        for (int start = 0; start < bytes.length; start += 8) {
            int n = Math.min(8, bytes.length - start);
            call("write", n, Due.packed(bytes, start, n));
        }
    }

    private String goodText() {
        List<String> items = new ArrayList<>();
        int cliffs = random.nextInt(5);
        int words = 1 + random.nextInt(8);
        // few beats and kinds in some texts, so that sounds meet
        int beats = random.nextBoolean() ? 31 : 6;
        int values = random.nextBoolean() ? 7 : 2;
        int weakest = random.nextBoolean() ? 1 : 40;
        for (int f = 0; f < cliffs; f++) {
            items.add("f" + random.nextInt(41) + "," + random.nextInt(10) + "," + random.nextInt(4) + ";");
        }
        for (int w = 0; w < words; w++) {
            int loud = weakest + random.nextInt(61 - weakest);
            items.add("w" + random.nextInt(beats) + "," + (1 + random.nextInt(values)) + "," + loud + ";");
        }
        for (int i = random.nextInt(3); i > 0; i--) {
            items.add("s" + random.nextInt(41) + ";");
            items.add("h" + random.nextInt(41) + ";");
        }
        if (random.nextBoolean()) {
            items.add("a" + (1 + random.nextInt(random.nextBoolean() ? 9 : 2)) + ";");
        }
        java.util.Collections.shuffle(items, random);
        return String.join("", items);
    }

    private String spoiltText() {
        StringBuilder text = new StringBuilder(goodText());
        for (int i = random.nextInt(3); i >= 0; i--) {
            int place = random.nextInt(text.length());
            char sign = random.nextBoolean() ? "fwsha0123456789,;".charAt(random.nextInt(17)) : (char) random.nextInt(256);
            switch (random.nextInt(3)) {
                case 0 -> text.setCharAt(place, sign);
                case 1 -> text.insert(place, sign);
                default -> text.deleteCharAt(place);
            }
            if (text.length() == 0) {
                text.append(sign);
            }
        }
        return text.toString();
    }

    /** A good text, cut, where the whole one stood before: what was wiped does not mend it. */
    private String cutText() throws ReflectiveOperationException {
        String text = goodText();
        call("wipe");
        tellText(text);
        call("wipe");
        return text.substring(0, random.nextInt(text.length()));
    }

    /** EARS that hear what is heard, so that more than nothing is found by them. */
    private void trueEar() throws ReflectiveOperationException {
        if (random.nextInt(4) == 0) {
            call("noEars");
        }
        int y = random.nextInt(41);
        int b = random.nextInt(60);
        call("ear", y, b, model.heard(y, b));
    }

    private Object[] draw(Method method) {
        Class<?>[] types = method.getParameterTypes();
        Object[] args = new Object[types.length];
        int[] most = mostOf(method.getName());
        for (int i = 0; i < args.length; i++) {
            if (types[i] == long.class) {
                args[i] = random.nextLong();
            } else if (random.nextInt(25) == 0) {
                int[] odd = {-1, -2, most[i] + 1, most[i] + 2, Integer.MIN_VALUE, Integer.MAX_VALUE, 0};
                args[i] = odd[random.nextInt(odd.length)];
            } else {
                args[i] = random.nextInt(most[i] + 1);
            }
        }
        return args;
    }

    /** The highest number that each argument is drawn up to; a little beyond what is good for some. */
    private static int[] mostOf(String name) {
        return switch (name) {
            case "write" -> new int[] {8, 0};
            case "face" -> new int[] {4, 3};
            case "word" -> new int[] {8, 3};
            case "heard" -> new int[] {40, 149};
            case "clear", "second" -> new int[] {40};
            case "place" -> new int[] {3};
            case "go" -> new int[] {1, 40};
            case "snow" -> new int[] {15};
            case "say" -> new int[] {30, 7, 60};
            case "talk" -> new int[] {3};
            case "lines" -> new int[] {6};
            case "heckle" -> new int[] {40, 7, 1};
            case "ear" -> new int[] {40, 149, 8};
            case "stood" -> new int[] {1};
            case "evening" -> new int[] {9999};
            case "count" -> new int[] {9};
            default -> new int[0];
        };
    }
}
