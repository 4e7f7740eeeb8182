import java.lang.reflect.InvocationTargetException;
import java.lang.reflect.Method;
import java.lang.reflect.Modifier;
import java.util.Arrays;
import java.util.Comparator;
import java.util.List;

/** All promises: many evenings of calls, ordinary and wrong ones, each answered by the class as by the Model. */
public final class ModelTest {
    private static final Due DUE = new Due("ModelTest");
    private static final int EVENINGS = 1500;
    private static final int CALLS = 512;
    private static final int[] WILD = {Integer.MIN_VALUE, -1000001, -2, -1, 0, 1, 2, 3, 4, 5, 6, 7, 8, 9, 10, 12, 13,
        20, 21, 40, 41, 60, 61, 99, 100, 120, 121, 200, 201, 400, 401, 999, 1000, Integer.MAX_VALUE - 1,
        Integer.MAX_VALUE};
    private static final String[] PIECES = {"nut", "large", "small", "sweet", "raw", "wormed", "old", " roast ", " pan",
        " rim", " heap", ";", ";", ";", ";", "crowd ", " at ", " minute ", "heat ", "price ", "cold ", "5", "70", "1", "0",
        "400", "999", "1000", " ", "#", "nuts"};

    private static final List<String> DEAR =
            List.of("putOn", "takeOff", "price", "ready", "burnt", "heatFor", "two", "judge");
    private static final List<String> MAKING =
            List.of("batch", "put", "crowd", "change", "rule", "late", "hold", "sheet", "write");

    private static long z = 20261118;
    private static Method[] calls;

    public static void main(String[] args) throws ReflectiveOperationException {
        calls = Arrays.stream(ChestnutCorner.class.getDeclaredMethods())
                .filter(m -> Modifier.isPublic(m.getModifiers()))
                .sorted(Comparator.comparing(Method::getName)).toArray(Method[]::new);
        for (int i = 0; i < EVENINGS; i++) {
            evening(i);
        }
        DUE.end();
    }

    /** A number from 0 up to below n, the same ones in every run. */
    private static int draw(int n) {
        z = z * 6364136223846793005L + 1442695040888963407L;
        return (int) ((z >>> 33) % n);
    }

    private static void evening(int i) throws ReflectiveOperationException {
        ChestnutCorner x = new ChestnutCorner();
        Model model = new Model();
        boolean wild = i % 5 == 0;
        for (int n = 0; n < CALLS; n++) {
            if (draw(wild ? 60 : 40) == 0) {
                String text = draw(2) == 0 ? told() : jumble();
                if (n + text.length() < CALLS) {
                    n += feed(x, model, text);
                }
                continue;
            }
            Method call = pick(n);
            int[] a = new int[call.getParameterCount()];
            for (int j = 0; j < a.length; j++) {
                a[j] = wild && draw(3) > 0 || draw(40) == 0 ? WILD[draw(WILD.length)] : likely(call.getName(), j, a);
            }
            if (!asked(x, model, call, a, i)) {
                return;
            }
        }
    }

    /** Puts a call to both; false if the answers differ, since all that follows would, too. */
    private static boolean asked(ChestnutCorner x, Model model, Method call, int[] a, int evening)
            throws ReflectiveOperationException {
        Integer[] boxed = Arrays.stream(a).boxed().toArray(Integer[]::new);
        int want = model.answer(call.getName(), a);
        int got;
        try {
            got = (Integer) call.invoke(x, (Object[]) boxed);
        } catch (InvocationTargetException e) {
            System.out.println("evening " + evening + ": " + call.getName() + Arrays.toString(a) + " threw "
                    + e.getCause());
            DUE.holds("no call throws", false);
            return false;
        }
        DUE.is("evening " + evening + ": " + call.getName() + Arrays.toString(a), got, want);
        return got == want;
    }

    /** At first mostly what makes an evening; asking plays every plan through, so it is rarer. */
    private static Method pick(int n) {
        Method call = calls[draw(calls.length)];
        boolean rare = DEAR.contains(call.getName()) && draw(4) > 0
                || n < 60 && !MAKING.contains(call.getName()) && draw(3) > 0;
        return rare ? pick(n) : call;
    }

    private static int likely(String call, int j, int[] a) {
        switch (call + j) {
            case "batch0": case "kind0": case "as1": return draw(7);
            case "of0": case "change0": case "put0": case "heats0": case "how0": case "ready0": case "burnt0":
            case "putOn0": case "takeOff0": case "kindFor0": case "heatFor0": case "hold1": return draw(10);
            case "of1": return draw(8);
            case "change1": return draw(4);
            case "change2": return a[1] == 0 ? draw(7) : a[1] == 1 ? draw(10) : a[1] == 2 ? draw(190) : draw(30);
            case "put1": return draw(12) == 0 ? 4 : 1 + draw(3);
            case "heats1": return draw(21);
            case "shovel0": return 1 + draw(9);
            case "rule0": return draw(3);
            case "rule1": return a[0] == 1 ? draw(draw(2) == 0 ? 10 : 100) : a[0] == 2 ? draw(10) : draw(21);
            case "walk0": case "crowd0": return draw(4);
            case "crowd1": return draw(60) + (draw(3) == 0 ? draw(400) : 0);
            case "crowd2": return draw(draw(2) == 0 ? 20 : 401);
            case "crowdOf0": case "late0": case "brings0": return draw(12);
            case "crowdOf1": return draw(4);
            case "late1": return 1 + draw(2);
            case "late2": return draw(60);
            case "minutes0": return 1 + draw(draw(9) == 0 ? 120 : 8);
            case "putOn1": return draw(150);
            case "two0": return 1 + draw(20);
            case "two1": return a[0] + 1 + draw(40);
            case "takeOff1": case "corner0": case "shovels0": case "price0": case "kindFor1": case "heatFor1":
            case "brings1": case "best0": case "left0": return 1 + draw(draw(9) == 0 ? 120 : 40);
            case "ahead0": return draw(draw(9) == 0 ? 201 : 40);
            case "ahead1": return draw(16);
            case "boys0": return 1 + draw(12);
            case "feed1": return 1 + draw(4);
            case "hold0": case "as0": return draw(10);
            case "sheet0": case "write0": case "copy0": case "copy2": case "load0": case "judge0": return draw(4);
            case "sheet1": return draw(8) == 0 ? 0 : 8 << draw(3);
            case "sheet2": return draw(draw(2) == 0 ? 5 : 41);
            case "write1": case "copy1": case "copy3": return draw(6);
            case "write2": return draw(4) == 0 ? WILD[draw(WILD.length)] : draw(11);
            case "copy4": return draw(5);
            case "status0": return draw(8) - 1;
            default: return draw(9);
        }
    }

    private static int feed(ChestnutCorner x, Model model, String text) {
        for (int i = 0; i < text.length(); i++) {
            DUE.is("feed", x.feed(text.charAt(i), 1), model.answer("feed", text.charAt(i), 1));
        }
        DUE.is("text of \"" + text + "\"", x.text(), model.answer("text"));
        return text.length();
    }

    private static String jumble() {
        StringBuilder text = new StringBuilder();
        for (int n = draw(9); n >= 0; n--) {
            text.append(PIECES[draw(PIECES.length)]);
        }
        return text.toString();
    }

    private static String told() {
        StringBuilder text = new StringBuilder();
        for (int n = draw(3); n >= 0; n--) {
            switch (draw(4)) {
                case 0:
                    text.append("crowd ").append(draw(402)).append(" at ").append(draw(4)).append("minute")
                            .append(draw(80));
                    break;
                case 1:
                    text.append(PIECES[18 + draw(3)]).append(draw(12));
                    break;
                default:
                    text.append(PIECES[draw(7)]);
                    text.append(draw(2) == 0 ? "" : " roast" + draw(150));
                    text.append(draw(2) == 0 ? "" : PIECES[8 + draw(3)]);
                    break;
            }
            text.append(n > 0 ? ";" : "");
        }
        return text.toString();
    }
}
