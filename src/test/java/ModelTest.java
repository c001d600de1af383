import java.lang.reflect.InvocationTargetException;
import java.lang.reflect.Method;
import java.util.ArrayList;
import java.util.Arrays;
import java.util.Comparator;
import java.util.List;
import java.util.Random;

/** Runs of 512 calls, each answered by PledgeHouse and by PlainHouse, which must not differ. */
public final class ModelTest {
    private static final int RUNS = 200;
    private static final int CALLS = 512;
    /** What leads to calls and sales stands here more than once, since other calls often undo it. */
    private static final List<String> CHANGES = List.of("setPrice", "setCut", "fall", "pledge", "pledge", "pledge",
            "release", "deposit", "withdraw", "lend", "lend", "lend", "lend", "payBack", "readmit", "pass", "pass", "pass",
            "pass", "changeRate", "changeGrace", "changeSlip", "turnOrder", "follow", "follow", "keep", "goBack", "undo",
            "clearBuffer", "append", "append");
    private static final List<String> RARE = List.of("undo", "goBack", "payBack", "changeGrace");

    private final Random dice;
    private final PledgeHouse house = new PledgeHouse();
    private final PlainHouse plain = new PlainHouse();
    private final List<String> told = new ArrayList<>();
    private boolean differs = false;

    private ModelTest(int seed) {
        dice = new Random(seed);
    }

    public static void main(String[] args) throws ReflectiveOperationException {
        Method[] methods = Arrays.stream(PledgeHouse.class.getDeclaredMethods())
                .filter(method -> java.lang.reflect.Modifier.isPublic(method.getModifiers()))
                .sorted(Comparator.comparing(Method::getName)).toArray(Method[]::new);
        int thrown = 0;
        int soldOut = 0;
        int lost = 0;
        for (int seed = 0; seed < RUNS; seed++) {
            ModelTest run = new ModelTest(seed);
            run.run(methods);
            if (run.differs) {
                System.out.println("ModelTest: run " + seed + " differs in its last call:");
                run.told.forEach(System.out::println);
                System.exit(1);
            }
            thrown += (int) run.told.stream().filter(line -> line.contains("Exception")).count();
            soldOut += run.house.soldOut();
            lost += run.house.lost() > 0 ? 1 : 0;
        }
        System.out.println("ModelTest: " + RUNS + " runs are alike, " + thrown + " calls threw, " + soldOut
                + " clients were sold out, in " + lost + " runs something was lost");
        if (soldOut == 0 || lost == 0 || thrown == 0) {
            System.exit(1);
        }
    }

    private void run(Method[] methods) throws ReflectiveOperationException {
        boolean calm = dice.nextBoolean();
        boolean onward = dice.nextInt(4) > 0;
        int called = 0;
        while (called < CALLS && !differs) {
            Method method = methods[dice.nextInt(methods.length)];
            if (dice.nextInt(10) < 6) {
                String name = CHANGES.get(dice.nextInt(CHANGES.size()));
                method = Arrays.stream(methods).filter(m -> m.getName().equals(name)).findFirst().orElseThrow();
            }
            if (calm && List.of("fall", "setPrice", "setCut").contains(method.getName()) && dice.nextInt(3) > 0) {
                continue;
            }
            if (onward && RARE.contains(method.getName()) && dice.nextInt(8) > 0) {
                continue;
            }
            if (method.getName().equals("append") && called + 45 < CALLS) {
                called += type(method);
                continue;
            }
            called++;
            both(method, arguments(method.getName(), method.getParameterCount()));
        }
    }

    private int type(Method append) throws ReflectiveOperationException {
        if (dice.nextInt(4) > 0) {
            both(PledgeHouse.class.getMethod("clearBuffer"), new Object[0]);
        }
        String text = text();
        for (char sign : text.toCharArray()) {
            both(append, new Object[] {(int) sign});
        }
        return text.length() + 1;
    }

    private void both(Method method, Object[] arguments) throws ReflectiveOperationException {
        if (differs) {
            return;
        }
        String got = answer(house, method, arguments);
        Method same = PlainHouse.class.getMethod(method.getName(), method.getParameterTypes());
        String want = answer(plain, same, arguments);
        told.add(method.getName() + Arrays.toString(arguments) + " answered " + got + ", due is " + want);
        boolean alike = got.equals(want) && house.digest() == plain.digest();
        differs = !alike;
    }

    private static String answer(Object on, Method method, Object[] arguments) throws ReflectiveOperationException {
        try {
            return String.valueOf(method.invoke(on, arguments));
        } catch (InvocationTargetException thrown) {
            boolean index = thrown.getCause() instanceof IndexOutOfBoundsException;
            return index ? IndexOutOfBoundsException.class.getName() : thrown.getCause().getClass().getName();
        }
    }

    private Object[] arguments(String name, int count) {
        Object[] arguments = new Object[count];
        int client = client();
        for (int place = 0; place < count; place++) {
            arguments[place] = place == 0 ? client : dice.nextInt(6);
        }
        int last = count - 1;
        switch (name) {
            case "setPrice" -> arguments[last] = among(1, 500);
            case "setCut" -> arguments[last] = among(0, 90);
            case "fall", "calledIfFallen" -> arguments[last] = dice.nextBoolean() ? among(1, 90) : among(1, 9);
            case "pledge", "release" -> arguments[last] = dice.nextBoolean() ? among(1, 50) : among(1, 5);
            case "deposit", "withdraw" -> arguments[last] = coins(client, house.roomOf(client & 7));
            case "lend" -> arguments[last] = coins(client, house.roomOf(client & 7));
            case "payBack" -> arguments[last] = coins(client, house.debtOf(client & 7));
            case "pass" -> arguments[last] = dice.nextInt(4) == 0 ? among(1, 100) : among(1, 7);
            case "changeRate" -> arguments[last] = among(0, 100);
            case "changeGrace" -> arguments[last] = among(1, 24);
            case "changeSlip" -> arguments[last] = among(0, 50);
            case "keep", "goBack" -> arguments[last] = among(0, 1);
            case "append" -> arguments[last] = among(33, 126);
            case "priceOf", "cutOf", "pledgedOf", "soldOf" -> arguments[last] = among(0, 5);
            default -> {
            }
        }
        if (count > 1 && dice.nextInt(40) == 0) {
            arguments[0] = dice.nextBoolean() ? -1 : 8;
        }
        if (count == 3 && dice.nextInt(40) == 0) {
            arguments[1] = dice.nextBoolean() ? -1 : 6;
        }
        if (count == 2 && (name.equals("setPrice") || name.equals("setCut"))) {
            arguments[0] = among(0, 5);
        }
        return arguments;
    }

    private int client() {
        return dice.nextInt(30) == 0 ? (dice.nextBoolean() ? -1 : 8) : dice.nextInt(8);
    }

    /** Often all that is there, or one more: that is where answers turn. */
    private int coins(int client, int edge) {
        int choice = dice.nextInt(5);
        if (choice < 2) {
            return edge + choice;
        }
        return choice == 2 ? edge / 2 : among(1, 9999);
    }

    private int among(int least, int most) {
        if (dice.nextInt(20) == 0) {
            return dice.nextBoolean() ? least - 1 : most + 1;
        }
        return dice.nextInt(12) == 0 ? (dice.nextBoolean() ? least : most) : least + dice.nextInt(most - least + 1);
    }

    private String text() {
        StringBuilder text = new StringBuilder();
        int parts = 1 + dice.nextInt(5);
        for (int part = 0; part < parts; part++) {
            text.append(part == 0 ? "" : ";").append(part());
        }
        if (dice.nextInt(4) == 0) {
            text.setCharAt(dice.nextInt(text.length()), "0123456789;=:*+-pclbhx".charAt(dice.nextInt(22)));
        }
        return text.length() > 40 ? text.substring(0, 40) : text.toString();
    }

    private String part() {
        int client = dice.nextInt(25) == 0 ? 8 : dice.nextInt(8);
        int kind = dice.nextInt(25) == 0 ? 6 : dice.nextInt(6);
        return switch (dice.nextInt(7)) {
            case 0 -> "p" + kind + "=" + among(1, 500);
            case 1 -> "c" + kind + "=" + among(0, 90);
            case 2 -> "+" + client + ":" + kind + "*" + among(1, 50);
            case 3 -> "-" + client + ":" + kind + "*" + among(1, 50);
            case 4 -> "l" + client + "=" + coins(client, house.roomOf(client & 7));
            case 5 -> "b" + client + "=" + coins(client, house.debtOf(client & 7));
            default -> "h" + (dice.nextBoolean() ? among(1, 100) : among(1, 9));
        };
    }
}
