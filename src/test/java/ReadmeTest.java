import java.lang.reflect.Method;
import java.nio.file.Files;
import java.nio.file.Path;
import java.util.ArrayList;
import java.util.List;
import java.util.regex.Matcher;
import java.util.regex.Pattern;

/** The example of README.md: every call in it answers what its comment says, and puts the records told there. */
final class ReadmeTest {
    private static final Check CHECK = new Check();
    private static final Pattern EXAMPLE = Pattern.compile("(?s)```java\n(.*?)```");
    private static final Pattern CALL = Pattern.compile("house\\.(\\w+)\\(([^()]*)\\); +// ([-\\w]+)(.*)");
    private static final Pattern RECORD = Pattern.compile("record (\\d+)");

    public static void main(String[] args) throws Exception {
        Matcher example = EXAMPLE.matcher(Files.readString(Path.of("README.md")));
        CHECK.due("README.md has an example", example.find(), true);
        StationHouse house = new StationHouse();
        int calls = 0;
        for (String line : example.group(1).split("\n")) {
            Matcher call = CALL.matcher(line);
            if (call.matches()) {
                calls++;
                makeCall(house, call);
            } else {
                boolean isNoCall = line.isEmpty() || line.startsWith("//") || line.startsWith("StationHouse house =");
                CHECK.due("a line that is no call: " + line, isNoCall, true);
            }
        }
        CHECK.due("there are calls", calls > 0, true);
        CHECK.due("calls that an object serves", calls <= 512, true);
        CHECK.end();
    }

    private static void makeCall(StationHouse house, Matcher call) throws Exception {
        Method method = methodOf(call.group(1));
        Object[] numbers = numbersOf(call.group(2));
        Object answer = method.invoke(house, numbers);
        CHECK.due(call.group() + " (it answered " + answer + ")", call.group(3).equals(String.valueOf(answer)), true);
        List<Integer> told = new ArrayList<>();
        Matcher record = RECORD.matcher(call.group(4));
        while (record.find()) {
            told.add(Integer.valueOf(record.group(1)));
        }
        int first = house.show(9) - told.size();
        for (int i = 0; i < told.size(); i++) {
            CHECK.due(call.group(), house.record(first + i, 8), told.get(i));
        }
    }

    private static Method methodOf(String name) throws NoSuchMethodException {
        for (Method method : StationHouse.class.getDeclaredMethods()) {
            if (method.getName().equals(name)) {
                return method;
            }
        }
        throw new NoSuchMethodException(name);
    }

    private static Object[] numbersOf(String list) {
        if (list.isEmpty()) {
            return new Object[0];
        }
        String[] words = list.split(", ");
        Object[] numbers = new Object[words.length];
        for (int i = 0; i < words.length; i++) {
            boolean isNone = words[i].equals("StationHouse.NONE");
            numbers[i] = isNone ? StationHouse.NONE : Long.decode(words[i]).intValue();
        }
        return numbers;
    }
}
