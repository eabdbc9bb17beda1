import java.util.ArrayList;
import java.util.Arrays;
import java.util.List;
import java.util.regex.Matcher;
import java.util.regex.Pattern;

/** The tape of the model: a text is compared with all the rows of tokens that it could be, token by token. */
final class ModelText {
    private static final Pattern TOKEN = Pattern.compile("[a-z]+|[0-9]+|[^ \\n]", Pattern.DOTALL);
    private static final List<String> NO_NAMES = Arrays.asList("born", "dead", "in", "on");
    private static final List<List<String>> FACTS = Arrays.asList(
        Arrays.asList("NAME", "born", "DAY", ";"),
        Arrays.asList("NAME", "dead", "DAY", ";"),
        Arrays.asList("NAME", "in", "NAME", "on", "DAY", ";"));

    /** What comes last of the row with a sixth step: no token is it. */
    private static final String NOTHING = "";

    int fault = 0;
    int place = -1;
    private String tape = "";

    int feed(int... numbers) {
        if (tape.length() + 4 * numbers.length > 200) {
            return -1;
        }
        for (int number : numbers) {
            for (int i = 3; i >= 0; i--) {
                tape += (char) ((number >> 8 * i) & 255);
            }
        }
        return tape.length();
    }

    boolean end(int n) {
        if (n < 0 || n > tape.length()) {
            return false;
        }
        tape = tape.substring(0, n);
        return true;
    }

    /** The words of a fact without the semicolon; null with a fault. */
    List<String> fact() {
        List<String> tokens = read(FACTS);
        return tokens == null ? null : tokens.subList(0, tokens.size() - 1);
    }

    /** The numbers of an agreement; null with a fault. */
    List<Integer> agreement() {
        List<String> tokens = read(agreements());
        if (tokens == null) {
            return null;
        }
        List<Integer> numbers = new ArrayList<>();
        for (String token : tokens) {
            if (Character.isDigit(token.charAt(0))) {
                numbers.add(Integer.parseInt(token));
            }
        }
        return numbers;
    }

    private static List<List<String>> agreements() {
        List<List<String>> rows = new ArrayList<>();
        List<String> ahead = new ArrayList<>();
        for (int steps = 1; steps <= 5; steps++) {
            List<String> row = new ArrayList<>(ahead);
            row.addAll(Arrays.asList("PERCENT", "percent", "late", "LATE", ";"));
            rows.add(row);
            ahead.addAll(Arrays.asList("PERCENT", "percent", "to", "TO", ","));
        }
        ahead.add(NOTHING);
        rows.add(ahead);
        return rows;
    }

    private List<String> read(List<List<String>> rows) {
        fault = 0;
        place = -1;
        String text = tape;
        tape = "";
        List<String> tokens = new ArrayList<>();
        List<List<String>> open = rows;
        int before = 0;
        Matcher next = TOKEN.matcher(text);
        while (next.find()) {
            String token = next.group();
            int at = tokens.size();
            List<List<String>> still = new ArrayList<>();
            for (List<String> row : open) {
                if (at < row.size() && goesOn(row.get(at), token)) {
                    still.add(row);
                }
            }
            if (still.isEmpty()) {
                return faulty(1, next.start() + goodBytes(open, at, token));
            }
            String as = still.get(0).get(at);
            int number = Character.isDigit(token.charAt(0)) ? Integer.parseInt(token) : 0;
            if (!canBe(as, number, before)) {
                return faulty(2, next.start());
            }
            before = as.equals("TO") ? number : before;
            tokens.add(token);
            open = still;
        }
        boolean whole = open.stream().anyMatch(row -> row.size() == tokens.size());
        return whole ? tokens : faulty(1, text.length());
    }

    private List<String> faulty(int kind, int at) {
        fault = kind;
        place = at;
        return null;
    }

    private static boolean goesOn(String as, String token) {
        if (as.equals("NAME")) {
            return token.matches("[a-z]{1,10}") && !NO_NAMES.contains(token);
        }
        return isNumber(as) ? token.matches("[0-9]{1,5}") : as.equals(token);
    }

    private static boolean isNumber(String as) {
        return Arrays.asList("DAY", "PERCENT", "TO", "LATE").contains(as);
    }

    /** How many bytes of a wrong token are good: those of a name or a number that is only too long. */
    private static int goodBytes(List<List<String>> open, int at, String token) {
        for (List<String> row : open) {
            if (at < row.size() && row.get(at).equals("NAME") && token.matches("[a-z]{11,}")) {
                return 10;
            }
            if (at < row.size() && isNumber(row.get(at)) && token.matches("[0-9]{6,}")) {
                return 5;
            }
        }
        return 0;
    }

    private static boolean canBe(String as, int number, int before) {
        switch (as) {
            case "PERCENT": return number <= 100;
            case "TO": return number >= 1 && number > before;
            case "LATE": return number <= 9999;
            default: return true;
        }
    }
}
