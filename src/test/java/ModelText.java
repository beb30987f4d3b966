import java.util.HashMap;
import java.util.Map;

/** TEXTS read by trying every way to part them: slow, and unlike the program's own reader. */
final class ModelText {
    private static final String[] SIGNS = {"|", "&", "<=>", "+-", "*/%"};

    private final String names;
    private final Map<String, Boolean> known = new HashMap<>();

    ModelText(String names) {
        this.names = names;
    }

    boolean isText(String s) {
        return is(0, s, 0);
    }

    private boolean is(int level, String s, int open) {
        String key = level + " " + open + " " + s;
        Boolean found = known.get(key);
        if (found == null) {
            found = level == 5 ? isQ(s, open) : isLevel(level, s, open);
            known.put(key, found);
        }
        return found;
    }

    private boolean isLevel(int level, String s, int open) {
        if (is(level + 1, s, open)) {
            return true;
        }
        int leftLevel = level == 2 ? 3 : level;
        for (int i = 1; i < s.length() - 1; i++) {
            boolean parts = SIGNS[level].indexOf(s.charAt(i)) >= 0;
            if (parts && is(leftLevel, s.substring(0, i), open) && is(level + 1, s.substring(i + 1), open)) {
                return true;
            }
        }
        return false;
    }

    private boolean isQ(String s, int open) {
        if (s.matches("[0-9]{1,4}") || (s.length() == 1 && names.contains(s))) {
            return true;
        }
        if (s.isEmpty() || open == 5) {
            return false;
        }
        if (s.charAt(0) == '!') {
            return is(5, s.substring(1), open + 1);
        }
        return s.length() > 2 && s.charAt(0) == '(' && s.charAt(s.length() - 1) == ')'
            && is(0, s.substring(1, s.length() - 1), open + 1);
    }

    /** Something short is tried behind it: a value, or none, and up to five brackets. */
    private boolean goesOn(String s) {
        String brackets = "";
        for (int i = 0; i <= 5; i++) {
            if (isText(s + brackets) || isText(s + "1" + brackets)) {
                return true;
            }
            brackets = brackets + ")";
        }
        return false;
    }

    /** -1: there is none. */
    int fault(String s) {
        for (int i = 0; i < s.length(); i++) {
            if (!goesOn(s.substring(0, i + 1))) {
                return i;
            }
        }
        return isText(s) ? -1 : s.length();
    }

    int worth(String s, int[] values) {
        return worth(0, s, values);
    }

    private int worth(int level, String s, int[] values) {
        if (level == 5) {
            return worthOfQ(s, values);
        }
        int inside = 0;
        for (int i = s.length() - 1; i > 0; i--) {
            char c = s.charAt(i);
            inside += c == ')' ? 1 : c == '(' ? -1 : 0;
            if (inside == 0 && SIGNS[level].indexOf(c) >= 0) {
                return join(c, worth(level, s.substring(0, i), values), worth(level + 1, s.substring(i + 1), values));
            }
        }
        return worth(level + 1, s, values);
    }

    private int worthOfQ(String s, int[] values) {
        char c = s.charAt(0);
        if (c == '!') {
            return worth(5, s.substring(1), values) == 0 ? 1 : 0;
        }
        if (c == '(') {
            return worth(0, s.substring(1, s.length() - 1), values);
        }
        return names.indexOf(c) >= 0 ? values[names.indexOf(c)] : Integer.parseInt(s);
    }

    private static int join(char sign, long a, long b) {
        switch (sign) {
            case '|': return a == 0 && b == 0 ? 0 : 1;
            case '&': return a == 0 || b == 0 ? 0 : 1;
            case '<': return a < b ? 1 : 0;
            case '=': return a == b ? 1 : 0;
            case '>': return a > b ? 1 : 0;
            case '+': return (int) (a + b);
            case '-': return (int) (a - b);
            case '*': return (int) (a * b);
            case '/': return b == 0 ? 0 : (int) (a / b);
            default: return b == 0 ? 0 : (int) (a % b);
        }
    }
}
