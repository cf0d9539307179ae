import java.util.ArrayDeque;
import java.util.Deque;

/** A law by its text alone: its FAULT byte by byte, its worth by parting the text at its loosest sign. */
final class PlainLaw {
    private PlainLaw() {
    }

    /** What stands open around a byte: a bracket with the ! - ahead of it, or the LINE itself. */
    private static final class Level {
        int prefixes;
        boolean compared;
        boolean asked;
    }

    static int fault(String text) {
        Deque<Level> levels = new ArrayDeque<>();
        levels.push(new Level());
        boolean wantsOperand = true;
        int digits = 0;
        for (int i = 0; i < text.length(); i++) {
            char c = text.charAt(i);
            Level now = levels.peek();
            if (wantsOperand) {
                if (c == '!' || c == '-' || c == '(') {
                    int open = levels.size() - 1;
                    for (Level level : levels) open += level.prefixes;
                    if (open == 6) return i;
                    if (c == '(') levels.push(new Level());
                    else now.prefixes++;
                } else if ("0123456789mwhfsk".indexOf(c) >= 0) {
                    digits = Character.isDigit(c) ? 1 : 0;
                    wantsOperand = false;
                    now.prefixes = 0;
                } else {
                    return i;
                }
                continue;
            }
            if (c >= '0' && c <= '9') {
                if (digits == 0 || digits == 4) return i;
                digits++;
                continue;
            }
            digits = 0;
            boolean inLine = levels.size() == 1;
            if (c == ')') {
                if (inLine) return i;
                levels.pop();
                levels.peek().prefixes = 0;
                continue;
            }
            if (c == '<' || c == '=' || c == '>') {
                if (now.compared) return i;
                now.compared = true;
            } else if (c == '&' || c == '|') {
                now.compared = false;
            } else if (c == '?') {
                if (!inLine || now.asked) return i;
                now.asked = true;
                now.compared = false;
            } else if (c == ';') {
                if (!inLine) return i;
                now.asked = false;
                now.compared = false;
            } else if ("+-*/%".indexOf(c) < 0) {
                return i;
            }
            wantsOperand = true;
        }
        return wantsOperand || levels.size() > 1 ? text.length() : -1;
    }

    static int worth(String text, int m, int w, int h, int f, int s, int k) {
        int[] names = {m, w, h, f, s, k};
        for (String line : text.split(";")) {
            int ask = line.indexOf('?');
            if (ask < 0) return worth(line, names);
            if (worth(line.substring(0, ask), names) != 0) return worth(line.substring(ask + 1), names);
        }
        return 0;
    }

    private static int worth(String e, int[] names) {
        for (String signs : new String[] {"|", "&", "<=>", "+-", "*/%"}) {
            int at = lastOutside(e, signs);
            if (at >= 0) return join(worth(e.substring(0, at), names), e.charAt(at), worth(e.substring(at + 1), names));
        }
        char c = e.charAt(0);
        if (c == '!') return worth(e.substring(1), names) == 0 ? 1 : 0;
        if (c == '-') return -worth(e.substring(1), names);
        if (c == '(') return worth(e.substring(1, e.length() - 1), names);
        int name = "mwhfsk".indexOf(c);
        return name >= 0 ? names[name] : Integer.parseInt(e);
    }

    /** The last of these signs outside of brackets that joins two (an operand's end stands ahead of it). */
    private static int lastOutside(String e, String signs) {
        int open = 0;
        for (int i = e.length() - 1; i > 0; i--) {
            char c = e.charAt(i);
            if (c == ')') open++;
            if (c == '(') open--;
            if (open == 0 && signs.indexOf(c) >= 0 && "0123456789mwhfsk)".indexOf(e.charAt(i - 1)) >= 0) return i;
        }
        return -1;
    }

    private static int join(int a, char sign, int b) {
        switch (sign) {
            case '|': return (a != 0) | (b != 0) ? 1 : 0;
            case '&': return (a != 0) & (b != 0) ? 1 : 0;
            case '<': return a < b ? 1 : 0;
            case '=': return a == b ? 1 : 0;
            case '>': return a > b ? 1 : 0;
            case '+': return a + b;
            case '-': return a - b;
            case '*': return a * b;
            case '/': return b == 0 ? 0 : a / b;
            default: return b == 0 ? 0 : a % b;
        }
    }
}
