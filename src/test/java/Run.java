import java.util.ArrayList;
import java.util.List;
import java.util.Map;
import java.util.Set;
import java.util.regex.Matcher;
import java.util.regex.Pattern;

/**
 * A run of calls on a new object, told as text: calls, each with what is due, a line each or with ";" between.
 * <pre>
 *   cat(8) = 0            the answer that is due
 *   cat(9) refused -1     the answer, and status(); one more call was REFUSED by that; all else is as it was ahead
 *   of(6, 0) none         the answer is NONE; that is not counted, and all is as it was ahead
 *   had(0, 1) tells 9     the answer that is due; all is as it was ahead
 *   pass()                any answer
 *   20 x pass() = 20      twenty times; due is the last answer
 *   law "earns 5" = 0     the text comes on the (empty) tape ahead of law(); orders "pass" the same
 *   row 8 0 9 = 1         so do the bytes ahead of row()
 *   tape "earns 5"        the text comes on the tape
 *   # why                 to the line's end
 * </pre>
 */
final class Run {
    private static final Pattern STATEMENT = Pattern.compile(
            "(?:(\\d+) x )?(\\w+)\\s*(?:\\(([^)]*)\\)|([\"'])(.*)\\4|((?:\\s*\\d+)+))\\s*(?:(=|refused|tells)\\s*(-?\\d+)|(none))?",
            Pattern.DOTALL);

    private enum Check { NOTHING, ANSWER, REFUSED, LEFT_ALONE }

    private static final class Call {
        final String name;
        final int[] numbers;
        final Check check;
        final long due;

        Call(String name, int[] numbers, Check check, long due) {
            this.name = name;
            this.numbers = numbers;
            this.check = check;
            this.due = due;
        }

        String told() {
            return Called.told(name, numbers);
        }
    }

    private final List<Call> calls = new ArrayList<>();
    private final Class<?> type;
    private final Due due;

    Run(Class<?> type, Due due, String text) {
        this.type = type;
        this.due = due;
        for (String statement : split(text)) {
            add(statement);
        }
    }

    // ---- from text

    private static List<String> split(String text) {
        List<String> statements = new ArrayList<>();
        StringBuilder now = new StringBuilder();
        char quote = 0;
        boolean remark = false;
        for (char sign : (text + "\n").toCharArray()) {
            boolean ends = quote == 0 && (sign == '\n' || sign == ';' && !remark);
            if (ends) {
                if (!now.toString().isBlank()) {
                    statements.add(now.toString().strip());
                }
                now.setLength(0);
                remark = false;
            } else if (!remark) {
                remark = quote == 0 && sign == '#';
                if (quote == 0 && (sign == '"' || sign == '\'')) {
                    quote = sign;
                } else if (quote == sign) {
                    quote = 0;
                }
                if (!remark) {
                    now.append(sign);
                }
            }
        }
        if (quote != 0) {
            throw new IllegalStateException("a quote is open: " + text);
        }
        return statements;
    }

    private void add(String statement) {
        Matcher m = STATEMENT.matcher(statement);
        if (!m.matches()) {
            throw new IllegalStateException("no statement: " + statement);
        }
        int times = m.group(1) == null ? 1 : Integer.parseInt(m.group(1));
        String name = m.group(2);
        for (int i = 1; i <= times; i++) {
            if (m.group(3) != null) {
                addCall(name, numbers(m.group(3).replace(",", " ")), m, i == times);
            } else {
                addTape(m.group(5) != null ? m.group(5) : signs(numbers(m.group(6))));
                if (!name.equals("tape")) {
                    addCall(name, new int[0], m, i == times);
                }
            }
        }
    }

    private void addCall(String name, int[] numbers, Matcher m, boolean last) {
        Check check = m.group(9) != null ? Check.LEFT_ALONE : m.group(7) == null ? Check.NOTHING
                : m.group(7).equals("=") ? Check.ANSWER : m.group(7).equals("tells") ? Check.LEFT_ALONE : Check.REFUSED;
        long answer = m.group(8) == null ? -1 : Long.parseLong(m.group(8));
        calls.add(new Call(name, numbers, last ? check : Check.NOTHING, answer));
    }

    private static int[] numbers(String text) {
        String[] parts = text.isBlank() ? new String[0] : text.strip().split("\\s+");
        int[] numbers = new int[parts.length];
        for (int i = 0; i < parts.length; i++) {
            numbers[i] = Integer.parseInt(parts[i]);
        }
        return numbers;
    }

    private static String signs(int[] bytes) {
        StringBuilder text = new StringBuilder();
        for (int b : bytes) {
            text.append((char) b);
        }
        return text.toString();
    }

    private void addTape(String text) {
        for (int i = 0; i < text.length(); i += 20) {
            int[] n = new int[5];
            for (int k = 0; k < 20; k++) {
                n[k / 4] = n[k / 4] << 8 | (i + k < text.length() ? text.charAt(i + k) & 255 : ' ');
            }
            calls.add(new Call("feed", n, Check.NOTHING, 0));
        }
        calls.add(new Call("end", new int[] {text.length()}, Check.ANSWER, text.length()));
    }

    // ---- the run

    void check() {
        Called port = new Called(type);
        for (int i = 0; i < calls.size(); i++) {
            Call call = calls.get(i);
            long got = port.call(call.name, call.numbers);
            if (call.check != Check.NOTHING) {
                due.due("call " + (i + 1) + ", " + call.told(), got, call.due);
            }
            if (call.check == Check.REFUSED || call.check == Check.LEFT_ALONE) {
                leavesAllElse(i);
            }
        }
    }

    private Called behind(int many) {
        Called port = new Called(type);
        for (Call call : calls.subList(0, many)) {
            port.call(call.name, call.numbers);
        }
        return port;
    }

    /** The same run with and without its last call: all that can be seen is the same, but for what is told of refusals. */
    private void leavesAllElse(int last) {
        Call call = calls.get(last);
        for (int part = 0; part < Standing.PARTS; part++) {
            Called ahead = behind(last);
            if (call.name.equals("law") || call.name.equals("orders")) {
                // the tape is empty then, too
                ahead.call("end", 0);
            }
            Map<String, Long> was = Standing.of(ahead, part);
            Map<String, Long> is = Standing.of(behind(last + 1), part);
            if (call.check == Check.REFUSED && part == 0) {
                was.put("status()", call.due);
                String count = "count(" + countOf(call.due) + ")";
                was.put(count, was.get(count) + 1);
            }
            is.keySet().removeAll(toldBy(call));
            was.keySet().removeAll(toldBy(call));
            for (String asked : was.keySet()) {
                due.due("behind call " + (last + 1) + ", " + call.told() + ", " + asked, is.getOrDefault(asked, Long.MIN_VALUE),
                        was.get(asked));
            }
            due.due("as many answers", is.size(), was.size());
        }
    }

    private static int countOf(long refusal) {
        int by = (int) -refusal;
        return by <= 3 ? 6 + by : 5 + by;
    }

    /** What a refused call changes all the same; runs ask it themselves. */
    private static Set<String> toldBy(Call call) {
        if (call.name.equals("orders")) {
            return Set.of("fault()", "stopped()");
        }
        return call.name.equals("law") && call.due == -6 ? Set.of("fault()") : Set.of();
    }
}
