import java.lang.reflect.InvocationTargetException;
import java.lang.reflect.Method;
import java.util.ArrayList;
import java.util.List;

/**
 * An object whose calls are told as texts, "hang(0, 1)", so that what a test prints is what it called. It knows
 * every call that it got, so that a twin can be made of it: what is refused must leave it as its twin is.
 */
final class Asked {
    private static final int MOST_CALLS = 512;

    private final Due due;
    private final TinselRiver river = new TinselRiver();
    private final List<String> calls = new ArrayList<>();

    Asked(Due due) {
        this.due = due;
    }

    static Asked told(Due due, String text) {
        Asked x = new Asked(due);
        x.write(text);
        x.now("valley()");
        return x;
    }

    /**
     * One with something in everything that can be kept: a text that waits, a bed of 12, two that are laid, a seed,
     * four acts, a strand (3) that is gone, the year 1, and slot 0; slot 1 holds nothing.
     */
    static Asked rich(Due due) {
        Asked x = told(due, "TS00abcdabS01cdaS13dabS12ab");
        x.now("bed(12, 412341234123)", "lay(0, 1)", "lay(4, 1)", "seed(77)");
        x.now("hang(1, 1)", "turn(0)", "join(1, 3)", "keep(0)", "winter()", "wipe()");
        x.write("TS20bcS11d");
        return x;
    }

    int calls() {
        return calls.size();
    }

    Asked write(String text) {
        for (int i = 0; i < text.length(); i++) {
            ask("write(" + (int) text.charAt(i) + ")");
        }
        return this;
    }

    /** The text anew, whatever it was. */
    Asked rewrite(String text) {
        return now("wipe()").write(text);
    }

    Asked now(String... these) {
        for (String call : these) {
            ask(call);
        }
        return this;
    }

    Asked times(int n, String call) {
        for (int i = 0; i < n; i++) {
            ask(call);
        }
        return this;
    }

    Asked is(String call, long want) {
        due.is(call + " as call " + (calls.size() + 1), ask(call), want);
        return this;
    }

    /** The call answers as due, and all that can be seen afterwards is as if it had not been made. */
    Asked leaves(String call, long want) {
        compare(call, twin().is(call, want));
        return is(call, want);
    }

    /** All that can be seen after these calls is as if none of them had been made. */
    Asked leavesAllBy(String... these) {
        compare(String.join(", ", these), twin().now(these));
        return this;
    }

    private void compare(String call, Asked called) {
        List<String> untouched = twin().trace();
        List<String> seen = called.trace();
        for (int i = 0; i < Math.min(untouched.size(), seen.size()); i++) {
            if (!untouched.get(i).equals(seen.get(i))) {
                due.is(call + " changed " + untouched.get(i) + " to " + seen.get(i), 1, 0);
                return;
            }
        }
        due.is("answers after " + call, seen.size(), untouched.size());
    }

    private Asked twin() {
        Asked twin = new Asked(due);
        for (String call : calls) {
            twin.ask(call);
        }
        return twin;
    }

    /** All that can be seen, and then, as only that shows it, what is undone, kept, laid, in the bed and told. */
    private List<String> trace() {
        List<String> seen = new ArrayList<>();
        for (int what = 0; what <= 8; what++) {
            see(seen, "count(" + what + ")");
        }
        see(seen, "fault()");
        see(seen, "which(0)");
        see(seen, "which(1)");
        see(seen, "seed(0)");
        seeStrands(seen);
        for (int i = 0; i < 15; i++) {
            if (see(seen, "undo()") < 0) {
                break;
            }
            seeStrands(seen);
        }
        for (int slot = 0; slot < 2; slot++) {
            see(seen, "again(" + slot + ")");
            seeStrands(seen);
        }
        for (int place = 0; place < 12; place++) {
            see(seen, "unlay()");
            see(seen, "lay(" + place + ", 1)");
            see(seen, "which(1)");
        }
        see(seen, "valley()");
        seeStrands(seen);
        see(seen, "wipe()");
        return seen;
    }

    private void seeStrands(List<String> seen) {
        see(seen, "count(4)");
        for (int strand = 0; strand < 4; strand++) {
            see(seen, "bends(" + strand + ")");
            see(seen, "strand(" + strand + ", 0)");
            see(seen, "strand(" + strand + ", 1)");
        }
    }

    private long see(List<String> seen, String call) {
        long answer = ask(call);
        seen.add(call + " = " + answer);
        return answer;
    }

    long ask(String call) {
        calls.add(call);
        if (calls.size() > MOST_CALLS) {
            due.is("calls of one object, by " + call, calls.size(), MOST_CALLS);
        }
        int open = call.indexOf('(');
        String name = call.substring(0, open);
        String inside = call.substring(open + 1, call.length() - 1).trim();
        String[] told = inside.isEmpty() ? new String[0] : inside.split("\\s*,\\s*");
        try {
            Method method = methodOf(name);
            Class<?>[] types = method.getParameterTypes();
            Object[] values = new Object[told.length];
            for (int i = 0; i < told.length; i++) {
                values[i] = valueOf(told[i], types[i]);
            }
            return ((Number) method.invoke(river, values)).longValue();
        } catch (InvocationTargetException e) {
            due.is(call + " threw " + e.getCause(), 1, 0);
            return Long.MIN_VALUE;
        } catch (IllegalAccessException e) {
            throw new IllegalStateException(e);
        }
    }

    private static Method methodOf(String name) {
        for (Method method : TinselRiver.class.getMethods()) {
            if (method.getName().equals(name) && method.getDeclaringClass() == TinselRiver.class) {
                return method;
            }
        }
        throw new IllegalStateException("no call " + name);
    }

    private static Object valueOf(String told, Class<?> type) {
        if (type == boolean.class) {
            return Boolean.parseBoolean(told);
        }
        if (type == long.class) {
            return told.equals("MIN") ? Long.MIN_VALUE : told.equals("MAX") ? Long.MAX_VALUE : Long.parseLong(told);
        }
        return told.equals("MIN") ? Integer.MIN_VALUE : told.equals("MAX") ? Integer.MAX_VALUE : Integer.parseInt(told);
    }
}
