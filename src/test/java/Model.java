import java.util.ArrayDeque;
import java.util.ArrayList;
import java.util.Comparator;
import java.util.Deque;
import java.util.List;
import java.util.Optional;
import java.util.regex.Matcher;
import java.util.regex.Pattern;

/**
 * The document once more, held in lists and texts instead of rows of numbers: every call of QuietChecks is to answer as
 * this model does. It makes objects as it likes.
 */
final class Model {
    private static final String[] WORDS = {"", "begins", "pauses", "ends", "replaced", "stays", "slow"};
    private static final List<String> WAYS = List.of("oldest", "worst", "row");
    private static final Pattern PLAN;

    static {
        String command = "(read [0-7]:[0-9]{1,3}|quiet [0-9]{1,3}|ask [0-7]|spot [0-7]:[1-9]|way (oldest|worst|row))";
        PLAN = Pattern.compile(command + "(;" + command + ")*");
    }

    private record Entry(int tick, int kind, int span) {
        String line() {
            return tick + " " + WORDS[kind] + " " + span;
        }
    }

    private record Check(int span, int done, int takes) {
    }

    private static final class State {
        int wait = 5;
        int span = 10;
        int tryTicks = 3;
        int limit = 5;
        int age = 400;
        int way = 0;
        int spares = 6;
        int tick = 0;
        int quiet = 0;
        int[] stamps = new int[8];
        List<List<Integer>> spots = new ArrayList<>();
        List<Integer> list = new ArrayList<>();
        List<Entry> log = new ArrayList<>();
        Optional<Check> check = Optional.empty();
        Optional<Integer> latest = Optional.empty();
        int ended = 0;
        int pauses = 0;
        int replaced = 0;
        int slow = 0;

        State() {
            for (int i = 0; i < 8; i++) {
                spots.add(new ArrayList<>());
            }
        }

        State copy() {
            State copy = new State();
            copy.wait = wait;
            copy.span = span;
            copy.tryTicks = tryTicks;
            copy.limit = limit;
            copy.age = age;
            copy.way = way;
            copy.spares = spares;
            copy.tick = tick;
            copy.quiet = quiet;
            copy.stamps = stamps.clone();
            for (int i = 0; i < 8; i++) {
                copy.spots.get(i).addAll(spots.get(i));
            }
            copy.list.addAll(list);
            copy.log.addAll(log);
            copy.check = check;
            copy.latest = latest;
            copy.ended = ended;
            copy.pauses = pauses;
            copy.replaced = replaced;
            copy.slow = slow;
            return copy;
        }

        int setting(int which) {
            return new int[] {wait, span, tryTicks, limit, age}[which];
        }

        int set(int which, int value) {
            int old = setting(which);
            switch (which) {
                case 0 -> wait = value;
                case 1 -> span = value;
                case 2 -> tryTicks = value;
                case 3 -> limit = value;
                default -> age = value;
            }
            return old;
        }

        void enter(int kind, int of) {
            log.add(new Entry(tick, kind, of));
            if (log.size() > 10) {
                log.remove(0);
            }
        }

        int ageOf(int of) {
            return tick - stamps[of];
        }

        int sum(int of) {
            return spots.get(of).stream().mapToInt(Integer::intValue).sum();
        }

        int length(int of) {
            return span + tryTicks * spots.get(of).stream().mapToInt(tries -> Math.min(tries, limit)).sum();
        }

        boolean due(int of) {
            return ageOf(of) >= age / 2;
        }

        long overdue() {
            return java.util.stream.IntStream.range(0, 8).filter(of -> ageOf(of) > age).count();
        }

        Optional<Integer> next() {
            if (!list.isEmpty()) {
                return Optional.of(list.get(0));
            }
            List<Integer> due = new ArrayList<>();
            for (int i = 0; i < 8; i++) {
                if (due(i)) {
                    due.add(i);
                }
            }
            Comparator<Integer> order;
            if (way == 0) {
                order = Comparator.comparing(of -> -ageOf(of));
            } else if (way == 1) {
                order = Comparator.comparing(of -> -sum(of));
            } else {
                order = Comparator.comparing(of -> latest.isEmpty() ? of : (of - latest.get() + 7) % 8);
            }
            due.sort(order.thenComparing(Comparator.naturalOrder()));
            return due.stream().findFirst();
        }

        /** The span whose check has ended in this quiet tick. */
        Optional<Integer> quietTick() {
            tick++;
            if (quiet < wait) {
                quiet++;
                return Optional.empty();
            }
            if (check.isEmpty()) {
                Optional<Integer> begins = next();
                if (begins.isPresent()) {
                    list.remove(begins.get());
                    check = Optional.of(new Check(begins.get(), 0, length(begins.get())));
                    enter(1, begins.get());
                }
            }
            if (check.isEmpty()) {
                return Optional.empty();
            }
            Check now = check.get();
            if (now.done() + 1 < now.takes()) {
                check = Optional.of(new Check(now.span(), now.done() + 1, now.takes()));
                return Optional.empty();
            }
            end(now.span());
            return Optional.of(now.span());
        }

        void end(int of) {
            check = Optional.empty();
            latest = Optional.of(of);
            stamps[of] = tick;
            ended++;
            enter(3, of);
            List<Integer> left = new ArrayList<>();
            for (int tries : spots.get(of)) {
                if (tries < limit) {
                    left.add(tries + 1);
                } else if (spares == 0) {
                    left.add(tries);
                    enter(5, of);
                } else {
                    spares--;
                    replaced++;
                    enter(4, of);
                }
            }
            spots.set(of, left);
        }

        boolean begun(int of) {
            return check.isPresent() && check.get().span() == of;
        }

        int read(int of, int ticks) {
            quiet = 0;
            tick += ticks;
            if (check.isPresent()) {
                Check now = check.get();
                check = Optional.of(new Check(now.span(), Math.max(now.done() - 2, 0), now.takes()));
                pauses++;
                enter(2, now.span());
            }
            if (spots.get(of).stream().noneMatch(tries -> tries >= limit)) {
                return 0;
            }
            slow++;
            enter(6, of);
            if (!list.contains(of) && !begun(of) && list.size() < 6) {
                list.add(of);
            }
            return 1;
        }
    }

    private State now = new State();
    private final Deque<State> saved = new ArrayDeque<>();
    private String text = "";

    private void save(State state) {
        saved.addLast(state);
        if (saved.size() > 6) {
            saved.removeFirst();
        }
    }

    private static boolean noSpan(int span) {
        return span < 0 || span > 7;
    }

    /** The answer of an undoable call, which goes to a copy of the state. */
    private int change(int[] call) {
        State before = now.copy();
        int answer = apply(call[0], call[1], call[2]);
        if (answer >= 0) {
            save(before);
        }
        return answer;
    }

    private int apply(int op, int a, int b) {
        switch (op) {
            case 0: {
                if (a < 0 || a > 4) {
                    return -1;
                }
                int[][] ranges = {{0, 50}, {1, 40}, {1, 9}, {2, 9}, {50, 2000}};
                return b < ranges[a][0] || b > ranges[a][1] ? -2 : now.set(a, b);
            }
            case 1: {
                if (a < 0 || a > 2) {
                    return -2;
                }
                int old = now.way;
                now.way = a;
                return old;
            }
            case 2:
                return a < 1 || a > 9 ? -2 : now.spares + a > 50 ? -4 : (now.spares += a);
            case 3: {
                if (noSpan(a)) {
                    return -1;
                }
                if (b < 1 || b > 9) {
                    return -2;
                }
                if (now.spots.stream().mapToInt(List::size).sum() == 20) {
                    return -4;
                }
                now.spots.get(a).add(b);
                return now.spots.get(a).size();
            }
            case 4:
                if (noSpan(a)) {
                    return -1;
                }
                if (now.list.contains(a) || now.begun(a)) {
                    return -3;
                }
                if (now.list.size() == 6) {
                    return -4;
                }
                now.list.add(a);
                return now.list.indexOf(a);
            case 5:
                return noSpan(a) ? -1 : !now.list.remove((Integer) a) ? -3 : now.list.size();
            case 6:
                return noSpan(a) ? -1 : b < 1 || b > 200 ? -2 : now.tick + b > 99999 ? -4 : now.read(a, b);
            case 7: {
                if (a < 1 || a > 500) {
                    return -2;
                }
                if (now.tick + a > 99999) {
                    return -4;
                }
                int ends = 0;
                for (int i = 0; i < a; i++) {
                    ends += now.quietTick().isPresent() ? 1 : 0;
                }
                return ends;
            }
            default: {
                if (now.check.isEmpty()) {
                    return -3;
                }
                int done = now.check.get().done();
                now.check = Optional.empty();
                return done;
            }
        }
    }

    private int count(int what) {
        if (what < 0 || what > 12) {
            return -2;
        }
        int spots = now.spots.stream().mapToInt(List::size).sum();
        return new int[] {now.tick, now.quiet, spots, now.spares, now.way, now.check.map(Check::span).orElse(-6),
            now.check.map(Check::done).orElse(0), now.check.map(Check::takes).orElse(0), now.list.size(), now.ended,
            now.pauses, now.replaced, now.slow}[what];
    }

    private int span(int span, int what) {
        if (noSpan(span)) {
            return -1;
        }
        if (what < 0 || what > 6) {
            return -2;
        }
        int late = now.ageOf(span) > now.age ? 2 : now.due(span) ? 1 : 0;
        int place = now.list.contains(span) ? now.list.indexOf(span) : -6;
        return new int[] {now.stamps[span], now.ageOf(span), now.spots.get(span).size(), now.sum(span), late,
            now.length(span), place}[what];
    }

    private int tries(int span, int index) {
        return noSpan(span) || index < 0 || index >= now.spots.get(span).size() ? -1 : now.spots.get(span).get(index);
    }

    private int entry(int index, int what) {
        if (index < 0 || index >= now.log.size()) {
            return -1;
        }
        if (what < 0 || what > 3) {
            return -2;
        }
        Entry entry = now.log.get(index);
        return new int[] {entry.tick(), entry.kind(), entry.span(), entry.line().length()}[what];
    }

    private int lineAt(int index, int place) {
        if (index < 0 || index >= now.log.size()) {
            return -1;
        }
        String line = now.log.get(index).line();
        return place < 0 || place >= line.length() ? -1 : line.charAt(place);
    }

    private int checkedIn(int span) {
        if (noSpan(span)) {
            return -1;
        }
        State trial = now.copy();
        for (int ticks = 1; ticks <= 3000; ticks++) {
            if (trial.quietTick().equals(Optional.of(span))) {
                return ticks;
            }
        }
        return -6;
    }

    private long overdueAfter(int ticks, int way) {
        State trial = now.copy();
        trial.way = way;
        for (int i = 0; i < ticks; i++) {
            trial.quietTick();
        }
        return trial.overdue();
    }

    private int bestWay(int ticks) {
        if (ticks < 0 || ticks > 3000) {
            return -2;
        }
        List<Integer> ways = new ArrayList<>(List.of(0, 1, 2));
        ways.sort(Comparator.comparing(way -> 10 * overdueAfter(ticks, way) + way));
        return ways.get(0);
    }

    private int type(int code) {
        if (code < 32 || code > 126) {
            return -2;
        }
        if (text.length() == 80) {
            return -4;
        }
        text += (char) code;
        return text.length();
    }

    private int clearText() {
        int length = text.length();
        text = "";
        return length;
    }

    /** The regular expression can go on behind a text if it matches, or would look at a character behind it. */
    private static boolean canGoOn(String start) {
        Matcher matcher = PLAN.matcher(start);
        return matcher.matches() || matcher.hitEnd();
    }

    private int syntaxError() {
        for (int length = 1; length <= text.length(); length++) {
            if (!canGoOn(text.substring(0, length))) {
                return length - 1;
            }
        }
        return PLAN.matcher(text).matches() ? -6 : text.length();
    }

    private int carryOut() {
        if (!PLAN.matcher(text).matches()) {
            return -5;
        }
        save(now.copy());
        int done = 0;
        for (String command : text.split(";")) {
            if (applyCommand(command) < 0) {
                break;
            }
            done++;
        }
        text = "";
        return done;
    }

    private int applyCommand(String command) {
        String[] words = command.split("[ :]");
        switch (words[0]) {
            case "read":
                return apply(6, Integer.parseInt(words[1]), Integer.parseInt(words[2]));
            case "quiet":
                return apply(7, Integer.parseInt(words[1]), 0);
            case "ask":
                return apply(4, Integer.parseInt(words[1]), 0);
            case "spot":
                return apply(3, Integer.parseInt(words[1]), Integer.parseInt(words[2]));
            default:
                return apply(1, WAYS.indexOf(words[1]), 0);
        }
    }

    private int undo() {
        if (saved.isEmpty()) {
            return -3;
        }
        now = saved.removeLast();
        return saved.size();
    }

    private long digest() {
        List<Integer> values = new ArrayList<>();
        for (int what = 0; what < 13; what++) {
            values.add(count(what));
        }
        for (int which = 0; which < 5; which++) {
            values.add(now.setting(which));
        }
        for (int span = 0; span < 8; span++) {
            for (int what = 0; what < 7; what++) {
                values.add(span(span, what));
            }
            values.addAll(now.spots.get(span));
        }
        values.add(now.log.size());
        for (Entry entry : now.log) {
            values.addAll(List.of(entry.tick(), entry.kind(), entry.span()));
            entry.line().chars().forEach(values::add);
        }
        values.add((int) now.overdue());
        values.add(now.next().orElse(-6));
        return values.stream().mapToLong(Integer::longValue).reduce(448, (hash, value) -> 31 * hash + value);
    }

    /** The calls are numbered in the order of the document's face. */
    long answer(int[] call) {
        int a = call[1];
        int b = call[2];
        return switch (call[0]) {
            case 0, 1, 2, 3, 4, 5, 6, 7, 8 -> change(call);
            case 9 -> count(a);
            case 10 -> a < 0 || a > 4 ? -1 : now.setting(a);
            case 11 -> span(a, b);
            case 12 -> tries(a, b);
            case 13 -> now.log.size();
            case 14 -> entry(a, b);
            case 15 -> lineAt(a, b);
            case 16 -> now.overdue();
            case 17 -> now.next().orElse(-6);
            case 18 -> checkedIn(a);
            case 19 -> a < 0 || a > 3000 ? -2 : overdueAfter(a, now.way);
            case 20 -> bestWay(a);
            case 21 -> type(a);
            case 22 -> clearText();
            case 23 -> syntaxError();
            case 24 -> carryOut();
            case 25 -> undo();
            default -> digest();
        };
    }
}
