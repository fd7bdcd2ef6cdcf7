import java.util.ArrayList;
import java.util.List;
import java.util.regex.Matcher;
import java.util.regex.Pattern;

/**
 * The document once more, as plainly as it can be written with lists, copies and patterns, to compare the program
 * with. It shares nothing with the program. A refused call throws Refused.
 */
final class Model {
    static final class Refused extends Exception {
        private static final long serialVersionUID = 1L;
        final String kind;

        Refused(String kind) {
            super(kind);
            this.kind = kind;
        }
    }

    static final class Span {
        int length;
        int jars;
        int age;
        int cracks;
        int stress;

        Span copy() {
            Span s = new Span();
            s.length = length;
            s.jars = jars;
            s.age = age;
            s.cracks = cracks;
            s.stress = stress;
            return s;
        }

        int strength() {
            int set = jars * (age > 24 ? 24 : age) / length;
            return set * (10 - cracks) / 10;
        }
    }

    static final class Vehicle {
        int number;
        int weight;
        int span;

        Vehicle copy() {
            Vehicle v = new Vehicle();
            v.number = number;
            v.weight = weight;
            v.span = span;
            return v;
        }
    }

    static final class State {
        List<Span> spans = new ArrayList<>();
        List<Vehicle> vehicles = new ArrayList<>();
        int next;
        int hour;
        int rate = 5;
        int till;
        int spent;
        int crossed;
        int sunk;

        State copy() {
            State s = new State();
            for (Span span : spans) {
                s.spans.add(span.copy());
            }
            for (Vehicle vehicle : vehicles) {
                s.vehicles.add(vehicle.copy());
            }
            s.next = next;
            s.hour = hour;
            s.rate = rate;
            s.till = till;
            s.spent = spent;
            s.crossed = crossed;
            s.sunk = sunk;
            return s;
        }

        int load(int span) {
            return vehicles.stream().filter(v -> v.span == span).mapToInt(v -> v.weight).sum();
        }

        boolean strained(int span) {
            return load(span) * 5 > spans.get(span).strength() * 4;
        }

        int toll(Vehicle v) {
            return (int) Math.ceil(v.weight * rate / 10.0);
        }

        void anHour() {
            hour++;
            for (Span span : spans) {
                if (span.jars > 0) {
                    span.age++;
                }
            }
            for (Vehicle v : new ArrayList<>(vehicles)) {
                if (v.span == spans.size() - 1) {
                    vehicles.remove(v);
                    till += toll(v);
                    crossed++;
                } else {
                    boolean first = vehicles.stream().noneMatch(o -> o.number < v.number && o.span == v.span);
                    if (first && load(v.span + 1) + v.weight <= spans.get(v.span + 1).strength()) {
                        v.span++;
                    }
                }
            }
            for (int i = 0; i < spans.size(); i++) {
                Span span = spans.get(i);
                if (!strained(i)) {
                    span.stress = 0;
                } else if (++span.stress == 3) {
                    span.stress = 0;
                    span.cracks = Math.min(9, span.cracks + 1);
                }
            }
            if (hour % 6 == 0) {
                List<Integer> before = new ArrayList<>();
                spans.forEach(s -> before.add(s.cracks));
                for (int i = 0; i < spans.size(); i++) {
                    boolean spreads = false;
                    for (int n = i - 1; n <= i + 1; n += 2) {
                        if (n >= 0 && n < spans.size() && before.get(n) >= 5 && before.get(n) > before.get(i)) {
                            spreads = true;
                        }
                    }
                    if (spreads && before.get(i) < 9) {
                        spans.get(i).cracks++;
                    }
                }
            }
            for (int i = 0; i < spans.size(); i++) {
                while (load(i) > spans.get(i).strength()) {
                    Vehicle last = null;
                    for (Vehicle v : vehicles) {
                        last = v.span == i ? v : last;
                    }
                    vehicles.remove(last);
                    sunk++;
                }
            }
        }
    }

    private static final Pattern TEXT;

    static {
        String command = "(?:span \\d{1,2}|pour \\d \\d{1,2}|enter \\d{1,2}|mend \\d \\d|rate \\d{1,2}|wait \\d{1,2}|cut)";
        TEXT = Pattern.compile(command + "(?:;" + command + ")*");
    }

    State state = new State();
    private final List<State> undo = new ArrayList<>();
    private State snapshot;
    private String buffer = "";
    Integer fault;
    int[] denial;
    String line = "";
    private int[] lastDenial;

    private void need(boolean holds, String kind) throws Refused {
        if (!holds) {
            throw new Refused(kind);
        }
    }

    private void deny(boolean holds, int number, int detail) throws Refused {
        if (!holds) {
            lastDenial = new int[] {number, detail, 0};
            throw new Refused("UnsupportedOperationException");
        }
    }

    private Span span(int index) throws Refused {
        need(index >= 0 && index < state.spans.size(), "IndexOutOfBoundsException");
        return state.spans.get(index);
    }

    Vehicle vehicle(int number) throws Refused {
        for (Vehicle v : state.vehicles) {
            if (v.number == number) {
                return v;
            }
        }
        throw new Refused("NoSuchElementException");
    }

    /** One of the changes by its command's word, on the present state. */
    private int apply(String word, int a, int b) throws Refused {
        State s = state;
        switch (word) {
            case "span":
                need(a >= 1 && a <= 20, "IllegalArgumentException");
                deny(s.vehicles.isEmpty(), 4, s.vehicles.size());
                deny(s.spans.size() < 10, 1, 10);
                Span added = new Span();
                added.length = a;
                s.spans.add(added);
                return s.spans.size() - 1;
            case "cut":
                deny(!s.spans.isEmpty(), 3, s.hour);
                deny(s.vehicles.isEmpty(), 4, s.vehicles.size());
                return s.spans.remove(s.spans.size() - 1).jars;
            case "pour":
                Span poured = span(a);
                need(b >= 1 && b <= 50, "IllegalArgumentException");
                deny(s.vehicles.isEmpty(), 4, s.vehicles.size());
                deny(poured.jars <= 50 - b, 1, 50);
                poured.age = poured.age * poured.jars / (poured.jars + b);
                poured.jars += b;
                return poured.age;
            case "mend":
                Span mended = span(a);
                need(b >= 1 && b <= 9, "IllegalArgumentException");
                deny(mended.cracks >= b, 6, mended.cracks);
                deny(s.till >= 5 * b, 5, s.till);
                mended.cracks -= b;
                s.till -= 5 * b;
                s.spent += 5 * b;
                return s.till;
            case "enter":
                need(a >= 1 && a <= 99, "IllegalArgumentException");
                deny(!s.spans.isEmpty(), 3, s.hour);
                deny(s.vehicles.size() < 8, 1, 8);
                int spare = s.spans.get(0).strength() - s.load(0);
                deny(a <= spare, 2, spare);
                Vehicle v = new Vehicle();
                v.number = s.next++;
                v.weight = a;
                s.vehicles.add(v);
                return v.number;
            case "rate":
                need(a >= 0 && a <= 20, "IllegalArgumentException");
                deny(a != s.rate, 7, s.rate);
                int rate = s.rate;
                s.rate = a;
                return rate;
            default:
                need(a >= 1 && a <= 48, "IllegalArgumentException");
                int crossed = s.crossed;
                for (int i = 0; i < a; i++) {
                    s.anHour();
                }
                return s.crossed - crossed;
        }
    }

    private void remember(State before) {
        undo.add(before);
        if (undo.size() > 8) {
            undo.remove(0);
        }
    }

    int change(String word, int a, int b) throws Refused {
        State before = state.copy();
        try {
            int answer = apply(word, a, b);
            remember(before);
            return answer;
        } catch (Refused e) {
            if (e.kind.startsWith("Unsupported")) {
                denial = lastDenial;
            }
            throw e;
        }
    }

    int feed(char c) throws Refused {
        need(buffer.length() < 60, "IllegalStateException");
        buffer += c;
        return buffer.length();
    }

    int execute() throws Refused {
        String text = buffer;
        buffer = "";
        if (!TEXT.matcher(text).matches()) {
            fault = faultOf(text);
            throw new Refused("IllegalArgumentException");
        }
        State before = state.copy();
        String[] commands = text.split(";");
        for (int i = 0; i < commands.length; i++) {
            String[] parts = commands[i].split(" ");
            int a = parts.length > 1 ? Integer.parseInt(parts[1]) : 0;
            int b = parts.length > 2 ? Integer.parseInt(parts[2]) : 0;
            try {
                apply(parts[0], a, b);
            } catch (Refused e) {
                state = before;
                denial = new int[] {8, i, e.kind.startsWith("Unsupported") ? lastDenial[0] : 9};
                throw new Refused("UnsupportedOperationException");
            }
        }
        remember(before);
        return commands.length;
    }

    private static int faultOf(String text) {
        for (int i = 0; i < text.length(); i++) {
            Matcher matcher = TEXT.matcher(text.substring(0, i + 1));
            if (!matcher.matches() && !matcher.hitEnd()) {
                return i;
            }
        }
        return text.length();
    }

    int undo() throws Refused {
        need(!undo.isEmpty(), "IllegalStateException");
        state = undo.remove(undo.size() - 1);
        return undo.size();
    }

    int undoCount() {
        return undo.size();
    }

    int save() {
        snapshot = state.copy();
        return state.spans.size();
    }

    int restore() throws Refused {
        need(snapshot != null, "IllegalStateException");
        state = snapshot.copy();
        undo.clear();
        return state.spans.size();
    }

    int hoursUntilBears(int index, int weight) throws Refused {
        Span span = span(index).copy();
        need(weight >= 1 && weight <= 99, "IllegalArgumentException");
        for (int hours = 0; hours < 1000; hours++) {
            if (span.strength() >= weight) {
                return hours;
            }
            span.age += span.jars > 0 ? 1 : 0;
        }
        throw new Refused("NoSuchElementException");
    }

    int hoursUntilOver(int number) throws Refused {
        vehicle(number);
        State present = state;
        state = present.copy();
        try {
            for (int hours = 1; hours <= 48; hours++) {
                int sunk = state.sunk;
                List<Vehicle> ahead = new ArrayList<>(state.vehicles);
                state.anHour();
                List<Vehicle> gone = new ArrayList<>(ahead);
                gone.removeAll(state.vehicles);
                for (int i = 0; i < gone.size(); i++) {
                    if (gone.get(i).number == number) {
                        // Those that leave are lower on the list than those that sink, for they are further on.
                        need(gone.size() - (state.sunk - sunk) > i, "NoSuchElementException");
                        return hours;
                    }
                }
            }
        } finally {
            state = present;
        }
        throw new Refused("NoSuchElementException");
    }

    int spanByStrength(int rank) throws Refused {
        need(rank >= 0 && rank < state.spans.size(), "NoSuchElementException");
        List<Integer> order = new ArrayList<>();
        for (int i = 0; i < state.spans.size(); i++) {
            order.add(i);
        }
        order.sort((x, y) -> {
            Span p = state.spans.get(x);
            Span q = state.spans.get(y);
            return p.strength() != q.strength() ? p.strength() - q.strength() : q.cracks - p.cracks;
        });
        return order.get(rank);
    }

    int greatestWeight() {
        State present = state;
        for (int weight = 99; weight >= 1; weight--) {
            state = present.copy();
            try {
                apply("enter", weight, 0);
                return weight;
            } catch (Refused e) {
                continue;
            } finally {
                state = present;
            }
        }
        return 0;
    }

    int writeSpan(int index) throws Refused {
        Span s = span(index);
        line = index + ":" + s.length + "j" + s.jars + "h" + s.age + "=" + s.strength() + "/".repeat(s.cracks);
        for (Vehicle v : state.vehicles) {
            line += v.span == index ? " " + v.number + "w" + v.weight : "";
        }
        return line.length();
    }

    int writeBridge() {
        List<String> parts = new ArrayList<>();
        for (int i = 0; i < state.spans.size(); i++) {
            parts.add(state.load(i) + (state.strained(i) ? "!" : ""));
        }
        line = String.join("|", parts);
        return line.length();
    }

    int spanNumber(String what, int index) throws Refused {
        Span s = span(index);
        switch (what) {
            case "jars":
                return s.jars;
            case "age":
                return s.age;
            case "cracks":
                return s.cracks;
            case "stress":
                return s.stress;
            case "strength":
                return s.strength();
            case "load":
                return state.load(index);
            default:
                return state.strained(index) ? 1 : 0;
        }
    }

    double meanStrength() throws Refused {
        need(!state.spans.isEmpty(), "ArithmeticException");
        double sum = 0;
        for (Span span : state.spans) {
            sum += span.strength();
        }
        return sum / state.spans.size();
    }

    float sunkShare() throws Refused {
        need(state.sunk + state.crossed > 0, "ArithmeticException");
        return (float) state.sunk / (state.sunk + state.crossed);
    }
}
