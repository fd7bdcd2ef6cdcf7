import java.util.Arrays;

/** All promises: long runs of mixed calls, each answer compared with the model's. */
public final class ModelTest {
    private interface Call {
        double answer() throws Model.Refused;
    }

    private static final Check check = new Check("ModelTest");
    private static final String[] WORDS = {"span", "pour", "enter", "mend", "rate", "wait", "cut"};
    private static final String[] SPAN_NUMBERS = {"jars", "age", "cracks", "stress", "strength", "load", "isStrained"};
    private static final int[] WRONG = {-1, Integer.MIN_VALUE, Integer.MAX_VALUE, 100, 51, 49, 21, 10, 0};

    private static long seed;
    private static JamBridge bridge;
    private static Model model;
    private static String what;
    private static int calls;

    /** What the runs have reached at least: without it they would not test much. */
    private static int mostCracks;
    private static int mostVehicles;
    private static int sunk;
    private static int crossed;
    private static int fullTexts;
    private static int mends;
    private static int[] denials = new int[10];

    public static void main(String[] args) {
        for (int run = 1; run <= 6000; run++) {
            seed = run * 7919L;
            bridge = new JamBridge();
            model = new Model();
            calls = 0;
            int style = draw(4);
            while (calls < 360) {
                what = "run " + run + ", call " + calls;
                step(style);
            }
            compareAll();
            sunk += model.state.sunk;
            crossed += model.state.crossed;
        }
        check.same("most cracks", mostCracks, 9);
        check.same("most vehicles", mostVehicles, 8);
        check.yes("many sank: " + sunk, sunk > 3000);
        check.yes("many crossed: " + crossed, crossed > 5000);
        check.yes("texts executed: " + fullTexts, fullTexts > 1000);
        check.yes("repairs: " + mends, mends > 150);
        for (int number = 1; number <= 8; number++) {
            check.yes("denials " + Arrays.toString(denials), denials[number] > 50);
        }
        check.end();
    }

    private static int draw(int bound) {
        seed = seed * 6364136223846793005L + 1442695040888963407L;
        return (int) Math.floorMod(seed >>> 33, (long) bound);
    }

    private static double answer(Call call) {
        calls++;
        try {
            return call.answer();
        } catch (Model.Refused e) {
            return refused(e.kind);
        } catch (RuntimeException e) {
            return refused(e.getClass().getSimpleName());
        }
    }

    /** A number for each exception, far from all answers. */
    private static double refused(String kind) {
        return -1e12 - kind.hashCode();
    }

    private static double same(String name, Call program, Call due) {
        double got = answer(program);
        calls--;
        double want = answer(due);
        check.same(what + ": " + name, got, want);
        return got;
    }

    private static void step(int style) {
        int kind = draw(100);
        if (kind < 60) {
            change(style);
        } else if (kind < 66 && calls < 280) {
            text(style);
        } else if (kind < 70) {
            same("undo", () -> bridge.undo(), () -> model.undo());
            same("undoCount", () -> bridge.undoCount(), () -> model.undoCount());
        } else if (kind < 71) {
            same("saveSnapshot", () -> bridge.saveSnapshot(), () -> model.save());
        } else if (kind < 72) {
            same("restoreSnapshot", () -> bridge.restoreSnapshot(), () -> model.restore());
        } else {
            query();
        }
        for (Model.Span span : model.state.spans) {
            mostCracks = Math.max(mostCracks, span.cracks);
        }
        mostVehicles = Math.max(mostVehicles, model.state.vehicles.size());
    }

    private static int word(int style) {
        int[][] shares = {
            {8, 20, 50, 60, 64, 96, 98},
            {4, 12, 62, 70, 72, 99, 99},
            {20, 45, 60, 70, 75, 90, 100},
            {1, 4, 50, 58, 60, 100, 100},
        };
        int share = draw(100);
        for (int word = 0; word < 7; word++) {
            if (share < shares[style][word]) {
                return word;
            }
        }
        return 6;
    }

    private static int first(int word) {
        if (draw(25) == 0) {
            return WRONG[draw(WRONG.length)];
        }
        switch (word) {
            case 0:
                return 1 + draw(20);
            case 3:
                int cracked = draw(Math.max(1, model.state.spans.size()));
                for (int tries = draw(10); tries > 0 && model.state.spans.size() > cracked; tries--) {
                    cracked = model.state.spans.get(cracked).cracks > 0 ? cracked : draw(model.state.spans.size());
                }
                return cracked;
            case 1:
                return draw(Math.max(1, model.state.spans.size()));
            case 2:
                int most = model.greatestWeight();
                return most > 0 && draw(3) > 0 ? most - draw(1 + most / 5) : 1 + draw(99);
            case 4:
                return draw(21);
            default:
                return draw(4) == 0 ? 1 + draw(48) : 1 + draw(3);
        }
    }

    private static int second(int word) {
        if (draw(25) == 0) {
            return WRONG[draw(WRONG.length)];
        }
        return word == 1 ? 1 + draw(draw(4) == 0 ? 50 : 20) : 1 + draw(draw(4) == 0 ? 9 : 3);
    }

    private static void change(int style) {
        if (model.state.spans.isEmpty() && draw(3) > 0) {
            for (int spans = draw(1 + style) + 1; spans > 0; spans--) {
                change(0, 1 + draw(20), 0);
                if (draw(4) > 0) {
                    change(1, model.state.spans.size() - 1, 20 + draw(30));
                }
            }
            return;
        }
        int word = word(style);
        change(word, first(word), second(word));
    }

    private static void change(int word, int a, int b) {
        double got = same(WORDS[word] + " " + a + " " + b, () -> call(word, a, b), () -> model.change(WORDS[word], a, b));
        if (word == 3 && got >= 0) {
            mends++;
        }
        denial();
    }

    private static int call(int word, int a, int b) {
        switch (word) {
            case 0:
                return bridge.addSpan(a);
            case 1:
                return bridge.pour(a, b);
            case 2:
                return bridge.enter(a);
            case 3:
                return bridge.mend(a, b);
            case 4:
                return bridge.setRate(a);
            case 5:
                return bridge.pass(a);
            default:
                return bridge.removeLastSpan();
        }
    }

    private static String command(int style) {
        int word = word(style);
        int a = Math.floorMod(first(word), 100);
        int b = Math.floorMod(second(word), 100);
        switch (word) {
            case 1:
                return "pour " + a % 10 + " " + b;
            case 3:
                return "mend " + a % 10 + " " + b % 10;
            case 6:
                return "cut";
            default:
                return WORDS[word] + " " + (draw(8) == 0 && a < 10 ? "0" : "") + a;
        }
    }

    private static void text(int style) {
        StringBuilder text = new StringBuilder(command(style));
        for (int more = draw(6); more > 0; more--) {
            text.append(';').append(command(style));
        }
        if (draw(5) == 0) {
            String signs = " ;0129spanourcutew/:\u0661\uffff";
            text.setCharAt(draw(text.length()), signs.charAt(draw(signs.length())));
        }
        if (draw(12) == 0) {
            text.setLength(draw(text.length()));
        }
        for (int i = 0; i < text.length(); i++) {
            char sign = text.charAt(i);
            same("feed " + sign, () -> bridge.feed(sign), () -> model.feed(sign));
        }
        double got = same("execute " + text, () -> bridge.execute(), () -> model.execute());
        if (got > 0) {
            fullTexts++;
        }
        same("faultPosition after " + text, () -> bridge.faultPosition(), () -> {
            if (model.fault == null) {
                throw new Model.Refused("NoSuchElementException");
            }
            return model.fault;
        });
        denial();
    }

    private static int ofDenial(int index) throws Model.Refused {
        if (model.denial == null || index == 2 && model.denial[2] == 0) {
            throw new Model.Refused("NoSuchElementException");
        }
        return model.denial[index];
    }

    private static void denial() {
        same("denial", () -> bridge.denial(), () -> ofDenial(0));
        same("denialDetail", () -> bridge.denialDetail(), () -> ofDenial(1));
        same("denialCause", () -> bridge.denialCause(), () -> ofDenial(2));
        if (model.denial != null) {
            denials[model.denial[0]]++;
        }
    }

    private static int number(String name, int span) {
        switch (name) {
            case "jars":
                return bridge.jars(span);
            case "age":
                return bridge.age(span);
            case "cracks":
                return bridge.cracks(span);
            case "stress":
                return bridge.stress(span);
            case "strength":
                return bridge.strength(span);
            case "load":
                return bridge.load(span);
            default:
                return bridge.isStrained(span) ? 1 : 0;
        }
    }

    private static void query() {
        int span = draw(20) == 0 ? WRONG[draw(WRONG.length)] : draw(1 + model.state.spans.size());
        switch (draw(10)) {
            case 0:
                int weight = draw(20) == 0 ? WRONG[draw(WRONG.length)] : 1 + draw(99);
                same("hoursUntilBears", () -> bridge.hoursUntilBears(span, weight),
                        () -> model.hoursUntilBears(span, weight));
                same("hoursUntilBearsByDivision", () -> bridge.hoursUntilBearsByDivision(span, weight),
                        () -> model.hoursUntilBears(span, weight));
                break;
            case 1:
                same("spanByStrength", () -> bridge.spanByStrength(span), () -> model.spanByStrength(span));
                break;
            case 2:
                for (String name : SPAN_NUMBERS) {
                    same(name, () -> number(name, span), () -> model.spanNumber(name, span));
                }
                break;
            case 3:
            case 4:
                vehicle();
                break;
            case 5:
                same("writeSpan", () -> bridge.writeSpan(span), () -> model.writeSpan(span));
                line();
                break;
            case 6:
                same("writeBridge", () -> bridge.writeBridge(), () -> model.writeBridge());
                line();
                break;
            default:
                accounts();
        }
    }

    private static void vehicle() {
        int position = draw(15) == 0 ? WRONG[draw(WRONG.length)] : draw(1 + model.state.vehicles.size());
        boolean there = position >= 0 && position < model.state.vehicles.size();
        int vehicle = there ? model.state.vehicles.get(position).number : model.state.next - draw(9);
        same("vehicleAt", () -> bridge.vehicleAt(position), () -> {
            if (!there) {
                throw new Model.Refused("IndexOutOfBoundsException");
            }
            return vehicle;
        });
        same("weightOf", () -> bridge.weightOf(vehicle), () -> model.vehicle(vehicle).weight);
        same("spanOf", () -> bridge.spanOf(vehicle), () -> model.vehicle(vehicle).span);
        same("tollOf", () -> bridge.tollOf(vehicle), () -> model.state.toll(model.vehicle(vehicle)));
        same("hoursUntilOver", () -> bridge.hoursUntilOver(vehicle), () -> model.hoursUntilOver(vehicle));
    }

    private static void line() {
        int index = draw(10) == 0 ? WRONG[draw(WRONG.length)] : draw(model.line.length() + 1);
        same("lineCharacter", () -> bridge.lineCharacter(index), () -> {
            if (index < 0 || index >= model.line.length()) {
                throw new Model.Refused("IndexOutOfBoundsException");
            }
            return model.line.charAt(index);
        });
    }

    private static void accounts() {
        Model.State s = model.state;
        same("spanCount", () -> bridge.spanCount(), () -> s.spans.size());
        same("vehicleCount", () -> bridge.vehicleCount(), () -> s.vehicles.size());
        same("hour", () -> bridge.hour(), () -> s.hour);
        same("rate", () -> bridge.rate(), () -> s.rate);
        same("till", () -> bridge.till(), () -> s.till);
        same("paidTolls", () -> bridge.paidTolls(), () -> s.till + s.spent);
        same("crossed", () -> bridge.crossed(), () -> s.crossed);
        same("sunk", () -> bridge.sunk(), () -> s.sunk);
        same("greatestWeight", () -> bridge.greatestWeight(), () -> model.greatestWeight());
        same("totalLoad", () -> bridge.totalLoad(), () -> s.vehicles.stream().mapToInt(v -> v.weight).sum());
        same("totalLoadByVehicles", () -> bridge.totalLoadByVehicles(),
                () -> s.vehicles.stream().mapToInt(v -> v.weight).sum());
        same("meanStrength", () -> bridge.meanStrength(), () -> model.meanStrength());
        same("sunkShare", () -> bridge.sunkShare(), () -> model.sunkShare());
        same("undoCount", () -> bridge.undoCount(), () -> model.undoCount());
    }

    private static void compareAll() {
        accounts();
        int before = model.state.spans.size();
        for (Model.Vehicle due : model.state.vehicles) {
            int number = due.number;
            same("weightOf", () -> bridge.weightOf(number), () -> due.weight);
            int span = (int) same("spanOf", () -> bridge.spanOf(number), () -> due.span);
            check.yes(what + ": a higher number is on no higher span", span <= before);
            before = span;
        }
        for (int index = 0; index < model.state.spans.size(); index++) {
            int span = index;
            for (String name : SPAN_NUMBERS) {
                same(name, () -> number(name, span), () -> model.spanNumber(name, span));
            }
        }
    }
}
