/** Many runs of at most 512 calls, each answer compared with the model's: all promises together. */
public final class ModelTest extends Check {
    private static final int RUNS = 8000;
    private static final int CALLS = 512;
    // At the end of a run all is looked at; ahead of it, one more act takes a dozen calls at most.
    private static final int LAST_LOOK = 167;
    private static final int LONGEST_ACT = 20;
    private static final String SIGNS = "+-,=><*/abcdefghijk0123456789";

    private long seed;
    private SettingsVault vault;
    private Model model;
    private String run;
    private int wrong;

    public static void main(String[] args) {
        int wrong = 0;
        for (int run = 0; run < RUNS && wrong == 0; run++) {
            ModelTest test = new ModelTest();
            test.seed = run;
            wrong += test.play(run);
        }
        due("wrong answers", wrong, 0);
        end();
    }

    /** The next number of a fixed row, from 0 to below the bound. */
    private int next(int bound) {
        seed = seed * 6364136223846793005L + 1442695040888963407L;
        return (int) ((seed >>> 33) % bound);
    }

    private boolean oneIn(int many) {
        return next(many) == 0;
    }

    private int play(int number) {
        vault = new SettingsVault();
        model = new Model();
        run = "run " + number + ", call ";
        int calls = 0;
        // Some runs set much, some spoil much, some are short of power.
        int mood = next(4);
        while (calls + LONGEST_ACT + LAST_LOOK <= CALLS && wrong == 0) {
            calls += act(mood, calls);
            for (int more = next(3); more > 0; more--) {
                glimpse(calls);
                calls++;
            }
        }
        calls += lookAtAll(calls);
        due("calls within the limit", calls <= CALLS ? 1 : 0, 1);
        return wrong;
    }

    private void same(int call, String what, int got, int want) {
        if (got != want) {
            wrong++;
            due(run + call + " " + what, got, want);
        }
    }

    private int name() {
        return oneIn(12) ? next(14) - 2 : next(5);
    }

    private int value() {
        return oneIn(12) ? next(270) - 7 : oneIn(3) ? next(256) : next(12);
    }

    private int page() {
        return oneIn(20) ? next(4) - 1 : next(2);
    }

    private int version() {
        return oneIn(3) ? next(8) - 1 : model.state(2) + 1 + next(2);
    }

    private int writes() {
        return oneIn(10) ? next(215) - 8 : next(12);
    }

    private int act(int mood, int call) {
        int kind = next(100);
        if (kind < 8) {
            return text(call);
        }
        if (kind < (mood == 0 ? 70 : 45)) {
            int name = name();
            int value = value();
            same(call, "set " + name + " " + value, vault.set(name, value), model.set(name, value));
            return 1;
        }
        if (kind < 50) {
            int name = name();
            int value = value();
            int writes = writes();
            int asked = name();
            same(call, "ifFailed", vault.ifFailed(name, value, writes, asked),
                model.ifFailed(name, value, writes, asked));
            return 1;
        }
        if (kind < 60) {
            return mood == 2 || oneIn(3) ? spoil(call) : 0;
        }
        if (kind < 75) {
            return power(mood, call);
        }
        return rarer(kind, call);
    }

    private int rarer(int kind, int call) {
        int version = version();
        int image = oneIn(10) ? next(5) - 1 : next(2);
        switch (kind % 8) {
            case 0:
            case 1:
                same(call, "compact", vault.compact(), model.compact());
                return 1;
            case 2:
                if (oneIn(3)) {
                    same(call, "migrate " + version, vault.migrate(version), model.migrate(version));
                }
                return 1;
            case 3:
            case 4:
                if (oneIn(5) || model.state(1) == NONE) {
                    version = next(7) - 1;
                    same(call, "factory " + version, vault.factory(version), model.factory(version));
                }
                return 1;
            case 5:
                same(call, "keep " + image, vault.keep(image), model.keep(image));
                return 1;
            case 6:
                same(call, "back " + image, vault.back(image), model.back(image));
                return 1;
            default:
                int name = name();
                same(call, "ifMigrated " + version + " " + name, vault.ifMigrated(version, name),
                    model.ifMigrated(version, name));
                return 1;
        }
    }

    private int power(int mood, int call) {
        if (model.state(0) == 0 || oneIn(4)) {
            same(call, "start", vault.start(), model.start());
            return 1;
        }
        int writes = mood == 3 || oneIn(4) ? writes() : NONE;
        same(call, "fail " + writes, vault.fail(writes), model.fail(writes));
        return 1;
    }

    private int spoil(int call) {
        int page = page();
        if (oneIn(3)) {
            return spoilWell(call, page);
        }
        int index = oneIn(20) ? next(60) - 6 : oneIn(3) ? next(3) : next(48);
        int value = oneIn(4) ? NONE : oneIn(3) ? 200 + next(7) : value();
        same(call, "spoil " + page + " " + index, vault.spoil(page, index, value), model.spoil(page, index, value));
        return 1;
    }

    /** Spoils three cells, mostly so that they are good. */
    private int spoilWell(int call, int page) {
        int version = next(7);
        int sequence = oneIn(4) ? next(210) : Math.floorMod(model.state(3) + next(5) - 2 + 100 * next(2), 200);
        int name = name();
        int value = value();
        int index = oneIn(2) ? 0 : 3 + 3 * next(15);
        int[] cells = index == 0
            ? new int[] {200 + version, sequence, headCheck(version, sequence)}
            : new int[] {1 + name, value, Math.floorMod(recordCheck(name, value, Math.max(0, model.state(2))), 251)};
        for (int i = 0; i < 3; i++) {
            same(call, "spoil " + page + " " + index, vault.spoil(page, index + i, cells[i]),
                model.spoil(page, index + i, cells[i]));
        }
        return 3;
    }

    private int text(int call) {
        if (oneIn(6)) {
            return noise(call);
        }
        same(call, "wipe", vault.wipe(), model.wipe());
        StringBuilder text = new StringBuilder();
        int steps = 1 + next(model.state(8) == 0 ? 8 : 4);
        for (int i = 0; i < steps; i++) {
            text.append(i == 0 ? "" : ",").append(step());
        }
        if (oneIn(6)) {
            text.setCharAt(next(text.length()), SIGNS.charAt(next(SIGNS.length())));
        }
        int calls = 3;
        for (int i = 0; i < text.length(); i += 8) {
            long code = code(text.substring(i, Math.min(i + 8, text.length())));
            same(call, "put " + text, vault.put(code), model.put(code));
            calls++;
        }
        same(call, "fault " + text, vault.fault(), model.fault());
        same(call, "define " + text, vault.define(), model.define());
        return calls;
    }

    private int noise(int call) {
        long code = 0;
        for (int count = 1 + next(8); count > 0; count--) {
            code = code << 8 | (oneIn(40) ? next(256) : SIGNS.charAt(next(SIGNS.length())));
        }
        same(call, "put " + code, vault.put(code), model.put(code));
        same(call, "fault", vault.fault(), model.fault());
        return 2;
    }

    private String step() {
        char name = (char) ('a' + next(oneIn(8) ? 10 : 5));
        char other = (char) ('a' + next(oneIn(8) ? 10 : 5));
        int number = oneIn(6) ? next(300) : next(256);
        switch (model.state(8) == 0 && !oneIn(3) ? 0 : next(7)) {
            case 0:
            case 1:
                return "+" + name + number + "=" + next(number + 1 + (oneIn(20) ? 5 : 0));
            case 2:
                return "-" + name;
            case 3:
                return name + ">" + other;
            case 4:
                return name + "*" + (2 + next(8));
            case 5:
                return name + "/" + (2 + next(8));
            default:
                return name + "<" + number;
        }
    }

    /** Compares one of the answers that change nothing. */
    private void glimpse(int call) {
        int name = name();
        int version = next(8) - 1;
        int page = page();
        switch (next(10)) {
            case 0:
            case 1:
                int number = next(15) - 1;
                same(call, "state " + number, vault.state(number), model.state(number));
                break;
            case 2:
                same(call, "get " + name, vault.get(name), model.get(name));
                break;
            case 3:
                same(call, "record " + name, vault.record(name), model.record(name));
                break;
            case 4:
            case 5:
                int what = next(8) - 1;
                same(call, "page " + page + " " + what, vault.page(page, what), model.page(page, what));
                break;
            case 6:
                int index = next(50) - 1;
                same(call, "cell " + page + " " + index, vault.cell(page, index), model.cell(page, index));
                break;
            case 7:
                int asked = next(5) - 1;
                same(call, "layout " + version + " " + name + " " + asked, vault.layout(version, name, asked),
                    model.layout(version, name, asked));
                break;
            default:
                same(call, "ifMigrated " + version + " " + name, vault.ifMigrated(version, name),
                    model.ifMigrated(version, name));
        }
    }

    /** Compares what can be seen of the settings and the pages. */
    private int lookAtAll(int call) {
        for (int what = -1; what < 14; what++) {
            same(call, "state " + what, vault.state(what), model.state(what));
        }
        for (int name = -1; name < 11; name++) {
            same(call, "get " + name, vault.get(name), model.get(name));
            same(call, "record " + name, vault.record(name), model.record(name));
        }
        for (int page = -1; page < 3; page++) {
            for (int what = -1; what < 7; what++) {
                same(call, "page " + page + " " + what, vault.page(page, what), model.page(page, what));
            }
        }
        for (int index = 0; index < 48; index++) {
            same(call, "cell 0 " + index, vault.cell(0, index), model.cell(0, index));
            same(call, "cell 1 " + index, vault.cell(1, index), model.cell(1, index));
        }
        return LAST_LOOK;
    }
}
