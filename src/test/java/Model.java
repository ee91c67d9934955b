import java.util.ArrayList;
import java.util.List;
import java.util.Map;
import java.util.TreeMap;
import java.util.regex.Matcher;
import java.util.regex.Pattern;

/**
 * The document once more, written in another way than the class: texts by patterns, layouts and values by maps, the
 * power that fails by an exception, and what is had of a page only when all was written.
 */
final class Model {
    private static final int NO_SUCH = -1;
    private static final int BAD_VALUE = -2;
    private static final int BAD_TEXT = -3;
    private static final int TOO_MANY = -4;
    private static final int NOT_POSSIBLE = -5;
    private static final int NONE = -6;

    private static final String NUMBER = "(0|[1-9][0-9]?|1[0-9][0-9]|2[0-4][0-9]|25[0-5])";
    private static final String STEP = "([+][a-j]" + NUMBER + "=" + NUMBER
        + "|-[a-j]|[a-j]>[a-j]|[a-j][*/][2-9]|[a-j]<" + NUMBER + ")";
    private static final Pattern STEPS = Pattern.compile(STEP + "(," + STEP + ")*");

    private static final class PowerFailed extends Exception {
        private static final long serialVersionUID = 1L;
    }

    private record Setting(int greatest, int defaultValue, int before) {
    }

    /** Everything that an image keeps. */
    private static final class Everything {
        Integer[][] cells = new Integer[2][48];
        int[] writes = new int[2];
        int[] erasures = new int[2];
        boolean on = true;
        Integer left = null;
        int bad = 0;
        Known known = new Known();

        Everything copy() {
            Everything copy = new Everything();
            for (int page = 0; page < 2; page++) {
                copy.cells[page] = cells[page].clone();
            }
            copy.writes = writes.clone();
            copy.erasures = erasures.clone();
            copy.on = on;
            copy.left = left;
            copy.bad = bad;
            copy.known = known.copy();
            return copy;
        }
    }

    /** What the vault has of its active page. */
    private static final class Known {
        int active = NONE;
        int version = NONE;
        int sequence = NONE;
        int records = 15;
        Map<Integer, Integer> values = new TreeMap<>();
        Map<Integer, Integer> places = new TreeMap<>();

        Known copy() {
            Known copy = new Known();
            copy.active = active;
            copy.version = version;
            copy.sequence = sequence;
            copy.records = records;
            copy.values = new TreeMap<>(values);
            copy.places = new TreeMap<>(places);
            return copy;
        }
    }

    private final List<Map<Integer, Setting>> layouts = new ArrayList<>();
    private final List<String> texts = new ArrayList<>();
    private String pad = "";
    private Everything now = new Everything();
    private final Everything[] images = new Everything[2];
    private int written;

    // ---- texts

    int put(long characters) {
        String hex = Long.toHexString(characters);
        if (hex.length() % 2 == 1) {
            hex = "0" + hex;
        }
        StringBuilder text = new StringBuilder();
        for (int i = 0; i < hex.length(); i += 2) {
            int code = Integer.parseInt(hex.substring(i, i + 2), 16);
            if (code < 33 || code > 126) {
                return BAD_VALUE;
            }
            text.append((char) code);
        }
        if (pad.length() + text.length() > 80) {
            return TOO_MANY;
        }
        pad += text;
        return pad.length();
    }

    int wipe() {
        int length = pad.length();
        pad = "";
        return length;
    }

    int fault() {
        for (int end = 1; end <= pad.length(); end++) {
            Matcher matcher = STEPS.matcher(pad.substring(0, end));
            if (!matcher.matches() && !matcher.hitEnd()) {
                return end - 1;
            }
        }
        return STEPS.matcher(pad).matches() ? NONE : pad.length();
    }

    // ---- layouts

    int define() {
        if (fault() != NONE) {
            return BAD_TEXT;
        }
        if (layouts.size() == 6) {
            return TOO_MANY;
        }
        Map<Integer, Setting> layout = new TreeMap<>();
        if (!layouts.isEmpty()) {
            for (Map.Entry<Integer, Setting> entry : layouts.get(layouts.size() - 1).entrySet()) {
                Setting setting = entry.getValue();
                layout.put(entry.getKey(), new Setting(setting.greatest(), setting.defaultValue(), entry.getKey()));
            }
        }
        for (String step : pad.split(",")) {
            if (!doStep(layout, step)) {
                return NOT_POSSIBLE;
            }
        }
        layouts.add(layout);
        texts.add(pad);
        pad = "";
        return layouts.size() - 1;
    }

    private static boolean doStep(Map<Integer, Setting> layout, String step) {
        char first = step.charAt(0);
        if (first == '+') {
            int name = step.charAt(1) - 'a';
            String[] numbers = step.substring(2).split("=");
            int greatest = Integer.parseInt(numbers[0]);
            int defaultValue = Integer.parseInt(numbers[1]);
            if (layout.containsKey(name) || defaultValue > greatest) {
                return false;
            }
            layout.put(name, new Setting(greatest, defaultValue, NONE));
            return true;
        }
        if (first == '-') {
            return layout.remove(step.charAt(1) - 'a') != null;
        }
        int name = first - 'a';
        if (!layout.containsKey(name)) {
            return false;
        }
        if (step.charAt(1) == '>') {
            int other = step.charAt(2) - 'a';
            if (layout.containsKey(other)) {
                return false;
            }
            layout.put(other, layout.remove(name));
            return true;
        }
        Setting old = layout.get(name);
        layout.put(name, new Setting(change(step, old.greatest()), change(step, old.defaultValue()), old.before()));
        return true;
    }

    private static int change(String step, int value) {
        int number = Integer.parseInt(step.substring(2));
        switch (step.charAt(1)) {
            case '*':
                return Math.min(255, value * number);
            case '/':
                return value / number;
            default:
                return Math.min(value, number);
        }
    }

    private Map<Integer, Integer> migrated(int version) {
        Map<Integer, Integer> values = new TreeMap<>(now.known.values);
        for (int next = now.known.version + 1; next <= version; next++) {
            for (String step : texts.get(next).split(",")) {
                int name = step.charAt(0) - 'a';
                if (step.charAt(0) == '+') {
                    values.put(step.charAt(1) - 'a', Integer.parseInt(step.substring(step.indexOf('=') + 1)));
                } else if (step.charAt(0) == '-') {
                    values.remove(step.charAt(1) - 'a');
                } else if (step.charAt(1) == '>') {
                    values.put(step.charAt(2) - 'a', values.remove(name));
                } else {
                    values.put(name, change(step, values.get(name)));
                }
            }
        }
        return values;
    }

    private boolean isVersion(int version) {
        return version >= 0 && version < layouts.size();
    }

    private Map<Integer, Setting> present() {
        return layouts.get(now.known.version);
    }

    int layout(int version, int name, int what) {
        if (!isVersion(version) || !layouts.get(version).containsKey(name)) {
            return NO_SUCH;
        }
        if (what < 0 || what > 2) {
            return BAD_VALUE;
        }
        Setting setting = layouts.get(version).get(name);
        return new int[] {setting.greatest(), setting.defaultValue(), setting.before()}[what];
    }

    // ---- writing

    private void write(int page, int index, int value) throws PowerFailed {
        if (now.left != null) {
            if (now.left == 0) {
                now.on = false;
                now.left = null;
                throw new PowerFailed();
            }
            now.left--;
        }
        now.cells[page][index] = value;
        now.writes[page]++;
        written++;
    }

    private void erase(int page) {
        now.cells[page] = new Integer[48];
        now.erasures[page]++;
    }

    private void writeRecord(Known known, int name, int value) throws PowerFailed {
        int index = 3 + 3 * known.records;
        write(known.active, index, 1 + name);
        write(known.active, index + 1, value);
        write(known.active, index + 2, (7 * (1 + name) + 11 * value + 13 * known.version + 5) % 251);
        known.values.put(name, value);
        known.places.put(name, index);
        known.records++;
    }

    private void writeHead(Known known) throws PowerFailed {
        write(known.active, 0, 200 + known.version);
        write(known.active, 1, known.sequence);
        write(known.active, 2, (3 * (200 + known.version) + 5 * known.sequence + 1) % 251);
    }

    private int fill(int version, Map<Integer, Integer> values) {
        Known next = new Known();
        next.active = 1 - now.known.active;
        next.version = version;
        next.sequence = (now.known.sequence + 1) % 200;
        next.records = 0;
        next.values = new TreeMap<>(values);
        written = 0;
        try {
            erase(next.active);
            for (int name : values.keySet()) {
                if (values.get(name) != layouts.get(version).get(name).defaultValue()) {
                    writeRecord(next, name, values.get(name));
                }
            }
            writeHead(next);
            now.known = next;
        } catch (PowerFailed failed) {
            return written;
        }
        return written;
    }

    private int setNow(int name, int value) {
        if (now.known.values.get(name) == value) {
            return 0;
        }
        if (now.known.records == 15) {
            Map<Integer, Integer> values = new TreeMap<>(now.known.values);
            values.put(name, value);
            return fill(now.known.version, values);
        }
        Known next = now.known.copy();
        written = 0;
        try {
            writeRecord(next, name, value);
            now.known = next;
        } catch (PowerFailed failed) {
            return written;
        }
        return written;
    }

    // ---- power

    int fail(int writes) {
        if (writes != NONE && (writes < 0 || writes > 200)) {
            return BAD_VALUE;
        }
        if (!now.on) {
            return NOT_POSSIBLE;
        }
        int before = now.left == null ? 0 : 1;
        now.left = writes == NONE ? null : (Integer) writes;
        return before;
    }

    int start() {
        now.on = true;
        now.left = null;
        now.bad = 0;
        Known known = new Known();
        if (goodHead(0) && goodHead(1)) {
            int ahead = (now.cells[1][1] - now.cells[0][1] + 200) % 200;
            known.active = ahead >= 1 && ahead <= 100 ? 1 : 0;
        } else if (goodHead(0) || goodHead(1)) {
            known.active = goodHead(0) ? 0 : 1;
        }
        now.known = known;
        if (known.active == NONE) {
            return NONE;
        }
        Integer[] cells = now.cells[known.active];
        known.version = cells[0] - 200;
        known.sequence = cells[1];
        for (Map.Entry<Integer, Setting> entry : present().entrySet()) {
            known.values.put(entry.getKey(), entry.getValue().defaultValue());
        }
        known.records = 0;
        for (int index : recordsOf(known.active)) {
            known.records++;
            if (goodRecord(known.active, index)) {
                known.values.put(cells[index] - 1, cells[index + 1]);
                known.places.put(cells[index] - 1, index);
            } else {
                now.bad++;
            }
        }
        return known.active;
    }

    private boolean goodHead(int page) {
        Integer[] cells = now.cells[page];
        if (cells[0] == null || cells[1] == null || cells[2] == null) {
            return false;
        }
        return isVersion(cells[0] - 200) && cells[1] <= 199 && cells[2] == (3 * cells[0] + 5 * cells[1] + 1) % 251;
    }

    private List<Integer> recordsOf(int page) {
        List<Integer> indices = new ArrayList<>();
        for (int index = 3; index <= 45 && now.cells[page][index] != null; index += 3) {
            indices.add(index);
        }
        return indices;
    }

    private boolean goodRecord(int page, int index) {
        Integer[] cells = now.cells[page];
        int version = cells[0] - 200;
        if (cells[index + 1] == null || cells[index + 2] == null) {
            return false;
        }
        Setting setting = layouts.get(version).get(cells[index] - 1);
        return setting != null && cells[index + 1] <= setting.greatest()
            && cells[index + 2] == (7 * cells[index] + 11 * cells[index + 1] + 13 * version + 5) % 251;
    }

    // ---- settings

    private boolean isThere(int name) {
        return now.known.active != NONE && present().containsKey(name);
    }

    int get(int name) {
        if (!now.on) {
            return NOT_POSSIBLE;
        }
        return isThere(name) ? now.known.values.get(name) : NO_SUCH;
    }

    int set(int name, int value) {
        if (!now.on) {
            return NOT_POSSIBLE;
        }
        if (!isThere(name)) {
            return NO_SUCH;
        }
        if (value < 0 || value > present().get(name).greatest()) {
            return BAD_VALUE;
        }
        return setNow(name, value);
    }

    int compact() {
        if (!now.on || now.known.active == NONE) {
            return NOT_POSSIBLE;
        }
        return fill(now.known.version, now.known.values);
    }

    int migrate(int version) {
        if (!now.on || now.known.active == NONE) {
            return NOT_POSSIBLE;
        }
        if (!isVersion(version)) {
            return NO_SUCH;
        }
        return version <= now.known.version ? BAD_VALUE : fill(version, migrated(version));
    }

    int factory(int version) {
        if (!now.on) {
            return NOT_POSSIBLE;
        }
        if (!isVersion(version)) {
            return NO_SUCH;
        }
        Known next = new Known();
        next.active = 0;
        next.version = version;
        next.sequence = 0;
        next.records = 0;
        layouts.get(version).forEach((name, setting) -> next.values.put(name, setting.defaultValue()));
        written = 0;
        try {
            erase(0);
            erase(1);
            writeHead(next);
            now.known = next;
        } catch (PowerFailed failed) {
            return written;
        }
        return written;
    }

    // ---- cells

    int cell(int page, int index) {
        if (page < 0 || page > 1 || index < 0 || index > 47) {
            return NO_SUCH;
        }
        Integer value = now.cells[page][index];
        return value == null ? NONE : value;
    }

    int spoil(int page, int index, int value) {
        int before = cell(page, index);
        if (before == NO_SUCH) {
            return NO_SUCH;
        }
        if (value != NONE && (value < 0 || value > 255)) {
            return BAD_VALUE;
        }
        now.cells[page][index] = value == NONE ? null : (Integer) value;
        return before;
    }

    int page(int page, int what) {
        if (page < 0 || page > 1) {
            return NO_SUCH;
        }
        int good = 0;
        int bad = 0;
        if (goodHead(page)) {
            for (int index : recordsOf(page)) {
                if (goodRecord(page, index)) {
                    good++;
                } else {
                    bad++;
                }
            }
        }
        int filled = 0;
        for (Integer value : now.cells[page]) {
            filled += value == null ? 0 : 1;
        }
        int[] answers = {now.writes[page], now.erasures[page], goodHead(page) ? 1 : 0, good, bad, filled};
        return what < 0 || what >= answers.length ? BAD_VALUE : answers[what];
    }

    // ---- what there is

    int state(int what) {
        Known known = now.known;
        int changed = 0;
        for (int name : known.values.keySet()) {
            changed += known.values.get(name) == present().get(name).defaultValue() ? 0 : 1;
        }
        int[] answers = {now.on ? 1 : 0, known.active, known.version, known.sequence, 15 - known.records, now.bad,
            known.values.size(), changed, layouts.size(), now.left == null ? NONE : now.left,
            now.writes[0] + now.writes[1], now.erasures[0] + now.erasures[1], pad.length()};
        return what < 0 || what >= answers.length ? BAD_VALUE : answers[what];
    }

    int record(int name) {
        if (!now.on) {
            return NOT_POSSIBLE;
        }
        return isThere(name) ? now.known.places.getOrDefault(name, NONE) : NO_SUCH;
    }

    // ---- what if

    int ifMigrated(int version, int name) {
        if (!now.on || now.known.active == NONE) {
            return NOT_POSSIBLE;
        }
        if (!isVersion(version) || !layouts.get(version).containsKey(name)) {
            return NO_SUCH;
        }
        return version <= now.known.version ? BAD_VALUE : migrated(version).get(name);
    }

    int ifFailed(int name, int value, int writes, int asked) {
        if (!now.on) {
            return NOT_POSSIBLE;
        }
        if (!isThere(name) || !isThere(asked)) {
            return NO_SUCH;
        }
        if (value < 0 || value > present().get(name).greatest() || writes < 0 || writes > 200) {
            return BAD_VALUE;
        }
        Everything before = now;
        now = now.copy();
        fail(writes);
        setNow(name, value);
        start();
        int answer = isThere(asked) ? now.known.values.get(asked) : NONE;
        now = before;
        return answer;
    }

    // ---- images

    int keep(int image) {
        if (image < 0 || image > 1) {
            return BAD_VALUE;
        }
        images[image] = now.copy();
        return now.known.active;
    }

    int back(int image) {
        if (image < 0 || image > 1) {
            return BAD_VALUE;
        }
        if (images[image] == null) {
            return NOT_POSSIBLE;
        }
        now = images[image].copy();
        return now.known.active;
    }
}
