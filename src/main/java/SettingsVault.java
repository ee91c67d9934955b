/** A vault for settings in two pages of cells, with layouts by versions and power that may fail. */
public final class SettingsVault {
    public static final int NO_SUCH = -1, BAD_VALUE = -2, BAD_TEXT = -3, TOO_MANY = -4, NOT_POSSIBLE = -5, NONE = -6;

    private static final int PAGES = 2;
    private static final int CELLS = 48;
    private static final int HEAD_CELLS = 3;
    private static final int RECORD_CELLS = 3;
    private static final int NAMES = 10;
    private static final int VERSIONS = 6;
    private static final int IMAGES = 2;
    private static final int GREATEST_VALUE = 255;
    private static final int SEQUENCES = 200;
    private static final int LATER_SEQUENCES = 100;
    private static final int HEAD_MARK = 200;
    private static final int CHECK_MODULUS = 251;
    private static final int MOST_WRITES = 200;
    private static final int PAD_LENGTH = 80;
    private static final int PUT_CHARACTERS = 8;
    // The shortest steps, "-a" and a comma, fill the pad with so many.
    private static final int MOST_STEPS = 27;

    private static final int ADD = 0;
    private static final int DROP = 1;
    private static final int RENAME = 2;
    private static final int MULTIPLY = 3;
    private static final int DIVIDE = 4;
    private static final int LIMIT = 5;

    private final Pad pad;
    private final Layouts layouts;
    private final Device device;
    // Kept beside the device, so that a what-if makes no new objects.
    private final Device trial;
    private final Device[] images;
    private final boolean[] kept;

    public SettingsVault() {
        pad = new Pad();
        layouts = new Layouts();
        device = new Device(layouts);
        trial = new Device(layouts);
        images = new Device[IMAGES];
        for (int i = 0; i < IMAGES; i++) {
            images[i] = new Device(layouts);
        }
        kept = new boolean[IMAGES];
    }

    // ---- layouts

    public int define() {
        if (pad.read() != NONE) {
            return BAD_TEXT;
        }
        if (layouts.count() >= VERSIONS) {
            return TOO_MANY;
        }
        if (!layouts.extend(pad.steps())) {
            return NOT_POSSIBLE;
        }
        pad.clear();
        return layouts.count() - 1;
    }

    public int layout(int version, int name, int what) {
        Layout layout = layouts.of(version);
        if (!layout.has(name)) {
            return NO_SUCH;
        }
        switch (what) {
            case 0:
                return layout.greatestOf(name);
            case 1:
                return layout.defaultOf(name);
            case 2:
                return layout.nameBefore(name);
            default:
                return BAD_VALUE;
        }
    }

    // ---- power

    public int fail(int writes) {
        if (writes != NONE && !isCountOfWrites(writes)) {
            return BAD_VALUE;
        }
        if (!device.isPowered()) {
            return NOT_POSSIBLE;
        }
        int before = device.writesLeft() == NONE ? 0 : 1;
        device.failBehind(writes);
        return before;
    }

    public int start() {
        device.restart();
        return device.active();
    }

    // ---- settings

    public int get(int name) {
        if (!device.isPowered()) {
            return NOT_POSSIBLE;
        }
        return device.presentLayout().has(name) ? device.valueOf(name) : NO_SUCH;
    }

    public int set(int name, int value) {
        if (!device.isPowered()) {
            return NOT_POSSIBLE;
        }
        if (!device.presentLayout().has(name)) {
            return NO_SUCH;
        }
        if (!device.presentLayout().takes(name, value)) {
            return BAD_VALUE;
        }
        return device.change(name, value);
    }

    public int compact() {
        if (!device.isReady()) {
            return NOT_POSSIBLE;
        }
        return device.moveTo(device.version());
    }

    public int migrate(int version) {
        if (!device.isReady()) {
            return NOT_POSSIBLE;
        }
        if (!layouts.has(version)) {
            return NO_SUCH;
        }
        if (version <= device.version()) {
            return BAD_VALUE;
        }
        return device.moveTo(version);
    }

    public int factory(int version) {
        if (!device.isPowered()) {
            return NOT_POSSIBLE;
        }
        return layouts.has(version) ? device.reset(version) : NO_SUCH;
    }

    // ---- cells

    public int cell(int page, int index) {
        return isCell(page, index) ? device.pageOf(page).valueAt(index) : NO_SUCH;
    }

    public int spoil(int page, int index, int value) {
        if (!isCell(page, index)) {
            return NO_SUCH;
        }
        if (value != NONE && (value < 0 || value > GREATEST_VALUE)) {
            return BAD_VALUE;
        }
        int before = device.pageOf(page).valueAt(index);
        device.pageOf(page).replace(index, value);
        return before;
    }

    public int page(int page, int what) {
        if (!isPage(page)) {
            return NO_SUCH;
        }
        Page asked = device.pageOf(page);
        switch (what) {
            case 0:
                return asked.writes();
            case 1:
                return asked.erasures();
            case 2:
                return asked.hasGoodHead(layouts) ? 1 : 0;
            case 3:
                return asked.countRecords(layouts, true);
            case 4:
                return asked.countRecords(layouts, false);
            case 5:
                return asked.countFilledCells();
            default:
                return BAD_VALUE;
        }
    }

    // ---- what there is

    public int state(int what) {
        switch (what) {
            case 0:
                return device.isPowered() ? 1 : 0;
            case 1:
                return device.active();
            case 2:
                return device.version();
            case 3:
                return device.sequence();
            case 4:
                return device.countRoom();
            case 5:
                return device.badRecords();
            case 6:
                return device.countSettings();
            case 7:
                return device.countChangedSettings();
            case 8:
                return layouts.count();
            case 9:
                return device.writesLeft();
            case 10:
                return device.pageOf(0).writes() + device.pageOf(1).writes();
            case 11:
                return device.pageOf(0).erasures() + device.pageOf(1).erasures();
            case 12:
                return pad.length();
            default:
                return BAD_VALUE;
        }
    }

    public int record(int name) {
        if (!device.isPowered()) {
            return NOT_POSSIBLE;
        }
        return device.presentLayout().has(name) ? device.placeOf(name) : NO_SUCH;
    }

    // ---- what if; nothing changes

    public int ifMigrated(int version, int name) {
        if (!device.isReady()) {
            return NOT_POSSIBLE;
        }
        if (!layouts.of(version).has(name)) {
            return NO_SUCH;
        }
        if (version <= device.version()) {
            return BAD_VALUE;
        }
        return device.migratedValueOf(version, name);
    }

    public int ifFailed(int name, int value, int writes, int asked) {
        if (!device.isPowered()) {
            return NOT_POSSIBLE;
        }
        Layout layout = device.presentLayout();
        if (!layout.has(name) || !layout.has(asked)) {
            return NO_SUCH;
        }
        if (!layout.takes(name, value) || !isCountOfWrites(writes)) {
            return BAD_VALUE;
        }
        trial.copyFrom(device);
        trial.failBehind(writes);
        trial.change(name, value);
        trial.restart();
        return trial.presentLayout().has(asked) ? trial.valueOf(asked) : NONE;
    }

    // ---- texts

    public int put(long characters) {
        return pad.append(characters);
    }

    public int wipe() {
        int before = pad.length();
        pad.clear();
        return before;
    }

    public int fault() {
        return pad.read();
    }

    // ---- images

    public int keep(int image) {
        if (!isImage(image)) {
            return BAD_VALUE;
        }
        images[image].copyFrom(device);
        kept[image] = true;
        return device.active();
    }

    public int back(int image) {
        if (!isImage(image)) {
            return BAD_VALUE;
        }
        if (!kept[image]) {
            return NOT_POSSIBLE;
        }
        device.copyFrom(images[image]);
        return device.active();
    }

    private static boolean isPage(int page) {
        return page >= 0 && page < PAGES;
    }

    private static boolean isCell(int page, int index) {
        return isPage(page) && index >= 0 && index < CELLS;
    }

    private static boolean isImage(int image) {
        return image >= 0 && image < IMAGES;
    }

    private static boolean isCountOfWrites(int writes) {
        return writes >= 0 && writes <= MOST_WRITES;
    }

    private static boolean isName(int name) {
        return name >= 0 && name < NAMES;
    }

    /** The steps by which one version is made from the version before it. */
    private static final class Steps {
        private final int[] kinds = new int[MOST_STEPS];
        private final int[] names = new int[MOST_STEPS];
        // The greatest value, the new name, the factor or the limit: as the kind asks for.
        private final int[] numbers = new int[MOST_STEPS];
        private final int[] defaults = new int[MOST_STEPS];
        private int count;

        void clear() {
            count = 0;
        }

        void append(int kind, int name, int number, int defaultValue) {
            if (count >= MOST_STEPS) {
                return;
            }
            kinds[count] = kind;
            names[count] = name;
            numbers[count] = number;
            defaults[count] = defaultValue;
            count++;
        }

        void copyFrom(Steps other) {
            System.arraycopy(other.kinds, 0, kinds, 0, MOST_STEPS);
            System.arraycopy(other.names, 0, names, 0, MOST_STEPS);
            System.arraycopy(other.numbers, 0, numbers, 0, MOST_STEPS);
            System.arraycopy(other.defaults, 0, defaults, 0, MOST_STEPS);
            count = other.count;
        }

        /** Does every step to the layout; false at the first one that cannot be done. */
        boolean applyTo(Layout layout) {
            for (int i = 0; i < count && i < MOST_STEPS; i++) {
                if (!applyStep(layout, kinds[i], names[i], numbers[i], defaults[i])) {
                    return false;
                }
            }
            return true;
        }

        private static boolean applyStep(Layout layout, int kind, int name, int number, int defaultValue) {
            switch (kind) {
                case ADD:
                    return layout.addSetting(name, number, defaultValue);
                case DROP:
                    return layout.dropSetting(name);
                case RENAME:
                    return layout.renameSetting(name, number);
                default:
                    return layout.scaleSetting(name, kind, number);
            }
        }

        /** Does every step to values by their names; what stands at names that are not there is free. */
        void carryOver(int[] values) {
            for (int i = 0; i < count && i < MOST_STEPS; i++) {
                int name = names[i];
                int number = numbers[i];
                if (!isName(name) || name >= values.length) {
                    continue;
                }
                if (kinds[i] == ADD) {
                    values[name] = defaults[i];
                } else if (kinds[i] == RENAME) {
                    if (isName(number) && number < values.length) {
                        values[number] = values[name];
                    }
                } else if (kinds[i] != DROP) {
                    values[name] = scaled(kinds[i], number, values[name]);
                }
            }
        }

        static int scaled(int kind, int number, int value) {
            if (kind == MULTIPLY) {
                return Math.min(value * number, GREATEST_VALUE);
            }
            if (kind == DIVIDE) {
                return number < 1 ? value : value / number;
            }
            return Math.min(value, number);
        }
    }

    /** The settings of one version. */
    private static final class Layout {
        private final boolean[] there = new boolean[NAMES];
        private final int[] greatest = new int[NAMES];
        private final int[] defaults = new int[NAMES];
        private final int[] before = new int[NAMES];
        private final Steps steps = new Steps();

        boolean has(int name) {
            return name >= 0 && name < NAMES && there[name];
        }

        int greatestOf(int name) {
            return has(name) ? greatest[name] : NONE;
        }

        int defaultOf(int name) {
            return has(name) ? defaults[name] : NONE;
        }

        int nameBefore(int name) {
            return has(name) ? before[name] : NONE;
        }

        boolean takes(int name, int value) {
            return has(name) && value >= 0 && value <= greatest[name];
        }

        /** Makes this layout from the one before it; false if a step cannot be done. */
        boolean makeFrom(Layout earlier, Steps given) {
            for (int name = 0; name < NAMES; name++) {
                there[name] = earlier.there[name];
                greatest[name] = earlier.greatest[name];
                defaults[name] = earlier.defaults[name];
                before[name] = name;
            }
            steps.copyFrom(given);
            return steps.applyTo(this);
        }

        boolean addSetting(int name, int greatestValue, int defaultValue) {
            if (!isName(name) || there[name] || defaultValue > greatestValue) {
                return false;
            }
            there[name] = true;
            greatest[name] = greatestValue;
            defaults[name] = defaultValue;
            before[name] = NONE;
            return true;
        }

        boolean dropSetting(int name) {
            if (!has(name)) {
                return false;
            }
            there[name] = false;
            return true;
        }

        boolean renameSetting(int name, int newName) {
            if (!has(name) || !isName(newName) || there[newName]) {
                return false;
            }
            there[name] = false;
            there[newName] = true;
            greatest[newName] = greatest[name];
            defaults[newName] = defaults[name];
            before[newName] = before[name];
            return true;
        }

        boolean scaleSetting(int name, int kind, int number) {
            if (!has(name)) {
                return false;
            }
            greatest[name] = Steps.scaled(kind, number, greatest[name]);
            defaults[name] = Steps.scaled(kind, number, defaults[name]);
            return true;
        }

        void carryOver(int[] values) {
            steps.carryOver(values);
        }
    }

    /** The versions that there are. */
    private static final class Layouts {
        // Stands for every version that is not there: so nothing need be null.
        private final Layout empty = new Layout();
        private final Layout[] versions = new Layout[VERSIONS];
        private int count;

        Layouts() {
            for (int i = 0; i < VERSIONS; i++) {
                versions[i] = new Layout();
            }
        }

        int count() {
            return count;
        }

        boolean has(int version) {
            return version >= 0 && version < count && version < VERSIONS;
        }

        Layout of(int version) {
            return has(version) ? versions[version] : empty;
        }

        /** Makes the next version; false, and it is not there, if a step cannot be done. */
        boolean extend(Steps steps) {
            if (count >= VERSIONS || !versions[count].makeFrom(of(count - 1), steps)) {
                return false;
            }
            count++;
            return true;
        }

        /** Does to the values what the steps behind the one version up to the other do. */
        void carryOver(int[] values, int from, int to) {
            for (int version = from + 1; version <= to && version < VERSIONS; version++) {
                of(version).carryOver(values);
            }
        }
    }

    /** The text from which the steps of the next version are read. */
    private static final class Pad {
        private final char[] signs = new char[PAD_LENGTH];
        private final Steps steps = new Steps();
        private int length;
        // How far the text has been read: where reading cannot go on, this is the fault.
        private int at;

        int length() {
            return length;
        }

        Steps steps() {
            return steps;
        }

        void clear() {
            length = 0;
        }

        int append(long characters) {
            int count = countCharacters(characters);
            if (count == 0) {
                return BAD_VALUE;
            }
            if (length + count > PAD_LENGTH) {
                return TOO_MANY;
            }
            for (int left = count - 1; left >= 0 && length < PAD_LENGTH; left--) {
                signs[length] = (char) ((characters >>> (8 * left)) & 255);
                length++;
            }
            return length;
        }

        /** The number of characters; 0 if one of them cannot be put. */
        private static int countCharacters(long characters) {
            long rest = characters;
            int count = 0;
            while (rest != 0 && count < PUT_CHARACTERS) {
                long code = rest & 255;
                if (code < 33 || code > 126) {
                    return 0;
                }
                rest >>>= 8;
                count++;
            }
            return count;
        }

        /** Reads the steps; returns the fault, NONE if there is none. */
        int read() {
            at = 0;
            steps.clear();
            for (int i = 0; i < MOST_STEPS; i++) {
                if (!readStep()) {
                    return at;
                }
                if (at >= length) {
                    return NONE;
                }
                if (!readSign(',')) {
                    return at;
                }
            }
            return at;
        }

        private boolean readStep() {
            if (readSign('+')) {
                return readAdding();
            }
            if (readSign('-')) {
                return readNewName(DROP, NONE);
            }
            int name = readName();
            if (name == NONE) {
                return false;
            }
            if (readSign('>')) {
                return readNewName(RENAME, name);
            }
            if (readSign('*')) {
                return readFactor(MULTIPLY, name);
            }
            if (readSign('/')) {
                return readFactor(DIVIDE, name);
            }
            return readSign('<') && readLimit(name);
        }

        private boolean readAdding() {
            int name = readName();
            if (name == NONE) {
                return false;
            }
            int greatest = readNumber();
            if (greatest == NONE || !readSign('=')) {
                return false;
            }
            int defaultValue = readNumber();
            if (defaultValue == NONE) {
                return false;
            }
            steps.append(ADD, name, greatest, defaultValue);
            return true;
        }

        private boolean readNewName(int kind, int renamed) {
            int name = readName();
            if (name == NONE) {
                return false;
            }
            if (kind == DROP) {
                steps.append(DROP, name, 0, 0);
            } else {
                steps.append(RENAME, renamed, name, 0);
            }
            return true;
        }

        private boolean readFactor(int kind, int name) {
            int factor = readDigit(2, 9);
            if (factor == NONE) {
                return false;
            }
            steps.append(kind, name, factor, 0);
            return true;
        }

        private boolean readLimit(int name) {
            int limit = readNumber();
            if (limit == NONE) {
                return false;
            }
            steps.append(LIMIT, name, limit, 0);
            return true;
        }

        /** Stops ahead of a digit that would be too much; what comes then finds it at fault. */
        private int readNumber() {
            int number = readDigit(0, 9);
            for (int more = 0; more < 2 && number > 0; more++) {
                int digit = readDigit(0, Math.min(9, GREATEST_VALUE - 10 * number));
                if (digit == NONE) {
                    return number;
                }
                number = 10 * number + digit;
            }
            return number;
        }

        private int readName() {
            return readOffset('a', 0, NAMES - 1);
        }

        private int readDigit(int least, int greatest) {
            return readOffset('0', least, greatest);
        }

        private boolean readSign(char sign) {
            return readOffset(sign, 0, 0) != NONE;
        }

        /** Reads a sign if it stands so far behind the base; returns how far, NONE if it does not. */
        private int readOffset(char base, int least, int greatest) {
            if (at >= length || at >= PAD_LENGTH) {
                return NONE;
            }
            int offset = signs[at] - base;
            if (offset < least || offset > greatest) {
                return NONE;
            }
            at++;
            return offset;
        }
    }

    /** One page of cells, with its wear. */
    private static final class Page {
        private final int[] cells = new int[CELLS];
        private int writes;
        private int erasures;

        Page() {
            for (int i = 0; i < CELLS; i++) {
                cells[i] = NONE;
            }
        }

        int writes() {
            return writes;
        }

        int erasures() {
            return erasures;
        }

        void copyFrom(Page other) {
            System.arraycopy(other.cells, 0, cells, 0, CELLS);
            writes = other.writes;
            erasures = other.erasures;
        }

        void erase() {
            for (int i = 0; i < CELLS; i++) {
                cells[i] = NONE;
            }
            erasures++;
        }

        int valueAt(int index) {
            return index >= 0 && index < CELLS ? cells[index] : NONE;
        }

        void replace(int index, int value) {
            if (index >= 0 && index < CELLS) {
                cells[index] = value;
            }
        }

        void countWrite() {
            writes++;
        }

        int countFilledCells() {
            int count = 0;
            for (int i = 0; i < CELLS; i++) {
                if (cells[i] != NONE) {
                    count++;
                }
            }
            return count;
        }

        int version() {
            return valueAt(0) - HEAD_MARK;
        }

        int sequence() {
            return valueAt(1);
        }

        boolean hasGoodHead(Layouts layouts) {
            return hasThreeAt(0)
                && layouts.has(version())
                && sequence() < SEQUENCES
                && valueAt(2) == headCheck(valueAt(0), valueAt(1));
        }

        /** Whether there is a record at an index, good or bad. */
        boolean hasRecordAt(int index) {
            return index >= HEAD_CELLS && index + RECORD_CELLS <= CELLS && cells[index] != NONE;
        }

        boolean hasGoodRecordAt(int index, Layout layout, int version) {
            return hasThreeAt(index)
                && layout.takes(nameAt(index), valueAt(index + 1))
                && valueAt(index + 2) == recordCheck(valueAt(index), valueAt(index + 1), version);
        }

        int nameAt(int index) {
            return valueAt(index) - 1;
        }

        /** Counts the good or the bad records, as they would be read. */
        int countRecords(Layouts layouts, boolean good) {
            if (!hasGoodHead(layouts)) {
                return 0;
            }
            Layout layout = layouts.of(version());
            int count = 0;
            for (int i = HEAD_CELLS; i < CELLS && hasRecordAt(i); i += RECORD_CELLS) {
                if (hasGoodRecordAt(i, layout, version()) == good) {
                    count++;
                }
            }
            return count;
        }

        private boolean hasThreeAt(int index) {
            return valueAt(index) != NONE && valueAt(index + 1) != NONE && valueAt(index + 2) != NONE;
        }

        static int headCheck(int mark, int sequence) {
            return (3 * mark + 5 * sequence + 1) % CHECK_MODULUS;
        }

        static int recordCheck(int mark, int value, int version) {
            return (7 * mark + 11 * value + 13 * version + 5) % CHECK_MODULUS;
        }
    }

    /** The pages, the power, and what the vault has of its active page. */
    private static final class Device {
        private final Layouts layouts;
        private final Page first = new Page();
        private final Page second = new Page();
        private boolean powered = true;
        private int writesLeft = NONE;
        private int active = NONE;
        private int version = NONE;
        private int sequence = NONE;
        private int next = CELLS;
        private int badRecords;
        private final int[] values = new int[NAMES];
        private final int[] places = new int[NAMES];
        // What a page is filled with: it is had only when all of it has been written.
        private final int[] newValues = new int[NAMES];
        private final int[] newPlaces = new int[NAMES];

        Device(Layouts layouts) {
            this.layouts = layouts;
        }

        void copyFrom(Device other) {
            first.copyFrom(other.first);
            second.copyFrom(other.second);
            powered = other.powered;
            writesLeft = other.writesLeft;
            active = other.active;
            version = other.version;
            sequence = other.sequence;
            next = other.next;
            badRecords = other.badRecords;
            System.arraycopy(other.values, 0, values, 0, NAMES);
            System.arraycopy(other.places, 0, places, 0, NAMES);
        }

        boolean isPowered() {
            return powered;
        }

        boolean isReady() {
            return powered && active != NONE;
        }

        int writesLeft() {
            return writesLeft;
        }

        int active() {
            return active;
        }

        int version() {
            return version;
        }

        int sequence() {
            return sequence;
        }

        int badRecords() {
            return badRecords;
        }

        Page pageOf(int number) {
            return number == 1 ? second : first;
        }

        /** The layout of the active page; without one, a layout without settings. */
        Layout presentLayout() {
            return layouts.of(version);
        }

        int valueOf(int name) {
            return isName(name) ? values[name] : NONE;
        }

        int placeOf(int name) {
            return isName(name) ? places[name] : NONE;
        }

        int countRoom() {
            return (CELLS - next) / RECORD_CELLS;
        }

        int countSettings() {
            int count = 0;
            for (int name = 0; name < NAMES; name++) {
                if (presentLayout().has(name)) {
                    count++;
                }
            }
            return count;
        }

        int countChangedSettings() {
            int count = 0;
            for (int name = 0; name < NAMES; name++) {
                if (presentLayout().has(name) && values[name] != presentLayout().defaultOf(name)) {
                    count++;
                }
            }
            return count;
        }

        void failBehind(int writes) {
            writesLeft = writes;
        }

        void restart() {
            powered = true;
            writesLeft = NONE;
            active = findActive();
            version = active == NONE ? NONE : pageOf(active).version();
            sequence = active == NONE ? NONE : pageOf(active).sequence();
            takeDefaults();
            badRecords = 0;
            if (active == NONE) {
                next = CELLS;
            } else {
                readRecords(pageOf(active));
            }
        }

        private int findActive() {
            boolean firstIsGood = first.hasGoodHead(layouts);
            boolean secondIsGood = second.hasGoodHead(layouts);
            if (firstIsGood && secondIsGood) {
                int ahead = Math.floorMod(second.sequence() - first.sequence(), SEQUENCES);
                return ahead >= 1 && ahead <= LATER_SEQUENCES ? 1 : 0;
            }
            if (secondIsGood) {
                return 1;
            }
            return firstIsGood ? 0 : NONE;
        }

        private void takeDefaults() {
            for (int name = 0; name < NAMES; name++) {
                values[name] = presentLayout().defaultOf(name);
                places[name] = NONE;
            }
        }

        private void readRecords(Page page) {
            int at = HEAD_CELLS;
            for (; at < CELLS && page.hasRecordAt(at); at += RECORD_CELLS) {
                int name = page.nameAt(at);
                if (isName(name) && page.hasGoodRecordAt(at, presentLayout(), version)) {
                    values[name] = page.valueAt(at + 1);
                    places[name] = at;
                } else {
                    badRecords++;
                }
            }
            next = at;
        }

        /** Gives a setting a value; returns the number of cells that were written. */
        int change(int name, int value) {
            if (!isName(name) || values[name] == value) {
                return 0;
            }
            if (next + RECORD_CELLS > CELLS) {
                System.arraycopy(values, 0, newValues, 0, NAMES);
                newValues[name] = value;
                return fillOther(version);
            }
            int written = writeRecord(pageOf(active), next, name, value, version);
            if (powered) {
                values[name] = value;
                places[name] = next;
                next += RECORD_CELLS;
            }
            return written;
        }

        /** Fills the other page in the present version or a later one; returns the number of writes. */
        int moveTo(int newVersion) {
            migrateValues(newVersion);
            return fillOther(newVersion);
        }

        int migratedValueOf(int newVersion, int name) {
            migrateValues(newVersion);
            return isName(name) ? newValues[name] : NONE;
        }

        private void migrateValues(int newVersion) {
            System.arraycopy(values, 0, newValues, 0, NAMES);
            layouts.carryOver(newValues, version, newVersion);
        }

        /** Goes back to the factory's state; returns the number of cells that were written. */
        int reset(int newVersion) {
            first.erase();
            second.erase();
            int written = writeHead(first, newVersion, 0);
            if (powered) {
                active = 0;
                version = newVersion;
                sequence = 0;
                next = HEAD_CELLS;
                takeDefaults();
            }
            return written;
        }

        private int fillOther(int newVersion) {
            int number = active == 0 ? 1 : 0;
            int newSequence = (sequence + 1) % SEQUENCES;
            Layout layout = layouts.of(newVersion);
            Page page = pageOf(number);
            page.erase();
            int written = 0;
            int end = HEAD_CELLS;
            for (int name = 0; name < NAMES; name++) {
                newPlaces[name] = NONE;
                if (layout.has(name) && newValues[name] != layout.defaultOf(name)) {
                    newPlaces[name] = end;
                    written += writeRecord(page, end, name, newValues[name], newVersion);
                    end += RECORD_CELLS;
                }
            }
            written += writeHead(page, newVersion, newSequence);
            if (powered) {
                active = number;
                version = newVersion;
                sequence = newSequence;
                next = end;
                System.arraycopy(newValues, 0, values, 0, NAMES);
                System.arraycopy(newPlaces, 0, places, 0, NAMES);
            }
            return written;
        }

        private int writeRecord(Page page, int index, int name, int value, int newVersion) {
            int mark = name + 1;
            return writeThree(page, index, mark, value, Page.recordCheck(mark, value, newVersion));
        }

        private int writeHead(Page page, int newVersion, int newSequence) {
            int mark = HEAD_MARK + newVersion;
            return writeThree(page, 0, mark, newSequence, Page.headCheck(mark, newSequence));
        }

        private int writeThree(Page page, int index, int one, int two, int three) {
            int written = writeCell(page, index, one);
            written += writeCell(page, index + 1, two);
            written += writeCell(page, index + 2, three);
            return written;
        }

        /** Returns 1 if the cell was written, 0 if the power is off or fails ahead of it. */
        private int writeCell(Page page, int index, int value) {
            if (writesLeft == 0) {
                powered = false;
                writesLeft = NONE;
            }
            if (!powered) {
                return 0;
            }
            if (writesLeft > 0) {
                writesLeft--;
            }
            page.replace(index, value);
            page.countWrite();
            return 1;
        }
    }
}
