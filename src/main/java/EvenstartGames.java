import java.util.ArrayList;
import java.util.NoSuchElementException;

/** Games among bodies that differ, as ../shared/DOC.md tells them. Not thread-safe. */
public final class EvenstartGames {
    private static final int LANDS = 6;
    private static final int MOST_ATHLETES = 16;
    private static final int MOST_CLASSIFIERS = 8;
    private static final int MOST_KINDS = 8;
    private static final int MOST_EVENTS = 8;
    private static final int LAST_YEAR = 40;
    private static final int YEARS_TO_WAIT = 2;

    private static final int MEASURES = 5;
    private static final int SIGHT = 4;
    private static final int FULL = 100;
    private static final int GREATEST_SUM = 500;
    private static final int GREATEST_GAIN = 20;

    private static final int FIRST_MONEY = 1000;
    private static final int DEPOSIT = 100;

    private static final int LEAST_FACTOR = 50;
    private static final int WHOLE_FACTOR = 100;
    private static final int GREATEST_TIME = 99999;
    private static final int LEAST_ENTRIES = 3;
    private static final int LEAST_LANDS = 2;
    private static final int MOST_SLOTS = 16;
    private static final int SLOTS_OF_A_LAND = 2;

    private static final int MOST_ON_FLOOR = 4;
    private static final int MOST_POINTS = 12;

    /** Stands for no class, no time, no record and for "shown as it is": none of these numbers is negative. */
    private static final int NONE = -1;

    private static final char UNTESTED = '-';
    private static final char NOT_ELIGIBLE = 'e';
    private static final char NEW = 'n';
    private static final char CONFIRMED = 'c';
    private static final char UNDER_REVIEW = 'r';
    private static final char BANNED = 'x';

    private final ArrayList<Athlete> athletes = new ArrayList<Athlete>();
    private final ArrayList<Classifier> classifiers = new ArrayList<Classifier>();
    private final ArrayList<Kind> kinds = new ArrayList<Kind>();
    private final ArrayList<Event> events = new ArrayList<Event>();
    private final int[] moneyOfLands = new int[LANDS];
    private int presentYear;

    public EvenstartGames() {
        for (int land = 0; land < moneyOfLands.length; land++) {
            moneyOfLands[land] = FIRST_MONEY;
        }
    }

    // ---------------------------------------------------------------- bodies and panels

    public int athlete(int land) throws IndexOutOfBoundsException, IllegalStateException {
        needLand(land);
        if (athletes.size() >= MOST_ATHLETES) {
            throw new IllegalStateException("there are 16 athletes");
        }
        athletes.add(new Athlete(athletes.size(), land));
        return athletes.size() - 1;
    }

    public int body(int athlete, int measure, int value)
            throws IndexOutOfBoundsException, IllegalArgumentException {
        Athlete who = needAthlete(athlete);
        needMeasure(measure);
        if (value < 0 || value > FULL) {
            throw new IllegalArgumentException("a measure is 0 to 100");
        }
        int before = who.is.of(measure);
        who.is.tell(measure, value);
        return before;
    }

    public int show(int athlete, int measure, int value)
            throws IndexOutOfBoundsException, IllegalArgumentException {
        Athlete who = needAthlete(athlete);
        needMeasure(measure);
        if (value != NONE && (value < 0 || value > FULL)) {
            throw new IllegalArgumentException("what is shown is 0 to 100, or -1");
        }
        int before = who.shownOf(measure);
        who.told.tell(measure, value);
        return before;
    }

    public int found(int athlete, int measure)
            throws IndexOutOfBoundsException, IllegalArgumentException, NoSuchElementException {
        Athlete who = needAthlete(athlete);
        needMeasure(measure);
        if (!who.wasFound) {
            throw new NoSuchElementException("nothing was found");
        }
        return who.found.of(measure);
    }

    public int classifier(int land) throws IndexOutOfBoundsException, IllegalStateException {
        needLand(land);
        if (classifiers.size() >= MOST_CLASSIFIERS) {
            throw new IllegalStateException("there are 8 classifiers");
        }
        classifiers.add(new Classifier(land));
        return classifiers.size() - 1;
    }

    public int kind(int key, int lack, int least, int greatest)
            throws IllegalArgumentException, IllegalStateException {
        needMeasure(key);
        if (lack < 1 || lack > FULL) {
            throw new IllegalArgumentException("a least lack is 1 to 100");
        }
        needBounds(least, greatest);
        if (kinds.size() >= MOST_KINDS) {
            throw new IllegalStateException("there are 8 classes");
        }
        Kind added = new Kind(kinds.size(), key, lack);
        added.drawBounds(least, greatest);
        kinds.add(added);
        return added.number;
    }

    public int belongs(int athlete) throws IndexOutOfBoundsException {
        return numberOf(kindAround(needAthlete(athlete).is));
    }

    public char test(int athlete, int one, int other)
            throws IndexOutOfBoundsException, IllegalArgumentException, UnsupportedOperationException {
        Athlete who = needAthlete(athlete);
        int landOfOne = needClassifier(one).land;
        int landOfOther = needClassifier(other).land;
        if (landOfOne == landOfOther || landOfOne == who.land || landOfOther == who.land) {
            throw new IllegalArgumentException("the panel is not of unlike lands");
        }
        if (who.status == BANNED) {
            throw new UnsupportedOperationException("the athlete is banned");
        }
        who.findWhatIsShown();
        settleByFound(who, NEW);
        return who.status;
    }

    public char status(int athlete) throws IndexOutOfBoundsException {
        return needAthlete(athlete).status;
    }

    public int classOf(int athlete) throws IndexOutOfBoundsException {
        return numberOf(needAthlete(athlete).kind);
    }

    public char watch(int athlete) throws IndexOutOfBoundsException, UnsupportedOperationException {
        Athlete who = needAthlete(athlete);
        if (who.status != NEW && who.status != UNDER_REVIEW) {
            throw new UnsupportedOperationException("the athlete is not new or under review");
        }
        if (!hasResult(who)) {
            throw new UnsupportedOperationException("the athlete has no result");
        }
        examine(who);
        return who.status;
    }

    public boolean protest(int land, int athlete) throws IndexOutOfBoundsException, UnsupportedOperationException {
        needLand(land);
        Athlete who = needAthlete(athlete);
        if (!who.mayCompete()) {
            throw new UnsupportedOperationException("the athlete is not new, confirmed or under review");
        }
        if (moneyOfLands[land] < DEPOSIT) {
            throw new UnsupportedOperationException("the land has less than 100");
        }
        Kind before = who.kind;
        examine(who);
        boolean comesBack = who.kind != before;
        if (!comesBack) {
            moneyOfLands[land] -= DEPOSIT;
        }
        return comesBack;
    }

    public int money(int land) throws IndexOutOfBoundsException {
        needLand(land);
        return moneyOfLands[land];
    }

    public int border(int kind, int least, int greatest)
            throws IndexOutOfBoundsException, IllegalArgumentException {
        Kind drawn = needKind(kind);
        needBounds(least, greatest);
        drawn.drawBounds(least, greatest);
        int underReview = 0;
        for (int i = 0; i < athletes.size(); i++) {
            Athlete who = athletes.get(i);
            if (who.kind == drawn && !drawn.holds(who.found)) {
                settle(who, drawn, UNDER_REVIEW);
                underReview++;
            }
        }
        return underReview;
    }

    public int year() {
        return presentYear;
    }

    public int next() throws IllegalStateException {
        if (presentYear >= LAST_YEAR) {
            throw new IllegalStateException("it is the year 40");
        }
        presentYear++;
        for (int i = 0; i < athletes.size(); i++) {
            Athlete who = athletes.get(i);
            if (who.waits() && who.until == presentYear) {
                endWaiting(who);
            }
        }
        return presentYear;
    }

    public int until(int athlete) throws IndexOutOfBoundsException, NoSuchElementException {
        Athlete who = needAthlete(athlete);
        if (!who.waits()) {
            throw new NoSuchElementException("there is no ban and no review");
        }
        return who.until;
    }

    // ---------------------------------------------------------------- events

    public int event(int kinds) throws IllegalArgumentException, IllegalStateException {
        if (kinds == 0 || !areBitsBelow(kinds, this.kinds.size())) {
            throw new IllegalArgumentException("an event is for some of the classes");
        }
        if (events.size() >= MOST_EVENTS) {
            throw new IllegalStateException("there are 8 events");
        }
        events.add(new Event(kinds));
        return events.size() - 1;
    }

    public int factor(int event, int kind, int factor)
            throws IndexOutOfBoundsException, IllegalArgumentException, UnsupportedOperationException {
        Event told = needEvent(event);
        if (!told.isFor(kind)) {
            throw new IndexOutOfBoundsException("the event is not for such a class");
        }
        if (factor < LEAST_FACTOR || factor > WHOLE_FACTOR) {
            throw new IllegalArgumentException("a factor is 50 to 100");
        }
        if (told.began) {
            throw new UnsupportedOperationException("the event began");
        }
        int before = told.factorOf(kind);
        told.tellFactor(kind, factor);
        return before;
    }

    public int enter(int event, int athlete) throws IndexOutOfBoundsException, UnsupportedOperationException {
        Event entered = needEvent(event);
        Athlete who = needAthlete(athlete);
        if (entered.began || entered.entryOf(who) != null) {
            throw new UnsupportedOperationException("the event began, or the athlete is in it");
        }
        Kind kind = who.kind;
        if (!who.mayCompete() || kind == null || !entered.isFor(kind.number)) {
            throw new UnsupportedOperationException("the athlete may not enter");
        }
        entered.add(new Entry(who, kind));
        return entered.countEntries();
    }

    public int begin(int event) throws IndexOutOfBoundsException, UnsupportedOperationException {
        Event begun = needEvent(event);
        int notFallen = begun.countNotFallen();
        if (begun.began || notFallen < LEAST_ENTRIES || begun.countLandsNotFallen() < LEAST_LANDS) {
            throw new UnsupportedOperationException("the event began, or has not enough entries");
        }
        begun.began = true;
        return notFallen;
    }

    public int result(int event, int athlete, int tenths, int guide)
            throws IndexOutOfBoundsException, IllegalArgumentException, UnsupportedOperationException {
        Event run = needEvent(event);
        Entry entry = run.entryOf(needAthlete(athlete));
        boolean guided = entry != null && entry.kind.key == SIGHT;
        if (!isTime(tenths) || guided && !isTime(guide)) {
            throw new IllegalArgumentException("a time is 1 to 99999");
        }
        if (!run.began || run.closed || entry == null || entry.fell || entry.hasTime()) {
            throw new UnsupportedOperationException("no result can come");
        }
        if (guided && guide < tenths) {
            entry.fall();
            return NONE;
        }
        entry.factoredTime = tenths * run.factorOf(entry.kind.number) / WHOLE_FACTOR;
        if (entry.athlete.status == CONFIRMED) {
            entry.kind.keepIfRecord(tenths);
        }
        return entry.factoredTime;
    }

    public boolean fell(int event, int athlete) throws IndexOutOfBoundsException, NoSuchElementException {
        return needEntry(event, athlete).fell;
    }

    public int time(int event, int athlete) throws IndexOutOfBoundsException, NoSuchElementException {
        return needEntryWithTime(event, athlete).factoredTime;
    }

    public int inClass(int event, int athlete) throws IndexOutOfBoundsException, NoSuchElementException {
        return needEntry(event, athlete).kind.number;
    }

    public int close(int event) throws IndexOutOfBoundsException, UnsupportedOperationException {
        Event ended = needEvent(event);
        if (!ended.began || ended.closed) {
            throw new UnsupportedOperationException("the event did not begin, or is closed");
        }
        ended.closed = true;
        return ended.countTimes();
    }

    public int at(int event, int index) throws IndexOutOfBoundsException, NoSuchElementException {
        Entry entry = needEvent(event).inOrder(index);
        if (entry == null) {
            throw new NoSuchElementException("there is none at the index");
        }
        return entry.athlete.number;
    }

    public int place(int event, int athlete) throws IndexOutOfBoundsException, NoSuchElementException {
        Entry entry = needEntryWithTime(event, athlete);
        return needEvent(event).countFaster(entry) + 1;
    }

    public int slot(int event, int many, int index)
            throws IndexOutOfBoundsException, IllegalArgumentException, NoSuchElementException {
        Event run = needEvent(event);
        if (many < 1 || many > MOST_SLOTS) {
            throw new IllegalArgumentException("slots are 1 to 16");
        }
        Entry entry = index < many ? run.inOrderOfSlots(index) : null;
        if (entry == null) {
            throw new NoSuchElementException("nobody has the slot");
        }
        return entry.athlete.number;
    }

    public int record(int kind) throws IndexOutOfBoundsException, NoSuchElementException {
        Kind kept = needKind(kind);
        if (kept.leastTime == NONE) {
            throw new NoSuchElementException("there is no record");
        }
        return kept.leastTime;
    }

    // ---------------------------------------------------------------- teams and sums

    public int floor(int land, int athletes)
            throws IndexOutOfBoundsException, IllegalArgumentException, UnsupportedOperationException {
        needLand(land);
        if (!areBitsBelow(athletes, this.athletes.size()) || Integer.bitCount(athletes) > MOST_ON_FLOOR
                || !areAllOfLand(athletes, land)) {
            throw new IllegalArgumentException("a floor has at most 4 athletes of its land");
        }
        if (!haveAllClasses(athletes)) {
            throw new UnsupportedOperationException("one has no class");
        }
        int sum = pointsOf(athletes);
        if (sum > MOST_POINTS) {
            throw new UnsupportedOperationException("the points would be above 12");
        }
        putOnFloor(land, athletes);
        return sum;
    }

    public int swap(int land, int out, int into)
            throws IndexOutOfBoundsException, IllegalArgumentException, UnsupportedOperationException {
        needLand(land);
        Athlete leaves = needAthlete(out);
        Athlete comes = needAthlete(into);
        if (leaves.land != land || !leaves.standsOnFloor) {
            throw new IllegalArgumentException("the one is not on the floor");
        }
        if (comes.land != land || comes.standsOnFloor) {
            throw new IllegalArgumentException("the other one is on the floor, or of another land");
        }
        int sum = pointsOf(bitsOnFloor(land)) - leaves.pointsByNow() + comes.pointsByNow();
        if (comes.kind == null || sum > MOST_POINTS) {
            throw new UnsupportedOperationException("no class, or the points would be above 12");
        }
        leaves.standsOnFloor = false;
        comes.standsOnFloor = true;
        return sum;
    }

    public int onFloor(int land) throws IndexOutOfBoundsException {
        needLand(land);
        return bitsOnFloor(land);
    }

    public int points(int land) throws IndexOutOfBoundsException {
        needLand(land);
        return pointsOf(bitsOnFloor(land));
    }

    public long checksum() {
        long sum = 7;
        for (int i = 0; i < athletes.size(); i++) {
            Athlete who = athletes.get(i);
            sum = 31 * sum + numberOf(who.kind);
            sum = 31 * sum + who.status;
        }
        for (int i = 0; i < events.size(); i++) {
            sum = events.get(i).addTimesTo(sum);
        }
        for (int land = 0; land < moneyOfLands.length; land++) {
            sum = 31 * sum + moneyOfLands[land];
        }
        return sum;
    }

    public float fallenShare() throws NoSuchElementException {
        int all = 0;
        int notFallen = 0;
        for (int i = 0; i < events.size(); i++) {
            all += events.get(i).countEntries();
            notFallen += events.get(i).countNotFallen();
        }
        if (all == 0) {
            throw new NoSuchElementException("there are no entries");
        }
        return (float) (all - notFallen) / (float) all;
    }

    public double meanLack(int athlete) throws IndexOutOfBoundsException {
        return (double) needAthlete(athlete).is.sumOfLacks() / (double) MEASURES;
    }

    public boolean isSound() {
        for (int i = 0; i < athletes.size(); i++) {
            if (!athletes.get(i).isInOrder()) {
                return false;
            }
        }
        for (int i = 0; i < events.size(); i++) {
            if (!events.get(i).isInOrder()) {
                return false;
            }
        }
        return true;
    }

    // ---------------------------------------------------------------- what numbers stand for

    private static void needLand(int land) {
        if (land < 0 || land >= LANDS) {
            throw new IndexOutOfBoundsException("there is no such land");
        }
    }

    private static void needMeasure(int measure) {
        if (measure < 0 || measure >= MEASURES) {
            throw new IllegalArgumentException("there is no such measure");
        }
    }

    private static void needBounds(int least, int greatest) {
        if (least < 0 || greatest < least || greatest > GREATEST_SUM) {
            throw new IllegalArgumentException("bounds are 0 to 500, the greatest not less");
        }
    }

    private Athlete needAthlete(int number) {
        if (number < 0 || number >= athletes.size()) {
            throw new IndexOutOfBoundsException("there is no such athlete");
        }
        return athletes.get(number);
    }

    private Classifier needClassifier(int number) {
        if (number < 0 || number >= classifiers.size()) {
            throw new IndexOutOfBoundsException("there is no such classifier");
        }
        return classifiers.get(number);
    }

    private Kind needKind(int number) {
        if (number < 0 || number >= kinds.size()) {
            throw new IndexOutOfBoundsException("there is no such class");
        }
        return kinds.get(number);
    }

    private Event needEvent(int number) {
        if (number < 0 || number >= events.size()) {
            throw new IndexOutOfBoundsException("there is no such event");
        }
        return events.get(number);
    }

    private Entry needEntry(int event, int athlete) {
        Entry entry = needEvent(event).entryOf(needAthlete(athlete));
        if (entry == null) {
            throw new NoSuchElementException("there is no such entry");
        }
        return entry;
    }

    private Entry needEntryWithTime(int event, int athlete) {
        Entry entry = needEntry(event, athlete);
        if (!entry.hasTime()) {
            throw new NoSuchElementException("the entry has no result");
        }
        return entry;
    }

    private static boolean isTime(int tenths) {
        return tenths >= 1 && tenths <= GREATEST_TIME;
    }

    /** Whether no bit stands for a number of many or above; many is at most 16 here, so the shift is whole. */
    private static boolean areBitsBelow(int bits, int many) {
        return bits >>> many == 0;
    }

    private static boolean hasBit(int bits, int number) {
        return (bits >>> number & 1) == 1;
    }

    private static int numberOf(Kind kind) {
        return kind == null ? NONE : kind.number;
    }

    // ---------------------------------------------------------------- classes and status

    /** The class to which one belongs by some measures, null for none. */
    private Kind kindAround(Measures measures) {
        for (int i = 0; i < kinds.size(); i++) {
            if (kinds.get(i).holds(measures)) {
                return kinds.get(i);
            }
        }
        return null;
    }

    /** What watching and a protest do: the body itself is found, and may betray what was hidden. */
    private void examine(Athlete who) {
        boolean hid = who.is.isFarAbove(who.found);
        who.findWhatIs();
        if (hid) {
            settle(who, null, BANNED);
        } else {
            settleByFound(who, CONFIRMED);
        }
    }

    private void settleByFound(Athlete who, char statusInClass) {
        Kind kind = kindAround(who.found);
        settle(who, kind, kind == null ? NOT_ELIGIBLE : statusInClass);
    }

    /** Every change of class and status comes through here, so that no entry and no floor is missed. */
    private void settle(Athlete who, Kind kind, char status) {
        if (who.kind != kind) {
            dropOpenEntries(who);
        }
        who.kind = kind;
        who.status = status;
        who.until = presentYear + YEARS_TO_WAIT;
        if (kind == null) {
            who.standsOnFloor = false;
        }
    }

    private void endWaiting(Athlete who) {
        if (who.status == BANNED) {
            settle(who, null, UNTESTED);
        } else {
            settleByFound(who, CONFIRMED);
        }
    }

    private void dropOpenEntries(Athlete who) {
        for (int i = 0; i < events.size(); i++) {
            Entry entry = events.get(i).entryOf(who);
            if (entry != null && !events.get(i).closed) {
                entry.fall();
            }
        }
    }

    private boolean hasResult(Athlete who) {
        for (int i = 0; i < events.size(); i++) {
            Entry entry = events.get(i).entryOf(who);
            if (entry != null && entry.hasTime()) {
                return true;
            }
        }
        return false;
    }

    // ---------------------------------------------------------------- floors

    private boolean areAllOfLand(int bits, int land) {
        for (int i = 0; i < athletes.size(); i++) {
            if (hasBit(bits, i) && athletes.get(i).land != land) {
                return false;
            }
        }
        return true;
    }

    private boolean haveAllClasses(int bits) {
        for (int i = 0; i < athletes.size(); i++) {
            if (hasBit(bits, i) && athletes.get(i).kind == null) {
                return false;
            }
        }
        return true;
    }

    private int pointsOf(int bits) {
        int sum = 0;
        for (int i = 0; i < athletes.size(); i++) {
            if (hasBit(bits, i)) {
                sum += athletes.get(i).pointsByNow();
            }
        }
        return sum;
    }

    private void putOnFloor(int land, int bits) {
        for (int i = 0; i < athletes.size(); i++) {
            if (athletes.get(i).land == land) {
                athletes.get(i).standsOnFloor = hasBit(bits, i);
            }
        }
    }

    private int bitsOnFloor(int land) {
        int bits = 0;
        for (int i = 0; i < athletes.size(); i++) {
            if (athletes.get(i).land == land && athletes.get(i).standsOnFloor) {
                bits |= 1 << i;
            }
        }
        return bits;
    }

    // ---------------------------------------------------------------- classes inside

    /** Five measures of a body. */
    private static final class Measures {
        private final int[] values = new int[MEASURES];

        Measures(int value) {
            for (int i = 0; i < values.length; i++) {
                values[i] = value;
            }
        }

        int of(int measure) {
            return measure >= 0 && measure < values.length ? values[measure] : FULL;
        }

        void tell(int measure, int value) {
            if (measure >= 0 && measure < values.length) {
                values[measure] = value;
            }
        }

        int lackOf(int measure) {
            return FULL - of(measure);
        }

        int sumOfLacks() {
            int sum = 0;
            for (int i = 0; i < values.length; i++) {
                sum += FULL - values[i];
            }
            return sum;
        }

        boolean isFarAbove(Measures before) {
            for (int i = 0; i < MEASURES; i++) {
                if (of(i) - before.of(i) > GREATEST_GAIN) {
                    return true;
                }
            }
            return false;
        }
    }

    private static final class Athlete {
        final int number;
        final int land;
        final Measures is = new Measures(FULL);
        final Measures told = new Measures(NONE);
        final Measures found = new Measures(FULL);
        boolean wasFound;
        char status = UNTESTED;
        Kind kind;
        /** Of meaning only while a ban or a review lasts. */
        int until;
        boolean standsOnFloor;

        Athlete(int number, int land) {
            this.number = number;
            this.land = land;
        }

        int shownOf(int measure) {
            int shown = told.of(measure);
            return shown == NONE ? is.of(measure) : shown;
        }

        void findWhatIsShown() {
            for (int i = 0; i < MEASURES; i++) {
                found.tell(i, shownOf(i));
            }
            wasFound = true;
        }

        void findWhatIs() {
            for (int i = 0; i < MEASURES; i++) {
                found.tell(i, is.of(i));
            }
            wasFound = true;
        }

        boolean mayCompete() {
            return status == NEW || status == CONFIRMED || status == UNDER_REVIEW;
        }

        boolean waits() {
            return status == BANNED || status == UNDER_REVIEW;
        }

        int pointsByNow() {
            return kind == null ? 0 : kind.number + 1;
        }

        boolean isInOrder() {
            if (status == CONFIRMED && (kind == null || !kind.holds(found))) {
                return false;
            }
            if (standsOnFloor && (status == BANNED || kind == null)) {
                return false;
            }
            return kind == null || mayCompete();
        }
    }

    private static final class Classifier {
        final int land;

        Classifier(int land) {
            this.land = land;
        }
    }

    /** A class of athletes: a region of their measures. */
    private static final class Kind {
        final int number;
        final int key;
        final int leastLack;
        int leastSum;
        int greatestSum;
        int leastTime = NONE;

        Kind(int number, int key, int leastLack) {
            this.number = number;
            this.key = key;
            this.leastLack = leastLack;
        }

        /** The record counts since the bounds were told last, so it ends here. */
        void drawBounds(int least, int greatest) {
            leastSum = least;
            greatestSum = greatest;
            leastTime = NONE;
        }

        boolean holds(Measures measures) {
            int sum = measures.sumOfLacks();
            return measures.lackOf(key) >= leastLack && sum >= leastSum && sum <= greatestSum;
        }

        void keepIfRecord(int tenths) {
            if (leastTime == NONE || tenths < leastTime) {
                leastTime = tenths;
            }
        }
    }

    private static final class Entry {
        final Athlete athlete;
        final Kind kind;
        boolean fell;
        int factoredTime = NONE;

        Entry(Athlete athlete, Kind kind) {
            this.athlete = athlete;
            this.kind = kind;
        }

        boolean hasTime() {
            return factoredTime != NONE;
        }

        void fall() {
            fell = true;
            factoredTime = NONE;
        }

        boolean isAheadOf(Entry other) {
            return factoredTime < other.factoredTime
                    || factoredTime == other.factoredTime && athlete.number < other.athlete.number;
        }
    }

    private static final class Event {
        private final int kinds;
        private final int[] factors = new int[MOST_KINDS];
        /** By the numbers of the athletes, null without an entry. */
        private final Entry[] entries = new Entry[MOST_ATHLETES];
        boolean began;
        boolean closed;

        Event(int kinds) {
            this.kinds = kinds;
            for (int i = 0; i < factors.length; i++) {
                factors[i] = WHOLE_FACTOR;
            }
        }

        boolean isFor(int kind) {
            return kind >= 0 && kind < MOST_KINDS && hasBit(kinds, kind);
        }

        int factorOf(int kind) {
            return kind >= 0 && kind < factors.length ? factors[kind] : WHOLE_FACTOR;
        }

        void tellFactor(int kind, int factor) {
            if (kind >= 0 && kind < factors.length) {
                factors[kind] = factor;
            }
        }

        Entry entryOf(Athlete who) {
            int number = who.number;
            return number >= 0 && number < entries.length ? entries[number] : null;
        }

        void add(Entry entry) {
            int number = entry.athlete.number;
            if (number >= 0 && number < entries.length) {
                entries[number] = entry;
            }
        }

        int countEntries() {
            int count = 0;
            for (int i = 0; i < entries.length; i++) {
                if (entries[i] != null) {
                    count++;
                }
            }
            return count;
        }

        int countNotFallen() {
            int count = 0;
            for (int i = 0; i < entries.length; i++) {
                Entry entry = entries[i];
                if (entry != null && !entry.fell) {
                    count++;
                }
            }
            return count;
        }

        int countLandsNotFallen() {
            int lands = 0;
            for (int i = 0; i < entries.length; i++) {
                Entry entry = entries[i];
                if (entry != null && !entry.fell) {
                    lands |= 1 << entry.athlete.land;
                }
            }
            return Integer.bitCount(lands);
        }

        int countTimes() {
            int count = 0;
            for (int i = 0; i < entries.length; i++) {
                Entry entry = entries[i];
                if (entry != null && entry.hasTime()) {
                    count++;
                }
            }
            return count;
        }

        int countFaster(Entry entry) {
            int count = 0;
            for (int i = 0; i < entries.length; i++) {
                Entry other = entries[i];
                if (other != null && other.hasTime() && other.factoredTime < entry.factoredTime) {
                    count++;
                }
            }
            return count;
        }

        private int countOfLandAhead(Entry entry) {
            int count = 0;
            for (int i = 0; i < entries.length; i++) {
                Entry other = entries[i];
                if (other != null && other.hasTime() && other.athlete.land == entry.athlete.land
                        && other.isAheadOf(entry)) {
                    count++;
                }
            }
            return count;
        }

        /** The one behind another in the order of places, the first one behind null, null behind the last one. */
        private Entry nextInOrder(Entry before) {
            Entry next = null;
            for (int i = 0; i < entries.length; i++) {
                Entry entry = entries[i];
                if (entry != null && entry.hasTime() && (before == null || before.isAheadOf(entry))
                        && (next == null || entry.isAheadOf(next))) {
                    next = entry;
                }
            }
            return next;
        }

        /** The entry at an index in the order of places, null if there is none. */
        Entry inOrder(int index) {
            if (index < 0 || index >= entries.length) {
                return null;
            }
            Entry entry = nextInOrder(null);
            for (int i = 0; i < index && entry != null; i++) {
                entry = nextInOrder(entry);
            }
            return entry;
        }

        /**
         * As inOrder, but only of those who can have a slot. The first two of a land always
         * have theirs before a third one's turn, so no list of slots needs to be kept.
         */
        Entry inOrderOfSlots(int index) {
            int given = 0;
            Entry entry = nextInOrder(null);
            for (int i = 0; i < entries.length && entry != null; i++) {
                if (countOfLandAhead(entry) < SLOTS_OF_A_LAND) {
                    if (given == index) {
                        return entry;
                    }
                    given++;
                }
                entry = nextInOrder(entry);
            }
            return null;
        }

        long addTimesTo(long sum) {
            long added = sum;
            for (int i = 0; i < entries.length; i++) {
                Entry entry = entries[i];
                if (entry != null) {
                    added = 31 * added + (entry.hasTime() ? entry.factoredTime : 0);
                }
            }
            return added;
        }

        boolean isInOrder() {
            for (int i = 0; i < entries.length; i++) {
                Entry entry = entries[i];
                if (!closed && entry != null && !entry.fell && entry.athlete.kind != entry.kind) {
                    return false;
                }
            }
            return true;
        }
    }
}
