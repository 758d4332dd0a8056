import java.util.ArrayList;
import java.util.Arrays;
import java.util.Comparator;
import java.util.List;
import java.util.NoSuchElementException;
import java.util.TreeMap;
import java.util.TreeSet;

/**
 * The games once more, sentence by sentence as the document says them, with the Java library and without a thought
 * of cost: ModelTest sets its answers beside those of EvenstartGames. Its calls bear the numbers of ModelTest.
 */
final class Model {
    private static final class Person {
        int land;
        int[] is = {100, 100, 100, 100, 100};
        Integer[] told = new Integer[5];
        int[] found;
        int kind = -1;
        char status = '-';
        Integer until;
    }

    private static final class Region {
        int key;
        int lack;
        int least;
        int greatest;
        List<Integer> recordTimes = new ArrayList<>();
    }

    private static final class Run {
        int kinds;
        TreeMap<Integer, Integer> factors = new TreeMap<>();
        TreeMap<Integer, Integer> kindOfEntry = new TreeMap<>();
        TreeSet<Integer> fallen = new TreeSet<>();
        TreeMap<Integer, Integer> times = new TreeMap<>();
        boolean began;
        boolean closed;
    }

    private final List<Person> people = new ArrayList<>();
    private final List<Integer> panel = new ArrayList<>();
    private final List<Region> regions = new ArrayList<>();
    private final List<Run> runs = new ArrayList<>();
    private final int[] money = {1000, 1000, 1000, 1000, 1000, 1000};
    private final List<TreeSet<Integer>> floors = new ArrayList<>();
    private int year;

    Model() {
        for (int land = 0; land < 6; land++) {
            floors.add(new TreeSet<>());
        }
    }

    private static void bounds(boolean good) {
        if (!good) {
            throw new IndexOutOfBoundsException();
        }
    }

    private static void argument(boolean good) {
        if (!good) {
            throw new IllegalArgumentException();
        }
    }

    private static void state(boolean good) {
        if (!good) {
            throw new IllegalStateException();
        }
    }

    private static void supported(boolean good) {
        if (!good) {
            throw new UnsupportedOperationException();
        }
    }

    private static void element(boolean good) {
        if (!good) {
            throw new NoSuchElementException();
        }
    }

    private static boolean in(int number, int least, int greatest) {
        return number >= least && number <= greatest;
    }

    private Person person(int athlete) {
        bounds(in(athlete, 0, people.size() - 1));
        return people.get(athlete);
    }

    private Run run(int event) {
        bounds(in(event, 0, runs.size() - 1));
        return runs.get(event);
    }

    private boolean within(int[] measures, int kind) {
        Region region = regions.get(kind);
        int sum = Arrays.stream(measures).map(m -> 100 - m).sum();
        return 100 - measures[region.key] >= region.lack && in(sum, region.least, region.greatest);
    }

    private int kindBy(int[] measures) {
        for (int kind = 0; kind < regions.size(); kind++) {
            if (within(measures, kind)) {
                return kind;
            }
        }
        return -1;
    }

    private void become(int athlete, int kind, char status, Integer until) {
        Person who = people.get(athlete);
        boolean otherClass = kind != who.kind;
        who.kind = kind;
        who.status = status;
        who.until = until;
        if (otherClass) {
            for (Run run : runs) {
                if (!run.closed && run.kindOfEntry.containsKey(athlete)) {
                    run.fallen.add(athlete);
                    run.times.remove(athlete);
                }
            }
        }
        if (kind == -1 || status == 'x') {
            floors.get(who.land).remove(athlete);
        }
    }

    private void becomeByFound(int athlete, char status) {
        int kind = kindBy(people.get(athlete).found);
        become(athlete, kind, kind == -1 ? 'e' : status, null);
    }

    private void findWhatIs(int athlete) {
        Person who = people.get(athlete);
        int[] before = who.found;
        who.found = who.is.clone();
        for (int i = 0; i < 5; i++) {
            if (who.found[i] - before[i] > 20) {
                become(athlete, -1, 'x', year + 2);
                return;
            }
        }
        becomeByFound(athlete, 'c');
    }

    private List<Integer> order(Run run) {
        List<Integer> order = new ArrayList<>(run.times.keySet());
        order.sort(Comparator.comparing((Integer athlete) -> run.times.get(athlete)).thenComparing(a -> a));
        return order;
    }

    private int pointsOf(TreeSet<Integer> athletes) {
        return athletes.stream().mapToInt(a -> people.get(a).kind + 1).sum();
    }

    private static int bits(TreeSet<Integer> athletes) {
        return athletes.stream().mapToInt(a -> 1 << a).sum();
    }

    int athlete(int land) {
        bounds(in(land, 0, 5));
        state(people.size() < 16);
        Person added = new Person();
        added.land = land;
        people.add(added);
        return people.size() - 1;
    }

    int body(int athlete, int measure, int value) {
        Person who = person(athlete);
        argument(in(measure, 0, 4) && in(value, 0, 100));
        int before = who.is[measure];
        who.is[measure] = value;
        return before;
    }

    private static int shown(Person who, int measure) {
        return who.told[measure] == null ? who.is[measure] : who.told[measure];
    }

    int show(int athlete, int measure, int value) {
        Person who = person(athlete);
        argument(in(measure, 0, 4) && in(value, -1, 100));
        int before = shown(who, measure);
        who.told[measure] = value == -1 ? null : Integer.valueOf(value);
        return before;
    }

    int found(int athlete, int measure) {
        Person who = person(athlete);
        argument(in(measure, 0, 4));
        element(who.found != null);
        return who.found[measure];
    }

    int classifier(int land) {
        bounds(in(land, 0, 5));
        state(panel.size() < 8);
        panel.add(land);
        return panel.size() - 1;
    }

    int kind(int key, int lack, int least, int greatest) {
        argument(in(key, 0, 4) && in(lack, 1, 100) && in(least, 0, 500) && in(greatest, least, 500));
        state(regions.size() < 8);
        Region added = new Region();
        added.key = key;
        added.lack = lack;
        added.least = least;
        added.greatest = greatest;
        regions.add(added);
        return regions.size() - 1;
    }

    int belongs(int athlete) {
        return kindBy(person(athlete).is);
    }

    char test(int athlete, int one, int other) {
        Person who = person(athlete);
        bounds(in(one, 0, panel.size() - 1) && in(other, 0, panel.size() - 1));
        argument(new TreeSet<>(List.of(who.land)).add(panel.get(one)));
        argument(new TreeSet<>(Arrays.asList(who.land, panel.get(one))).add(panel.get(other)));
        supported(who.status != 'x');
        who.found = new int[5];
        for (int i = 0; i < 5; i++) {
            who.found[i] = shown(who, i);
        }
        becomeByFound(athlete, 'n');
        return who.status;
    }

    char status(int athlete) {
        return person(athlete).status;
    }

    int classOf(int athlete) {
        return person(athlete).kind;
    }

    char watch(int athlete) {
        Person who = person(athlete);
        supported("nr".indexOf(who.status) >= 0 && runs.stream().anyMatch(r -> r.times.containsKey(athlete)));
        findWhatIs(athlete);
        return who.status;
    }

    boolean protest(int land, int athlete) {
        bounds(in(land, 0, 5));
        Person who = person(athlete);
        supported("ncr".indexOf(who.status) >= 0 && money[land] >= 100);
        int before = who.kind;
        money[land] -= 100;
        findWhatIs(athlete);
        if (who.kind != before) {
            money[land] += 100;
            return true;
        }
        return false;
    }

    int money(int land) {
        bounds(in(land, 0, 5));
        return money[land];
    }

    int border(int kind, int least, int greatest) {
        bounds(in(kind, 0, regions.size() - 1));
        argument(in(least, 0, 500) && in(greatest, least, 500));
        Region drawn = regions.get(kind);
        drawn.least = least;
        drawn.greatest = greatest;
        drawn.recordTimes.clear();
        int many = 0;
        for (Person who : people) {
            if (who.kind == kind && !within(who.found, kind)) {
                who.status = 'r';
                who.until = year + 2;
                many++;
            }
        }
        return many;
    }

    int year() {
        return year;
    }

    int next() {
        state(year != 40);
        year++;
        for (int athlete = 0; athlete < people.size(); athlete++) {
            Person who = people.get(athlete);
            if (who.until != null && who.until == year) {
                if (who.status == 'x') {
                    become(athlete, -1, '-', null);
                } else {
                    becomeByFound(athlete, 'c');
                }
            }
        }
        return year;
    }

    int until(int athlete) {
        Person who = person(athlete);
        element(who.until != null);
        return who.until;
    }

    int event(int kinds) {
        argument(kinds > 0 && kinds < 1 << regions.size());
        state(runs.size() < 8);
        Run added = new Run();
        added.kinds = kinds;
        for (int kind = 0; kind < regions.size(); kind++) {
            if ((kinds & 1 << kind) != 0) {
                added.factors.put(kind, 100);
            }
        }
        runs.add(added);
        return runs.size() - 1;
    }

    int factor(int event, int kind, int factor) {
        Run run = run(event);
        bounds(run.factors.containsKey(kind));
        argument(in(factor, 50, 100));
        supported(!run.began);
        return run.factors.put(kind, factor);
    }

    int enter(int event, int athlete) {
        Run run = run(event);
        Person who = person(athlete);
        supported(!run.began && !run.kindOfEntry.containsKey(athlete));
        supported("ncr".indexOf(who.status) >= 0 && run.factors.containsKey(who.kind));
        run.kindOfEntry.put(athlete, who.kind);
        return run.kindOfEntry.size();
    }

    int begin(int event) {
        Run run = run(event);
        TreeSet<Integer> standing = new TreeSet<>(run.kindOfEntry.keySet());
        standing.removeAll(run.fallen);
        supported(!run.began && standing.size() >= 3);
        supported(standing.stream().map(a -> people.get(a).land).distinct().count() >= 2);
        run.began = true;
        return standing.size();
    }

    int result(int event, int athlete, int tenths, int guide) {
        Run run = run(event);
        Person who = person(athlete);
        argument(in(tenths, 1, 99999));
        Integer kind = run.kindOfEntry.get(athlete);
        boolean sight = kind != null && regions.get(kind).key == 4;
        argument(!sight || in(guide, 1, 99999));
        supported(run.began && !run.closed && kind != null && !run.fallen.contains(athlete)
                && !run.times.containsKey(athlete));
        if (sight && guide < tenths) {
            run.fallen.add(athlete);
            return -1;
        }
        run.times.put(athlete, (int) Math.floor(tenths * (double) run.factors.get(kind) / 100));
        if (who.status == 'c') {
            regions.get(kind).recordTimes.add(tenths);
        }
        return run.times.get(athlete);
    }

    private Run runWithEntry(int event, int athlete) {
        Run run = run(event);
        person(athlete);
        element(run.kindOfEntry.containsKey(athlete));
        return run;
    }

    boolean fell(int event, int athlete) {
        return runWithEntry(event, athlete).fallen.contains(athlete);
    }

    int time(int event, int athlete) {
        Run run = runWithEntry(event, athlete);
        element(run.times.containsKey(athlete));
        return run.times.get(athlete);
    }

    int inClass(int event, int athlete) {
        return runWithEntry(event, athlete).kindOfEntry.get(athlete);
    }

    int close(int event) {
        Run run = run(event);
        supported(run.began && !run.closed);
        run.closed = true;
        return run.times.size();
    }

    int at(int event, int index) {
        List<Integer> order = order(run(event));
        element(in(index, 0, order.size() - 1));
        return order.get(index);
    }

    int place(int event, int athlete) {
        Run run = runWithEntry(event, athlete);
        element(run.times.containsKey(athlete));
        List<Integer> order = order(run);
        int first = 0;
        while (!run.times.get(order.get(first)).equals(run.times.get(athlete))) {
            first++;
        }
        return first + 1;
    }

    int slot(int event, int many, int index) {
        Run run = run(event);
        argument(in(many, 1, 16));
        List<Integer> have = new ArrayList<>();
        for (int athlete : order(run)) {
            int land = people.get(athlete).land;
            if (have.size() < many && have.stream().filter(a -> people.get(a).land == land).count() < 2) {
                have.add(athlete);
            }
        }
        element(in(index, 0, have.size() - 1));
        return have.get(index);
    }

    int record(int kind) {
        bounds(in(kind, 0, regions.size() - 1));
        element(!regions.get(kind).recordTimes.isEmpty());
        return regions.get(kind).recordTimes.stream().min(Integer::compare).get();
    }

    int floor(int land, int athletes) {
        bounds(in(land, 0, 5));
        argument(athletes >= 0 && athletes < 1 << people.size());
        TreeSet<Integer> floor = new TreeSet<>();
        for (int athlete = 0; athlete < people.size(); athlete++) {
            if ((athletes & 1 << athlete) != 0) {
                floor.add(athlete);
            }
        }
        argument(floor.size() <= 4 && floor.stream().allMatch(a -> people.get(a).land == land));
        supported(floor.stream().noneMatch(a -> people.get(a).kind == -1) && pointsOf(floor) <= 12);
        floors.set(land, floor);
        return pointsOf(floor);
    }

    int swap(int land, int out, int into) {
        bounds(in(land, 0, 5));
        person(out);
        Person comes = person(into);
        argument(floors.get(land).contains(out) && !floors.get(land).contains(into) && comes.land == land);
        TreeSet<Integer> then = new TreeSet<>(floors.get(land));
        then.remove(out);
        then.add(into);
        supported(comes.kind != -1 && pointsOf(then) <= 12);
        floors.set(land, then);
        return pointsOf(then);
    }

    int onFloor(int land) {
        bounds(in(land, 0, 5));
        return bits(floors.get(land));
    }

    int points(int land) {
        bounds(in(land, 0, 5));
        return pointsOf(floors.get(land));
    }

    long checksum() {
        long sum = 7;
        for (Person who : people) {
            sum = 31 * sum + who.kind;
            sum = 31 * sum + who.status;
        }
        for (Run run : runs) {
            for (int athlete : run.kindOfEntry.keySet()) {
                sum = 31 * sum + run.times.getOrDefault(athlete, 0);
            }
        }
        for (int of : money) {
            sum = 31 * sum + of;
        }
        return sum;
    }

    float fallenShare() {
        int all = runs.stream().mapToInt(r -> r.kindOfEntry.size()).sum();
        int fallen = runs.stream().mapToInt(r -> r.fallen.size()).sum();
        element(all != 0);
        return (float) fallen / (float) all;
    }

    double meanLack(int athlete) {
        return Arrays.stream(person(athlete).is).map(m -> 100 - m).sum() / 5.0;
    }

    boolean isSound() {
        return true;
    }

    /** The athletes with a result in an event, as bits, none if there is no such event; so ModelTest finds them. */
    int withResult(int event) {
        return in(event, 0, runs.size() - 1) ? bits(new TreeSet<>(runs.get(event).times.keySet())) : 0;
    }

    /** The athletes whose result can come in an event. */
    int awaited(int event) {
        if (!in(event, 0, runs.size() - 1) || !runs.get(event).began || runs.get(event).closed) {
            return 0;
        }
        TreeSet<Integer> awaited = new TreeSet<>(runs.get(event).kindOfEntry.keySet());
        awaited.removeAll(runs.get(event).fallen);
        awaited.removeAll(runs.get(event).times.keySet());
        return bits(awaited);
    }

    /** The athletes of a land who have a class. */
    int withClass(int land) {
        TreeSet<Integer> found = new TreeSet<>();
        for (int athlete = 0; athlete < people.size(); athlete++) {
            if (people.get(athlete).land == land && people.get(athlete).kind != -1) {
                found.add(athlete);
            }
        }
        return bits(found);
    }

    /** The athletes on the floor of a land. */
    int standing(int land) {
        return in(land, 0, 5) ? bits(floors.get(land)) : 0;
    }
}
