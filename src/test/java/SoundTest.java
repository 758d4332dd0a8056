import java.lang.reflect.Field;
import java.util.List;

/**
 * Promise 39: no run of calls leads to games that are not sound, so here the state inside is bent by reflection,
 * once for each thing that isSound looks at.
 */
public final class SoundTest {
    private static int wrong;

    public static void main(String[] args) throws ReflectiveOperationException {
        found();
        floors();
        entries();
        classes();
        System.out.println(wrong == 0 ? "isSound is as due" : wrong + " answers are not as due");
        if (wrong != 0) {
            System.exit(1);
        }
    }

    /** Three confirmed athletes in class 0, entered in event 0 that began, athlete 0 on the floor of land 0. */
    private static EvenstartGames games() {
        EvenstartGames games = new EvenstartGames();
        games.kind(0, 20, 20, 150);
        games.kind(4, 20, 20, 150);
        games.classifier(4);
        games.classifier(5);
        games.event(1);
        for (int i = 0; i < 3; i++) {
            games.athlete(i);
            games.body(i, 0, 60);
            games.test(i, 0, 1);
            games.protest(5, i);
            games.enter(0, i);
        }
        games.begin(0);
        games.floor(0, 1);
        return games;
    }

    private static void due(String what, boolean got, boolean due) {
        if (got != due) {
            wrong++;
            System.out.println(what + ": isSound() answered " + got);
        }
    }

    private static Object get(Object target, String name) throws ReflectiveOperationException {
        Field field = target.getClass().getDeclaredField(name);
        field.setAccessible(true);
        return field.get(target);
    }

    private static void set(Object target, String name, Object value) throws ReflectiveOperationException {
        Field field = target.getClass().getDeclaredField(name);
        field.setAccessible(true);
        field.set(target, value);
    }

    private static Object listed(EvenstartGames games, String list, int index) throws ReflectiveOperationException {
        return ((List<?>) get(games, list)).get(index);
    }

    private static void found() throws ReflectiveOperationException {
        EvenstartGames games = games();
        due("as it was made", games.isSound(), true);
        int[] found = (int[]) get(get(listed(games, "athletes", 2), "found"), "values");
        found[0] = 81;
        due("found outside the class", games.isSound(), false);
        found[0] = 80;
        due("found on the edge of the class", games.isSound(), true);
        found[0] = 100;
        set(listed(games, "athletes", 2), "status", 'n');
        due("found outside the class of one who is not confirmed", games.isSound(), true);
        set(listed(games, "athletes", 2), "status", 'c');
        due("found outside the class of one who is confirmed", games.isSound(), false);
    }

    private static void floors() throws ReflectiveOperationException {
        EvenstartGames games = games();
        Object first = listed(games, "athletes", 0);
        games.body(0, 0, 90);
        games.protest(5, 0);
        due("banned", games.isSound(), true);
        set(first, "standsOnFloor", true);
        due("banned on the floor", games.isSound(), false);
        set(first, "status", 'e');
        due("without a class on the floor", games.isSound(), false);
        set(first, "standsOnFloor", false);
        due("without a class and not on the floor", games.isSound(), true);
    }

    private static void entries() throws ReflectiveOperationException {
        for (int athlete = 0; athlete < 3; athlete++) {
            EvenstartGames games = games();
            Object other = listed(games, "kinds", 1);
            Object entry = ((Object[]) get(listed(games, "events", 0), "entries"))[athlete];
            set(entry, "kind", other);
            due("an open entry of another class", games.isSound(), false);
            set(listed(games, "events", 0), "began", false);
            due("an entry of another class in an event that did not begin", games.isSound(), false);
            set(entry, "fell", true);
            due("an open entry of another class that fell", games.isSound(), true);
            set(entry, "fell", false);
            set(listed(games, "events", 0), "closed", true);
            due("a closed entry of another class", games.isSound(), true);
        }
    }

    private static void classes() throws ReflectiveOperationException {
        for (char status : new char[] {'-', 'e', 'n', 'c', 'r', 'x'}) {
            EvenstartGames games = games();
            games.floor(0, 0);
            set(listed(games, "athletes", 0), "status", status);
            due("a class with the status " + status, games.isSound(), "ncr".indexOf(status) >= 0);
        }
    }
}
