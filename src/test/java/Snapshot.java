import java.util.NoSuchElementException;

/** All that the answers of an object tell of its state, as a text. */
final class Snapshot {
    private static final int LANDS = 6;
    private static final int ATHLETES = 16;
    private static final int KINDS = 8;
    private static final int EVENTS = 8;
    private static final int MEASURES = 5;

    private interface Call {
        Object answer();
    }

    private Snapshot() {
    }

    static String of(EvenstartGames games) {
        StringBuilder text = new StringBuilder();
        add(text, "year", games::year);
        add(text, "checksum", games::checksum);
        add(text, "fallenShare", games::fallenShare);
        add(text, "isSound", games::isSound);
        for (int i = 0; i < LANDS; i++) {
            int land = i;
            add(text, "money", () -> games.money(land));
            add(text, "onFloor", () -> games.onFloor(land));
            add(text, "points", () -> games.points(land));
        }
        for (int i = 0; i < KINDS; i++) {
            int kind = i;
            add(text, "record", () -> games.record(kind));
        }
        for (int i = 0; i < ATHLETES; i++) {
            addAthlete(text, games, i);
        }
        for (int i = 0; i < EVENTS; i++) {
            addEvent(text, games, i);
        }
        return text.toString();
    }

    private static void addAthlete(StringBuilder text, EvenstartGames games, int athlete) {
        add(text, "athlete", () -> athlete);
        add(text, "belongs", () -> games.belongs(athlete));
        add(text, "status", () -> games.status(athlete));
        add(text, "classOf", () -> games.classOf(athlete));
        add(text, "until", () -> games.until(athlete));
        add(text, "meanLack", () -> games.meanLack(athlete));
        for (int i = 0; i < MEASURES; i++) {
            int measure = i;
            add(text, "found", () -> games.found(athlete, measure));
        }
    }

    private static void addEvent(StringBuilder text, EvenstartGames games, int event) {
        add(text, "event", () -> event);
        for (int i = 0; i < ATHLETES; i++) {
            int number = i;
            add(text, "fell", () -> games.fell(event, number));
            add(text, "time", () -> games.time(event, number));
            add(text, "inClass", () -> games.inClass(event, number));
            add(text, "place", () -> games.place(event, number));
            add(text, "at", () -> games.at(event, number));
            add(text, "slot", () -> games.slot(event, ATHLETES, number));
        }
    }

    private static void add(StringBuilder text, String name, Call call) {
        text.append(name).append(' ');
        try {
            text.append(call.answer());
        } catch (IndexOutOfBoundsException e) {
            text.append('!');
        } catch (NoSuchElementException e) {
            text.append('?');
        }
        text.append('\n');
    }
}
