/** Promises 19 to 31: events. */
public final class EventsTest {
    /**
     * Class 0 by strength and class 1 by sight, a panel of lands 4 and 5; athletes 0, 1, 2 of land 0 and
     * 3, 4 of land 1 are in class 0, athlete 5 of land 2 is in class 1, and athlete 6 of land 0 in class 0.
     */
    private static final String TESTED = """
            kind(0, 20, 20, 150) = 0; kind(4, 30, 30, 500) = 1; classifier(4) = 0; classifier(5) = 1;
            athlete(0) = 0; athlete(0) = 1; athlete(0) = 2; athlete(1) = 3; athlete(1) = 4; athlete(2) = 5;
            athlete(0) = 6;
            body(0, 0, 60) = 100; body(1, 0, 60) = 100; body(2, 0, 60) = 100; body(3, 0, 60) = 100;
            body(4, 0, 60) = 100; body(5, 4, 60) = 100; body(6, 0, 60) = 100;
            test(0, 0, 1) = n; test(1, 0, 1) = n; test(2, 0, 1) = n; test(3, 0, 1) = n; test(4, 0, 1) = n;
            test(5, 0, 1) = n; test(6, 0, 1) = n; classOf(4) = 0; classOf(5) = 1;
            """;

    private static final String BEGUN = TESTED + """
            event(3) = 0; factor(0, 1, 80) = 100; enter(0, 6) = 1; enter(0, 5) = 2; enter(0, 4) = 3; enter(0, 3) = 4;
            enter(0, 2) = 5; enter(0, 1) = 6; enter(0, 0) = 7; begin(0) = 7;
            """;

    public static void main(String[] args) {
        events();
        factors();
        entries();
        begins();
        results();
        guides();
        askedEntries();
        closes();
        places();
        slots();
        records();
        Script.end();
    }

    private static void events() {
        Script.run("19: event", """
                event(0) = throws IllegalArgumentException; event(1) = throws IllegalArgumentException;
                kind(0, 20, 20, 150) = 0; kind(0, 20, 20, 150) = 1;
                event(0) = throws IllegalArgumentException; event(4) = throws IllegalArgumentException;
                event(5) = throws IllegalArgumentException; event(-1) = throws IllegalArgumentException;
                event(-2147483648) = throws IllegalArgumentException; event(1) = 0; event(2) = 1; event(3) = 2;
                kind(0, 20, 20, 150) = 2; kind(0, 20, 20, 150) = 3; kind(0, 20, 20, 150) = 4;
                kind(0, 20, 20, 150) = 5; kind(0, 20, 20, 150) = 6; kind(0, 20, 20, 150) = 7;
                event(256) = throws IllegalArgumentException; event(511) = throws IllegalArgumentException;
                event(255) = 3; event(128) = 4; event(1) = 5; event(1) = 6; event(1) = 7;
                event(1) = throws IllegalStateException; event(256) = throws IllegalArgumentException;
                event(0) = throws IllegalArgumentException; begin(8) = throws IndexOutOfBoundsException;
                begin(7) = throws UnsupportedOperationException;
                """);
    }

    private static void factors() {
        Script.run("20: factor", """
                factor(0, 0, 49) = throws IndexOutOfBoundsException; kind(0, 20, 20, 150) = 0;
                kind(0, 20, 20, 150) = 1; kind(0, 20, 20, 150) = 2; event(5) = 0; event(2) = 1;
                factor(0, 0, 50) = 100; factor(0, 0, 100) = 50; factor(0, 2, 70) = 100; factor(0, 2, 70) = 70;
                factor(0, 0, 99) = 100; factor(1, 1, 60) = 100;
                factor(0, 1, 70) = throws IndexOutOfBoundsException; factor(0, 1, 49) = throws
                IndexOutOfBoundsException; factor(0, 3, 70) = throws IndexOutOfBoundsException;
                factor(0, -1, 70) = throws
                IndexOutOfBoundsException; factor(0, 32, 70) = throws IndexOutOfBoundsException;
                factor(0, 2147483647, 70) = throws IndexOutOfBoundsException;
                factor(2, 0, 70) = throws IndexOutOfBoundsException; factor(-1, 0, 70) = throws
                IndexOutOfBoundsException; factor(0, 0, 49) = throws IllegalArgumentException;
                factor(0, 0, 101) = throws IllegalArgumentException; factor(0, 0, 60) = 99;
                """);
        Script.run("20: factor of an event that began", BEGUN + """
                factor(0, 1, 70) = throws UnsupportedOperationException; factor(0, 1, 49) = throws
                IllegalArgumentException; factor(0, 2, 70) = throws IndexOutOfBoundsException; close(0) = 0;
                factor(0, 1, 70) = throws UnsupportedOperationException;
                """);
    }

    private static void entries() {
        Script.run("21: enter", TESTED + """
                enter(0, 0) = throws IndexOutOfBoundsException; event(1) = 0; event(3) = 1; athlete(3) = 7;
                enter(2, 0) = throws IndexOutOfBoundsException; enter(-1, 0) = throws IndexOutOfBoundsException;
                enter(0, 8) = throws IndexOutOfBoundsException; enter(0, -1) = throws IndexOutOfBoundsException;
                enter(0, 0) = 1; enter(0, 0) = throws UnsupportedOperationException; enter(1, 0) = 1;
                # not for the class, without a status, not eligible
                enter(0, 5) = throws UnsupportedOperationException; enter(1, 5) = 2;
                enter(0, 7) = throws UnsupportedOperationException; test(7, 0, 1) = e;
                enter(1, 7) = throws UnsupportedOperationException;
                # confirmed, under review, banned
                protest(5, 1) = false; status(1) = c; enter(0, 1) = 2; border(0, 41, 150) = 6; enter(0, 2) = 3;
                inClass(0, 2) = 0; body(3, 0, 90) = 60; protest(5, 3) = true; status(3) = x;
                enter(0, 3) = throws UnsupportedOperationException;
                # one who fell is in it, and counts
                body(0, 0, 100) = 60; test(0, 0, 1) = e; fell(0, 0) = true; body(0, 0, 50) = 100; test(0, 0, 1) = n;
                enter(0, 0) = throws UnsupportedOperationException; fell(0, 0) = true; enter(0, 4) = 4;
                """);
        Script.run("21: enter an event that began", TESTED + """
                event(3) = 0; enter(0, 0) = 1; enter(0, 3) = 2; enter(0, 5) = 3; begin(0) = 3;
                enter(0, 4) = throws UnsupportedOperationException; close(0) = 0;
                enter(0, 4) = throws UnsupportedOperationException;
                """);
    }

    private static void begins() {
        Script.run("22: begin", TESTED + """
                begin(0) = throws IndexOutOfBoundsException; event(3) = 0; begin(1) = throws IndexOutOfBoundsException;
                begin(-1) = throws IndexOutOfBoundsException; begin(0) = throws UnsupportedOperationException;
                enter(0, 0) = 1; enter(0, 3) = 2; begin(0) = throws UnsupportedOperationException;
                enter(0, 4) = 3; begin(0) = 3; begin(0) = throws UnsupportedOperationException; close(0) = 0;
                begin(0) = throws UnsupportedOperationException;
                """);
        Script.run("22: of one land", TESTED + """
                event(3) = 0; enter(0, 0) = 1; enter(0, 1) = 2; enter(0, 2) = 3; enter(0, 6) = 4;
                begin(0) = throws UnsupportedOperationException; enter(0, 5) = 5; body(5, 4, 100) = 60;
                test(5, 0, 1) = e; begin(0) = throws UnsupportedOperationException; enter(0, 3) = 6; begin(0) = 5;
                """);
        Script.run("22: those that fell count no more", TESTED + """
                event(3) = 0; enter(0, 0) = 1; enter(0, 1) = 2; enter(0, 3) = 3; body(1, 0, 100) = 60;
                test(1, 0, 1) = e; begin(0) = throws UnsupportedOperationException; enter(0, 2) = 4; begin(0) = 3;
                fallenShare() = 0.25;
                """);
    }

    private static void results() {
        Script.run("23: result", TESTED + """
                event(3) = 0; enter(0, 0) = 1; enter(0, 3) = 2; enter(0, 5) = 3; factor(0, 0, 50) = 100;
                factor(0, 1, 99) = 100;
                result(1, 0, 0, 1) = throws IndexOutOfBoundsException; result(-1, 0, 1, 1) = throws
                IndexOutOfBoundsException; result(0, 7, 0, 1) = throws IndexOutOfBoundsException;
                result(0, -1, 1, 1) = throws IndexOutOfBoundsException;
                result(0, 0, 100, 1) = throws UnsupportedOperationException;
                result(0, 0, 0, 1) = throws IllegalArgumentException; begin(0) = 3;
                result(0, 0, 0, 1) = throws IllegalArgumentException;
                result(0, 0, 100000, 1) = throws IllegalArgumentException;
                result(0, 0, -5, 1) = throws IllegalArgumentException;
                result(0, 1, 100, 1) = throws UnsupportedOperationException;
                # cut, and the guide has no meaning
                result(0, 0, 1, -7) = 0; time(0, 0) = 0; place(0, 0) = 1; result(0, 3, 99999, 2147483647) = 49999;
                result(0, 0, 100, 1) = throws UnsupportedOperationException;
                result(0, 0, 100000, 1) = throws IllegalArgumentException;
                result(0, 5, 99999, 99999) = 98999; time(0, 5) = 98999; close(0) = 3;
                """);
        Script.run("23: result of an entry that fell, or of a closed event", BEGUN + """
                body(0, 0, 100) = 60; test(0, 0, 1) = e; result(0, 0, 100, 1) = throws UnsupportedOperationException;
                body(0, 0, 60) = 100; test(0, 0, 1) = n; result(0, 0, 100, 1) = throws UnsupportedOperationException;
                result(0, 1, 100, 1) = 100; close(0) = 1; result(0, 2, 100, 1) = throws
                UnsupportedOperationException; result(0, 2, 0, 1) = throws IllegalArgumentException;
                result(0, 1, 100, 1) = throws UnsupportedOperationException;
                """);
    }

    private static void guides() {
        Script.run("23: the guide's time", TESTED + """
                event(2) = 0; event(1) = 1; body(3, 0, 100) = 60; body(3, 4, 70) = 100; test(3, 0, 1) = n;
                body(0, 0, 100) = 60; body(0, 4, 70) = 100; test(0, 0, 1) = n; enter(0, 0) = 1; enter(0, 3) = 2;
                enter(0, 5) = 3; factor(0, 1, 50) = 100;
                # the entry is of a class by sight, so its guide is looked at before the event
                result(0, 0, 100, 0) = throws IllegalArgumentException; result(0, 0, 100, 100) = throws
                UnsupportedOperationException; begin(0) = 3;
                result(0, 0, 100, 0) = throws IllegalArgumentException; result(0, 0, 100, 100000) = throws
                IllegalArgumentException; result(0, 0, 100, -1) = throws IllegalArgumentException;
                # without an entry there is no class, and no guide
                result(0, 1, 100, 0) = throws UnsupportedOperationException;
                result(1, 0, 100, 0) = throws UnsupportedOperationException;
                # not ahead at the same time; the times are not factored
                result(0, 0, 100, 100) = 50; result(0, 3, 100, 99) = -1; result(0, 5, 100, 99999) = 50;
                fell(0, 0) = false; fell(0, 3) = true; time(0, 3) = throws NoSuchElementException;
                result(0, 3, 100, 100) = throws UnsupportedOperationException; result(0, 3, 100, 0) = throws
                IllegalArgumentException; close(0) = 2; fallenShare() = 0.33333334;
                """);
    }

    private static void askedEntries() {
        Script.run("24, 25, 26: fell, time, inClass", BEGUN + """
                athlete(0) = 7; event(1) = 1;
                fell(2, 0) = throws IndexOutOfBoundsException; fell(-1, 0) = throws IndexOutOfBoundsException;
                fell(0, 8) = throws IndexOutOfBoundsException; fell(0, -1) = throws IndexOutOfBoundsException;
                fell(0, 7) = throws NoSuchElementException; fell(1, 0) = throws NoSuchElementException;
                time(2, 0) = throws IndexOutOfBoundsException; time(-1, 0) = throws IndexOutOfBoundsException;
                time(0, 8) = throws IndexOutOfBoundsException; time(0, -1) = throws IndexOutOfBoundsException;
                time(0, 7) = throws NoSuchElementException; time(0, 0) = throws NoSuchElementException;
                inClass(2, 0) = throws IndexOutOfBoundsException; inClass(-1, 0) = throws IndexOutOfBoundsException;
                inClass(0, 8) = throws IndexOutOfBoundsException; inClass(0, -1) = throws IndexOutOfBoundsException;
                inClass(0, 7) = throws NoSuchElementException; inClass(1, 0) = throws NoSuchElementException;
                fell(0, 0) = false; inClass(0, 0) = 0; inClass(0, 5) = 1; result(0, 0, 33, 1) = 33; time(0, 0) = 33;
                result(0, 5, 33, 33) = 26; time(0, 5) = 26; body(5, 4, 100) = 60; test(5, 0, 1) = e;
                fell(0, 5) = true; inClass(0, 5) = 1; time(0, 5) = throws NoSuchElementException;
                """);
        Script.run("24: all open entries of one fall, those of closed events stay", TESTED + """
                event(1) = 0; event(1) = 1; event(1) = 2; enter(0, 0) = 1; enter(0, 1) = 2; enter(0, 3) = 3;
                enter(1, 0) = 1; enter(1, 1) = 2; enter(1, 3) = 3; enter(2, 0) = 1; begin(0) = 3; begin(1) = 3;
                result(0, 0, 100, 1) = 100; result(1, 0, 101, 1) = 101; result(0, 1, 99, 1) = 99; close(0) = 2;
                body(0, 0, 100) = 60; test(0, 0, 1) = e; fell(0, 0) = false; fell(1, 0) = true; fell(2, 0) = true;
                time(0, 0) = 100; place(0, 0) = 2; time(1, 0) = throws NoSuchElementException; fell(1, 1) = false;
                fallenShare() = 0.2857143; close(1) = 0; body(3, 0, 100) = 60; test(3, 0, 1) = e; fell(0, 3) = false;
                fell(1, 3) = false;
                """);
    }

    private static void closes() {
        Script.run("27: close", TESTED + """
                close(0) = throws IndexOutOfBoundsException; event(3) = 0; close(-1) = throws IndexOutOfBoundsException;
                close(1) = throws IndexOutOfBoundsException; close(0) = throws UnsupportedOperationException;
                enter(0, 0) = 1; enter(0, 3) = 2; enter(0, 5) = 3; enter(0, 4) = 4;
                close(0) = throws UnsupportedOperationException; begin(0) = 4; result(0, 0, 100, 1) = 100;
                result(0, 5, 100, 99) = -1; result(0, 3, 100, 1) = 100; close(0) = 2;
                close(0) = throws UnsupportedOperationException;
                """);
    }

    private static void places() {
        Script.run("28, 29: at, place", BEGUN + """
                athlete(0) = 7; at(1, 0) = throws IndexOutOfBoundsException; at(-1, 0) = throws
                IndexOutOfBoundsException; at(0, 0) = throws NoSuchElementException;
                place(1, 0) = throws IndexOutOfBoundsException; place(-1, 0) = throws IndexOutOfBoundsException;
                place(0, 8) = throws IndexOutOfBoundsException; place(0, -1) = throws IndexOutOfBoundsException;
                place(0, 7) = throws NoSuchElementException; place(0, 0) = throws NoSuchElementException;
                result(0, 6, 100, 1) = 100; at(0, 0) = 6; place(0, 6) = 1; result(0, 2, 100, 1) = 100;
                at(0, 0) = 2; at(0, 1) = 6; place(0, 2) = 1; place(0, 6) = 1; result(0, 3, 101, 1) = 101;
                place(0, 3) = 3; at(0, 2) = 3; result(0, 5, 126, 126) = 100; place(0, 5) = 1; place(0, 3) = 4;
                at(0, 0) = 2; at(0, 1) = 5; at(0, 2) = 6; at(0, 3) = 3; result(0, 0, 99, 1) = 99;
                at(0, 0) = 0; at(0, 1) = 2; at(0, 4) = 3; place(0, 0) = 1; place(0, 5) = 2; place(0, 3) = 5;
                at(0, 5) = throws NoSuchElementException; at(0, -1) = throws NoSuchElementException;
                at(0, 2147483647) = throws NoSuchElementException;
                # who falls leaves the order
                body(2, 0, 100) = 60; test(2, 0, 1) = e; at(0, 1) = 5; place(0, 2) = throws NoSuchElementException;
                place(0, 3) = 4; close(0) = 4; at(0, 1) = 5; at(0, 4) = throws NoSuchElementException;
                # and the places of a closed event are kept
                body(0, 0, 100) = 60; test(0, 0, 1) = e; at(0, 0) = 0; place(0, 0) = 1; place(0, 3) = 4;
                """);
    }

    private static void slots() {
        Script.run("30: slot", BEGUN + """
                slot(1, 0, 0) = throws IndexOutOfBoundsException; slot(-1, 1, 0) = throws IndexOutOfBoundsException;
                slot(0, 0, 0) = throws IllegalArgumentException; slot(0, 17, 0) = throws IllegalArgumentException;
                slot(0, 0, -1) = throws IllegalArgumentException; slot(0, 1, 0) = throws NoSuchElementException;
                result(0, 6, 90, 1) = 90; result(0, 0, 91, 1) = 91; result(0, 1, 92, 1) = 92; result(0, 2, 92, 1) = 92;
                result(0, 3, 93, 1) = 93; result(0, 4, 94, 1) = 94; result(0, 5, 120, 120) = 96;
                # two of land 0, then the others
                slot(0, 16, 0) = 6; slot(0, 16, 1) = 0; slot(0, 16, 2) = 3; slot(0, 16, 3) = 4; slot(0, 16, 4) = 5;
                slot(0, 16, 5) = throws NoSuchElementException; slot(0, 16, -1) = throws NoSuchElementException;
                slot(0, 16, 2147483647) = throws NoSuchElementException; slot(0, 5, 4) = 5; slot(0, 4, 3) = 4;
                slot(0, 4, 4) = throws NoSuchElementException; slot(0, 1, 0) = 6;
                slot(0, 1, 1) = throws NoSuchElementException; slot(0, 1, -2147483648) = throws NoSuchElementException;
                # as one falls the next one of the land has it
                body(6, 0, 100) = 60; test(6, 0, 1) = e; slot(0, 3, 0) = 0; slot(0, 3, 1) = 1; slot(0, 3, 2) = 3;
                close(0) = 6; slot(0, 3, 1) = 1; slot(1, 1, 0) = throws IndexOutOfBoundsException;
                """);
    }

    private static void records() {
        Script.run("31: record", BEGUN + """
                record(-1) = throws IndexOutOfBoundsException; record(2) = throws IndexOutOfBoundsException;
                record(0) = throws NoSuchElementException; record(1) = throws NoSuchElementException;
                # new, or under review: no record
                result(0, 0, 50, 1) = 50; record(0) = throws NoSuchElementException;
                # confirmed only behind the result: none either
                watch(0) = c; record(0) = throws NoSuchElementException;
                protest(5, 1) = false; protest(5, 2) = false; protest(5, 5) = false; protest(5, 3) = false;
                result(0, 1, 70, 1) = 70; record(0) = 70; result(0, 2, 71, 1) = 71; record(0) = 70;
                result(0, 3, 69, 1) = 69; record(0) = 69; record(1) = throws NoSuchElementException;
                # not factored
                result(0, 5, 100, 100) = 80; record(1) = 100;
                # it stays, though the entry falls later
                body(3, 0, 100) = 60; test(3, 0, 1) = e; fell(0, 3) = true; record(0) = 69; record(1) = 100;
                border(0, 41, 150) = 5; record(0) = throws NoSuchElementException; record(1) = 100;
                result(0, 6, 60, 1) = 60; record(0) = throws NoSuchElementException;
                """);
        Script.run("31: a guide ahead makes no record, under review none", BEGUN + """
                protest(5, 5) = false; result(0, 5, 100, 99) = -1; record(1) = throws NoSuchElementException;
                protest(5, 0) = false; protest(5, 1) = false; border(0, 41, 150) = 6; border(0, 20, 150) = 0;
                status(0) = r; result(0, 0, 100, 1) = 100; record(0) = throws NoSuchElementException;
                protest(5, 1) = false; result(0, 1, 101, 1) = 101; record(0) = 101;
                """);
    }
}
