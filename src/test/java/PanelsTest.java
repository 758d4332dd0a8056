/** Promises 1 to 18: bodies and panels. */
public final class PanelsTest {
    /** Two classes, a panel of lands 3 and 4, and athletes of lands 0, 1, 0 in class 0, 0 and 1. */
    private static final String TESTED = """
            kind(0, 20, 20, 150) = 0; kind(4, 30, 30, 500) = 1; classifier(3) = 0; classifier(4) = 1;
            athlete(0) = 0; athlete(1) = 1; athlete(0) = 2;
            body(0, 0, 60) = 100; body(1, 0, 50) = 100; body(2, 4, 40) = 100;
            test(0, 0, 1) = n; test(1, 0, 1) = n; test(2, 0, 1) = n;
            classOf(0) = 0; classOf(1) = 0; classOf(2) = 1;
            """;

    /** The same three in an event that began, without results. */
    private static final String BEGUN = TESTED + """
            event(3) = 0; enter(0, 0) = 1; enter(0, 1) = 2; enter(0, 2) = 3; begin(0) = 3;
            """;

    public static void main(String[] args) {
        newObject();
        athletes();
        bodies();
        shown();
        found();
        classifiers();
        kinds();
        belonging();
        tests();
        watching();
        protests();
        borders();
        years();
        Script.end();
    }

    private static void newObject() {
        Script.run("1: a new object", """
                year() = 0; checksum() = 35795981767; isSound() = true; fallenShare() = throws NoSuchElementException;
                money(0) = 1000; money(1) = 1000; money(2) = 1000; money(3) = 1000; money(4) = 1000; money(5) = 1000;
                onFloor(0) = 0; onFloor(5) = 0; points(0) = 0; points(5) = 0;
                status(0) = throws IndexOutOfBoundsException; record(0) = throws IndexOutOfBoundsException;
                close(0) = throws IndexOutOfBoundsException; event(1) = throws IllegalArgumentException;
                classifier(0) = 0; athlete(0) = 0; test(0, 0, 1) = throws IndexOutOfBoundsException;
                """);
    }

    private static void athletes() {
        Script.run("2: athlete", """
                athlete(-1) = throws IndexOutOfBoundsException; athlete(6) = throws IndexOutOfBoundsException;
                athlete(2147483647) = throws IndexOutOfBoundsException;
                athlete(0) = 0; athlete(5) = 1; athlete(5) = 2; athlete(1) = 3; athlete(2) = 4; athlete(3) = 5;
                athlete(4) = 6; athlete(0) = 7; athlete(0) = 8; athlete(0) = 9; athlete(0) = 10; athlete(0) = 11;
                athlete(0) = 12; athlete(0) = 13; athlete(0) = 14; athlete(0) = 15;
                athlete(0) = throws IllegalStateException; athlete(6) = throws IndexOutOfBoundsException;
                status(15) = -; classOf(15) = -1; status(16) = throws IndexOutOfBoundsException;
                """);
    }

    private static void bodies() {
        Script.run("3: body", """
                body(0, 0, 50) = throws IndexOutOfBoundsException; body(0, 5, 101) = throws IndexOutOfBoundsException;
                athlete(0) = 0; athlete(0) = 1; body(0, 0, 0) = 100; body(0, 0, 100) = 0; body(0, 4, 1) = 100;
                body(0, 4, 7) = 1; body(0, 3, 7) = 100; body(1, 4, 9) = 100;
                body(0, -1, 50) = throws IllegalArgumentException; body(0, 5, 50) = throws IllegalArgumentException;
                body(0, 0, -1) = throws IllegalArgumentException; body(0, 0, 101) = throws IllegalArgumentException;
                body(-1, 0, 50) = throws IndexOutOfBoundsException; body(2, 0, 50) = throws IndexOutOfBoundsException;
                body(0, 0, 3) = 100;
                """);
    }

    private static void shown() {
        Script.run("4: show", """
                show(0, 5, 101) = throws IndexOutOfBoundsException;
                athlete(0) = 0; show(0, 0, 30) = 100; show(0, 0, 0) = 30; show(0, 0, 100) = 0; show(0, 0, 40) = 100;
                # what is told stays, whatever the body becomes
                body(0, 0, 60) = 100; show(0, 0, -1) = 40; show(0, 0, -1) = 60; body(0, 0, 70) = 60;
                show(0, 0, -1) = 70; show(0, 4, 5) = 100; show(0, 3, 6) = 100; show(0, 4, 5) = 5;
                show(0, 0, -2) = throws IllegalArgumentException; show(0, 0, 101) = throws IllegalArgumentException;
                show(0, -1, 5) = throws IllegalArgumentException; show(0, 5, 5) = throws IllegalArgumentException;
                show(1, 0, 5) = throws IndexOutOfBoundsException; show(-1, 0, 5) = throws IndexOutOfBoundsException;
                # what is shown is no part of what is
                belongs(0) = -1; meanLack(0) = 6.0;
                """);
    }

    private static void found() {
        Script.run("5: found", """
                found(0, 5) = throws IndexOutOfBoundsException;
                athlete(0) = 0; classifier(1) = 0; classifier(2) = 1;
                found(0, 0) = throws NoSuchElementException; found(0, 5) = throws IllegalArgumentException;
                found(0, -1) = throws IllegalArgumentException;
                body(0, 0, 61) = 100; body(0, 1, 62) = 100; show(0, 1, 12) = 62; body(0, 4, 65) = 100;
                found(0, 0) = throws NoSuchElementException;
                # one who is not eligible was found too
                test(0, 0, 1) = e; found(0, 0) = 61; found(0, 1) = 12; found(0, 2) = 100; found(0, 3) = 100;
                found(0, 4) = 65; found(0, 5) = throws IllegalArgumentException;
                found(1, 0) = throws IndexOutOfBoundsException;
                # it is kept until the next panel
                body(0, 0, 10) = 61; show(0, 1, 20) = 12; found(0, 0) = 61; found(0, 1) = 12;
                test(0, 1, 0) = e; found(0, 0) = 10; found(0, 1) = 20;
                """);
    }

    private static void classifiers() {
        Script.run("6: classifier", """
                classifier(-1) = throws IndexOutOfBoundsException; classifier(6) = throws IndexOutOfBoundsException;
                classifier(0) = 0; classifier(5) = 1; classifier(5) = 2; classifier(1) = 3; classifier(1) = 4;
                classifier(1) = 5; classifier(1) = 6; classifier(1) = 7; classifier(1) = throws IllegalStateException;
                classifier(6) = throws IndexOutOfBoundsException;
                athlete(2) = 0; test(0, 0, 1) = e; test(0, 7, 2) = e; test(0, 1, 2) = throws IllegalArgumentException;
                test(0, 0, 8) = throws IndexOutOfBoundsException;
                """);
    }

    private static void kinds() {
        Script.run("7: kind", """
                kind(-1, 20, 0, 10) = throws IllegalArgumentException;
                kind(5, 20, 0, 10) = throws IllegalArgumentException;
                kind(0, 0, 0, 10) = throws IllegalArgumentException;
                kind(0, 101, 0, 10) = throws IllegalArgumentException;
                kind(0, 20, -1, 10) = throws IllegalArgumentException;
                kind(0, 20, 0, 501) = throws IllegalArgumentException;
                kind(0, 20, 11, 10) = throws IllegalArgumentException;
                kind(0, 20, 501, 502) = throws IllegalArgumentException;
                kind(0, 20, -2, -1) = throws IllegalArgumentException;
                kind(0, 1, 0, 0) = 0; kind(4, 100, 500, 500) = 1; kind(1, 1, 0, 500) = 2; kind(2, 50, 10, 10) = 3;
                kind(3, 1, 0, 0) = 4; kind(3, 1, 0, 0) = 5; kind(3, 1, 0, 0) = 6; kind(3, 1, 0, 0) = 7;
                kind(3, 1, 0, 0) = throws IllegalStateException; kind(3, 0, 0, 0) = throws IllegalArgumentException;
                record(7) = throws NoSuchElementException; record(8) = throws IndexOutOfBoundsException;
                """);
    }

    private static void belonging() {
        Script.run("8: belongs", """
                belongs(0) = throws IndexOutOfBoundsException; athlete(0) = 0; belongs(0) = -1;
                belongs(-1) = throws IndexOutOfBoundsException; belongs(1) = throws IndexOutOfBoundsException;
                kind(1, 20, 50, 60) = 0; kind(1, 10, 10, 60) = 1; kind(1, 10, 10, 500) = 2; belongs(0) = -1;
                # the key must lack as much
                body(0, 1, 91) = 100; body(0, 0, 90) = 100; belongs(0) = -1; body(0, 1, 90) = 91; belongs(0) = 1;
                # the sum of all five lacks, between the bounds or on them
                body(0, 1, 80) = 90; belongs(0) = 1; body(0, 2, 81) = 100; belongs(0) = 1; body(0, 2, 80) = 81;
                belongs(0) = 0; body(0, 3, 95) = 100; body(0, 4, 95) = 100; belongs(0) = 0; body(0, 4, 94) = 95;
                belongs(0) = 2; body(0, 0, 0) = 90; body(0, 1, 0) = 80; body(0, 2, 0) = 80; body(0, 3, 0) = 95;
                body(0, 4, 0) = 94; belongs(0) = 2;
                # by what is, not by what is shown or found
                show(0, 1, 100) = 0; belongs(0) = 2; classOf(0) = -1;
                """);
    }

    private static void tests() {
        Script.run("9, 10, 11: test, status, classOf", """
                status(0) = throws IndexOutOfBoundsException; classOf(0) = throws IndexOutOfBoundsException;
                kind(0, 20, 20, 150) = 0; classifier(3) = 0; classifier(4) = 1; classifier(3) = 2; classifier(0) = 3;
                athlete(0) = 0; status(0) = -; classOf(0) = -1; status(-1) = throws IndexOutOfBoundsException;
                classOf(-1) = throws IndexOutOfBoundsException; status(1) = throws IndexOutOfBoundsException;
                test(1, 0, 1) = throws IndexOutOfBoundsException; test(-1, 0, 1) = throws IndexOutOfBoundsException;
                test(0, -1, 1) = throws IndexOutOfBoundsException; test(0, 4, 1) = throws IndexOutOfBoundsException;
                test(0, 0, -1) = throws IndexOutOfBoundsException; test(0, 0, 4) = throws IndexOutOfBoundsException;
                # of one land, the same one twice, or of the land of the athlete
                test(0, 0, 2) = throws IllegalArgumentException; test(0, 0, 0) = throws IllegalArgumentException;
                test(0, 3, 1) = throws IllegalArgumentException; test(0, 1, 3) = throws IllegalArgumentException;
                test(0, 0, 1) = e; status(0) = e; classOf(0) = -1;
                # by what is shown
                body(0, 0, 80) = 100; show(0, 0, 81) = 80; test(0, 2, 1) = e; show(0, 0, 80) = 81;
                body(0, 0, 100) = 80; test(0, 1, 2) = n; status(0) = n; classOf(0) = 0; test(0, 1, 0) = n;
                show(0, 0, -1) = 80; test(0, 0, 1) = e; classOf(0) = -1;
                """);
        Script.run("9: a banned athlete is not tested", BEGUN + """
                body(0, 0, 81) = 60; result(0, 0, 100, 1) = 100; watch(0) = x; test(0, 0, 1) = throws
                UnsupportedOperationException; test(0, 0, 0) = throws IllegalArgumentException;
                test(0, 0, 2) = throws IndexOutOfBoundsException; next() = 1; next() = 2; status(0) = -;
                test(0, 0, 1) = e; body(0, 0, 80) = 81; test(0, 0, 1) = n;
                """);
        Script.run("9: another class drops open entries and points, the same class does not", BEGUN + """
                floor(0, 5) = 3; body(2, 4, 30) = 40; test(2, 0, 1) = n; fell(0, 2) = false; onFloor(0) = 5;
                result(0, 2, 100, 100) = 100; body(2, 4, 100) = 30; body(2, 0, 80) = 100; test(2, 0, 1) = n;
                classOf(2) = 0; fell(0, 2) = true; time(0, 2) = throws NoSuchElementException; inClass(0, 2) = 1;
                onFloor(0) = 5; points(0) = 2; body(2, 0, 100) = 80; test(2, 0, 1) = e; onFloor(0) = 1;
                fell(0, 0) = false; fell(0, 1) = false;
                """);
        Script.run("9: one who was confirmed or under review is new again by a test", BEGUN + """
                result(0, 0, 100, 1) = 100; watch(0) = c; test(0, 0, 1) = n; border(0, 45, 150) = 1; status(0) = r;
                until(0) = 2; border(0, 40, 150) = 0; status(0) = r; test(0, 0, 1) = n;
                until(0) = throws NoSuchElementException; fell(0, 0) = false; next() = 1; next() = 2; status(0) = n;
                """);
    }

    private static void watching() {
        Script.run("12: who can be watched", BEGUN + """
                watch(3) = throws IndexOutOfBoundsException; watch(-1) = throws IndexOutOfBoundsException;
                watch(0) = throws UnsupportedOperationException; result(0, 0, 100, 1) = 100; watch(0) = c;
                status(0) = c; classOf(0) = 0; watch(0) = throws UnsupportedOperationException;
                watch(1) = throws UnsupportedOperationException; result(0, 2, 100, 99) = -1;
                # an entry that fell has no result
                watch(2) = throws UnsupportedOperationException;
                athlete(2) = 3; watch(3) = throws UnsupportedOperationException;
                test(3, 0, 1) = e; watch(3) = throws UnsupportedOperationException;
                """);
        Script.run("12: with a result in a closed event", BEGUN + """
                result(0, 0, 100, 1) = 100; close(0) = 1; watch(1) = throws UnsupportedOperationException;
                watch(0) = c; border(0, 45, 150) = 1; status(0) = r; status(1) = n; watch(0) = e; fell(0, 0) = false;
                time(0, 0) = 100; until(0) = throws NoSuchElementException;
                """);
        Script.run("12: more than 20 above", BEGUN + """
                result(0, 0, 100, 1) = 100; result(0, 1, 101, 1) = 101; result(0, 2, 102, 102) = 102;
                floor(0, 5) = 3;
                body(0, 0, 80) = 60; watch(0) = c; found(0, 0) = 80; onFloor(0) = 5; fell(0, 0) = false;
                # banned by one measure, though the sum is greater
                body(1, 0, 71) = 50; body(1, 1, 60) = 100; watch(1) = x; status(1) = x; classOf(1) = -1;
                found(1, 0) = 71; found(1, 1) = 60; until(1) = 2; fell(0, 1) = true;
                body(2, 4, 61) = 40; next() = 1; watch(2) = x; onFloor(0) = 1; points(0) = 1; until(2) = 3;
                watch(2) = throws UnsupportedOperationException; time(0, 2) = throws NoSuchElementException;
                next() = 2; status(1) = -; status(2) = x; until(1) = throws NoSuchElementException; until(2) = 3;
                found(1, 0) = 71; next() = 3; status(2) = -; classOf(2) = -1; found(2, 4) = 61; fell(0, 2) = true;
                """);
        Script.run("12: the last measure can betray, and what is shown counts no more", BEGUN + """
                result(0, 2, 100, 100) = 100; show(2, 4, 30) = 40; watch(2) = c; found(2, 4) = 40; show(2, 4, 10) = 30;
                test(2, 0, 1) = n; found(2, 4) = 10; watch(2) = x; found(2, 4) = 40;
                """);
        Script.run("12: into another class, or none", BEGUN + """
                result(0, 0, 100, 1) = 100; result(0, 1, 101, 1) = 101; body(0, 4, 70) = 100; body(0, 0, 81) = 60;
                status(0) = n; body(0, 0, 80) = 81; body(0, 1, 0) = 100; watch(0) = c; classOf(0) = 0;
                body(1, 0, 70) = 50; body(1, 1, 0) = 100; body(1, 2, 50) = 100; body(1, 4, 70) = 100; watch(1) = c;
                classOf(1) = 1; fell(0, 1) = true; fell(0, 0) = false; found(1, 1) = 0; inClass(0, 1) = 0;
                border(1, 0, 209) = 1; status(1) = r; watch(1) = throws UnsupportedOperationException;
                """);
    }

    private static void protests() {
        Script.run("13, 14: protest, money", TESTED + """
                money(-1) = throws IndexOutOfBoundsException; money(6) = throws IndexOutOfBoundsException;
                protest(-1, 0) = throws IndexOutOfBoundsException; protest(6, 0) = throws IndexOutOfBoundsException;
                protest(0, -1) = throws IndexOutOfBoundsException; protest(0, 3) = throws IndexOutOfBoundsException;
                # new, confirmed, also by the own land, without a result
                protest(0, 0) = false; money(0) = 900; status(0) = c; protest(0, 0) = false; money(0) = 800;
                athlete(2) = 3; protest(0, 3) = throws UnsupportedOperationException; test(3, 0, 1) = e;
                protest(0, 3) = throws UnsupportedOperationException; money(0) = 800; money(1) = 1000;
                # under review, and it stays confirmed in its class
                border(0, 41, 150) = 1; status(0) = r; body(0, 1, 99) = 100; protest(1, 0) = false; status(0) = c;
                until(0) = throws NoSuchElementException; money(1) = 900; found(0, 1) = 99;
                # none, then
                body(0, 0, 81) = 60; protest(5, 0) = true; money(5) = 1000; status(0) = x; until(0) = 2;
                protest(5, 0) = throws UnsupportedOperationException;
                body(1, 0, 65) = 50; protest(5, 1) = true; status(1) = e; money(5) = 1000;
                # another class, then
                body(2, 4, 60) = 40; body(2, 0, 80) = 100; protest(5, 2) = true; classOf(2) = 0; status(2) = c;
                money(5) = 1000;
                """);
        Script.run("13: the money ends", TESTED + """
                protest(4, 0) = false; protest(4, 0) = false; protest(4, 0) = false; protest(4, 0) = false;
                protest(4, 0) = false; protest(4, 0) = false; protest(4, 0) = false; protest(4, 0) = false;
                protest(4, 0) = false; money(4) = 100; protest(4, 0) = false; money(4) = 0;
                protest(4, 0) = throws UnsupportedOperationException; body(1, 0, 90) = 50;
                protest(4, 1) = throws UnsupportedOperationException; money(3) = 1000; protest(3, 1) = true;
                """);
        Script.run("13: the last 100 come back", TESTED + """
                protest(4, 0) = false; protest(4, 0) = false; protest(4, 0) = false; protest(4, 0) = false;
                protest(4, 0) = false; protest(4, 0) = false; protest(4, 0) = false; protest(4, 0) = false;
                protest(4, 0) = false; body(1, 0, 90) = 50; protest(4, 1) = true; money(4) = 100;
                """);
        Script.run("13: medals move", BEGUN + """
                result(0, 0, 100, 1) = 100; result(0, 1, 101, 1) = 101; result(0, 2, 102, 102) = 102;
                floor(0, 5) = 3; place(0, 2) = 3; at(0, 0) = 0; body(0, 0, 90) = 60; protest(1, 0) = true;
                place(0, 2) = 2; at(0, 0) = 1; place(0, 0) = throws NoSuchElementException; onFloor(0) = 4;
                close(0) = 2; body(1, 0, 90) = 50; protest(1, 1) = true; place(0, 1) = 1; fell(0, 1) = false;
                """);
    }

    private static void borders() {
        Script.run("15: wrong numbers", """
                border(0, 10, 5) = throws IndexOutOfBoundsException; kind(0, 20, 20, 150) = 0;
                border(1, 10, 5) = throws IndexOutOfBoundsException; border(-1, 0, 5) = throws
                IndexOutOfBoundsException; border(0, 10, 9) = throws IllegalArgumentException;
                border(0, -1, 9) = throws IllegalArgumentException;
                border(0, 0, 501) = throws IllegalArgumentException; border(0, 501, 501) = throws
                IllegalArgumentException; border(0, 0, 0) = 0; border(0, 500, 500) = 0; border(0, 0, 500) = 0;
                """);
        Script.run("15: border", BEGUN + """
                # the sums that were found are 40, 50 and 60
                border(0, 40, 50) = 0; status(0) = n; border(0, 41, 50) = 1; status(0) = r; classOf(0) = 0;
                until(0) = 2; until(1) = throws NoSuchElementException; status(1) = n; status(2) = n;
                # entries, and the floor, stay while it lasts
                fell(0, 0) = false; floor(0, 5) = 3; result(0, 0, 100, 1) = 100;
                # also who was under review already, but not who is within it again
                next() = 1; border(0, 20, 30) = 2; until(0) = 3; until(1) = 3; status(1) = r;
                next() = 2; border(0, 20, 40) = 1; until(0) = 3; until(1) = 4; status(0) = r; until(0) = 3;
                next() = 3; status(0) = c; classOf(0) = 0; status(1) = r; fell(0, 0) = false; onFloor(0) = 5;
                next() = 4; status(1) = e; classOf(1) = -1; fell(0, 1) = true; until(1) = throws NoSuchElementException;
                """);
        Script.run("15: by what was found, not by what is", TESTED + """
                body(0, 0, 0) = 60; border(0, 40, 50) = 0; border(0, 50, 150) = 1; next() = 1; next() = 2;
                status(0) = e; found(0, 0) = 60;
                """);
        Script.run("15: another class as the review ends", BEGUN + """
                body(0, 4, 60) = 100; test(0, 0, 1) = n; classOf(0) = 0; floor(0, 5) = 3; border(0, 20, 79) = 1;
                classOf(0) = 0; points(0) = 3; next() = 1; next() = 2; classOf(0) = 1; status(0) = c; points(0) = 4;
                fell(0, 0) = true; border(1, 0, 500) = 0; status(0) = c;
                """);
        Script.run("15: the record ends, also without anyone under review", BEGUN + """
                protest(5, 0) = false; result(0, 0, 100, 1) = 100; record(0) = 100; border(1, 0, 500) = 0;
                record(0) = 100; border(0, 20, 150) = 0; record(0) = throws NoSuchElementException; time(0, 0) = 100;
                """);
    }

    private static void years() {
        StringBuilder all = new StringBuilder();
        for (int year = 1; year <= 40; year++) {
            all.append("next() = ").append(year).append("; year() = ").append(year).append(";\n");
        }
        Script.run("16, 17: year, next", "year() = 0;" + all + "next() = throws IllegalStateException; year() = 40;");
        Script.run("18: until", TESTED + """
                until(3) = throws IndexOutOfBoundsException; until(-1) = throws IndexOutOfBoundsException;
                until(0) = throws NoSuchElementException; athlete(2) = 3; until(3) = throws NoSuchElementException;
                """ + all.toString().replace("year() = 40;", "") + """
                body(0, 0, 81) = 60; protest(0, 0) = true; until(0) = 42; border(0, 51, 150) = 1; until(1) = 42;
                next() = throws IllegalStateException; status(0) = x; status(1) = r;
                """);
    }
}
