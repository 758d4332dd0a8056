/** The first example of the document, as it stands there. */
public final class FirstExampleTest {
    public static void main(String[] args) {
        Script.run("first example", """
                classifier(3) = 0; classifier(4) = 1; kind(0, 20, 20, 150) = 0; kind(4, 30, 30, 500) = 1;
                athlete(0) = 0; athlete(1) = 1; athlete(0) = 2; body(0, 0, 60) = 100; body(1, 0, 50) = 100;
                show(1, 0, 40) = 50; body(2, 4, 40) = 100; belongs(2) = 1; test(0, 0, 1) = n; test(1, 0, 1) = n;
                test(2, 0, 1) = n; found(1, 0) = 40; classOf(2) = 1; status(0) = n; event(3) = 0;
                factor(0, 1, 80) = 100; enter(0, 0) = 1; enter(0, 1) = 2; enter(0, 2) = 3; begin(0) = 3;
                result(0, 0, 120, 1) = 120; watch(0) = c; result(0, 1, 110, 1) = 110; result(0, 2, 150, 160) = 120;
                time(0, 2) = 120; inClass(0, 2) = 1; fell(0, 2) = false; place(0, 0) = 2; at(0, 0) = 1;
                slot(0, 3, 1) = 0; protest(1, 2) = false; money(1) = 900; close(0) = 3; floor(0, 5) = 3;
                onFloor(0) = 5; swap(0, 2, 0) = throws IllegalArgumentException; points(0) = 3;
                border(0, 45, 150) = 1; record(1) = throws NoSuchElementException; year() = 0; until(0) = 2;
                next() = 1; next() = 2; status(0) = e; fallenShare() = 0.0; meanLack(0) = 8.0;
                checksum() = 3504227687907611265; isSound() = true;
                """);
        Script.end();
    }
}
