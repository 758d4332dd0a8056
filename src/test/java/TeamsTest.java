/** Promises 32 to 39: teams and sums. */
public final class TeamsTest {
    /**
     * Eight classes by strength: the one with the number k is for sums of 10 * (k + 1), up to 9 more.
     * Athletes 0 to 5 of land 0 are in the classes 0, 1, 2, 3, 4 and 7, athlete 6 of land 1 is in class 0.
     */
    private static final String TESTED = """
            kind(0, 10, 10, 19) = 0; kind(0, 10, 20, 29) = 1; kind(0, 10, 30, 39) = 2; kind(0, 10, 40, 49) = 3;
            kind(0, 10, 50, 59) = 4; kind(0, 10, 60, 69) = 5; kind(0, 10, 70, 79) = 6; kind(0, 10, 80, 89) = 7;
            classifier(4) = 0; classifier(5) = 1;
            athlete(0) = 0; athlete(0) = 1; athlete(0) = 2; athlete(0) = 3; athlete(0) = 4; athlete(0) = 5;
            athlete(1) = 6; athlete(0) = 7;
            body(0, 0, 90) = 100; body(1, 0, 80) = 100; body(2, 0, 70) = 100; body(3, 0, 60) = 100;
            body(4, 0, 50) = 100; body(5, 0, 20) = 100; body(6, 0, 90) = 100;
            test(0, 0, 1) = n; test(1, 0, 1) = n; test(2, 0, 1) = n; test(3, 0, 1) = n; test(4, 0, 1) = n;
            test(5, 0, 1) = n; test(6, 0, 1) = n; classOf(4) = 4; classOf(5) = 7;
            """;

    public static void main(String[] args) {
        floors();
        substitutions();
        leaving();
        checksums();
        shares();
        lacks();
        Script.end();
    }

    private static void floors() {
        Script.run("32, 34, 35: floor, onFloor, points", TESTED + """
                floor(-1, 0) = throws IndexOutOfBoundsException; floor(6, 0) = throws IndexOutOfBoundsException;
                floor(6, -1) = throws IndexOutOfBoundsException;
                onFloor(-1) = throws IndexOutOfBoundsException; onFloor(6) = throws IndexOutOfBoundsException;
                points(-1) = throws IndexOutOfBoundsException; points(6) = throws IndexOutOfBoundsException;
                floor(0, 0) = 0; floor(0, 1) = 1; onFloor(0) = 1; points(0) = 1; floor(0, 15) = 10; onFloor(0) = 15;
                points(0) = 10; onFloor(1) = 0; points(1) = 0;
                # in place of those there
                floor(0, 22) = 10; onFloor(0) = 22; floor(0, 26) = 11; floor(0, 28) = 12; onFloor(0) = 28;
                points(0) = 12; floor(0, 40) = 12; floor(1, 64) = 1; onFloor(0) = 40; onFloor(1) = 64;
                # above 12, at 13
                floor(0, 48) = throws UnsupportedOperationException; floor(0, 41) = throws
                UnsupportedOperationException; floor(0, 29) = throws UnsupportedOperationException;
                # more than 4, of another land, others, without a class
                floor(0, 31) = throws IllegalArgumentException; floor(0, 64) = throws IllegalArgumentException;
                floor(0, 65) = throws IllegalArgumentException; floor(1, 1) = throws IllegalArgumentException;
                floor(0, 256) = throws IllegalArgumentException; floor(0, 65536) = throws IllegalArgumentException;
                floor(0, -1) = throws IllegalArgumentException; floor(0, -2147483648) = throws
                IllegalArgumentException; floor(0, 128) = throws UnsupportedOperationException;
                floor(0, 143) = throws IllegalArgumentException; floor(0, 192) = throws IllegalArgumentException;
                floor(5, 0) = 0; floor(0, 0) = 0; onFloor(0) = 0; onFloor(1) = 64;
                """);
    }

    private static void substitutions() {
        Script.run("33: swap", TESTED + """
                floor(0, 7) = 6; floor(1, 64) = 1;
                swap(-1, 0, 3) = throws IndexOutOfBoundsException; swap(6, 0, 3) = throws IndexOutOfBoundsException;
                swap(0, 8, 3) = throws IndexOutOfBoundsException; swap(0, -1, 3) = throws IndexOutOfBoundsException;
                swap(0, 0, 8) = throws IndexOutOfBoundsException; swap(0, 3, -1) = throws IndexOutOfBoundsException;
                # who leaves is not there, or on another floor
                swap(0, 3, 4) = throws IllegalArgumentException; swap(0, 6, 3) = throws IllegalArgumentException;
                swap(1, 0, 3) = throws IllegalArgumentException;
                # who comes is there, or is of another land
                swap(0, 0, 1) = throws IllegalArgumentException; swap(0, 0, 0) = throws IllegalArgumentException;
                swap(0, 0, 6) = throws IllegalArgumentException; swap(1, 6, 0) = throws IllegalArgumentException;
                swap(0, 0, 7) = throws UnsupportedOperationException; swap(0, 3, 7) = throws IllegalArgumentException;
                # 13 and 12
                swap(0, 0, 5) = throws UnsupportedOperationException; swap(0, 0, 4) = 10; onFloor(0) = 22;
                points(0) = 10; swap(0, 1, 3) = 12; onFloor(0) = 28; swap(0, 2, 5) = throws
                UnsupportedOperationException; swap(0, 4, 0) = 8; onFloor(0) = 13; onFloor(1) = 64;
                """);
        Script.run("33, 35: points above 12 as classes changed", TESTED + """
                floor(0, 28) = 12; body(2, 0, 20) = 70; test(2, 0, 1) = n; points(0) = 17; onFloor(0) = 28;
                swap(0, 3, 0) = throws UnsupportedOperationException; floor(0, 28) = throws
                UnsupportedOperationException; swap(0, 2, 1) = 11; points(0) = 11;
                """);
    }

    private static void leaving() {
        Script.run("34: who has no class, or is banned, leaves at once", TESTED + """
                floor(0, 15) = 10; floor(1, 64) = 1; body(0, 0, 100) = 90; test(0, 0, 1) = e; onFloor(0) = 14;
                points(0) = 9; body(1, 0, 100) = 80; protest(5, 1) = true; status(1) = e; onFloor(0) = 12;
                body(2, 0, 100) = 70; protest(5, 2) = true; status(2) = x; onFloor(0) = 8; points(0) = 4;
                border(3, 45, 49) = 1; onFloor(0) = 8; next() = 1; onFloor(0) = 8; next() = 2; status(3) = e;
                onFloor(0) = 0; points(0) = 0; onFloor(1) = 64;
                # none comes back by itself
                body(0, 0, 90) = 100; test(0, 0, 1) = n; onFloor(0) = 0; floor(0, 1) = 1;
                """);
    }

    private static void checksums() {
        Script.run("36: checksum of athletes and land", """
                checksum() = 35795981767; athlete(2) = 0; isSound() = true;
                # 7 * 31 - 1 = 216, then 216 * 31 + 45 = 6741, then the lands
                checksum() = 6012245769621;
                """);
        Script.run("36, 37: checksum with entries, fallenShare", TESTED + """
                fallenShare() = throws NoSuchElementException; event(255) = 0; event(1) = 1;
                fallenShare() = throws NoSuchElementException; checksum() = SUM0;
                enter(0, 6) = 1; enter(0, 1) = 2; enter(0, 0) = 3; enter(1, 0) = 1; checksum() = SUM1;
                fallenShare() = 0.0; begin(0) = 3; result(0, 1, 77, 1) = 77; result(0, 6, 78, 1) = 78;
                checksum() = SUM2; body(1, 0, 100) = 80; test(1, 0, 1) = e; checksum() = SUM3;
                fallenShare() = 0.25; protest(3, 0) = false; checksum() = SUM4; close(0) = 1;
                body(6, 0, 100) = 90; test(6, 0, 1) = e; fallenShare() = 0.25; checksum() = SUM5;
                body(0, 0, 100) = 90; test(0, 0, 1) = e; fallenShare() = 0.5;
                """
                .replace("SUM0", sum("0n 1n 2n 3n 4n 7n 0n -", "", 1000))
                .replace("SUM1", sum("0n 1n 2n 3n 4n 7n 0n -", "0 0 0 0", 1000))
                .replace("SUM2", sum("0n 1n 2n 3n 4n 7n 0n -", "0 77 78 0", 1000))
                .replace("SUM3", sum("0n e 2n 3n 4n 7n 0n -", "0 0 78 0", 1000))
                .replace("SUM4", sum("0c e 2n 3n 4n 7n 0n -", "0 0 78 0", 900))
                .replace("SUM5", sum("0c e 2n 3n 4n 7n e -", "0 0 78 0", 900)));
    }

    /** The checksum of athletes written as their class and status, of factored times, and of land 3 with some money. */
    private static String sum(String athletes, String times, int moneyOfLand3) {
        long sum = 7;
        for (String athlete : athletes.split(" ")) {
            sum = 31 * sum + (athlete.length() == 2 ? athlete.charAt(0) - '0' : -1);
            sum = 31 * sum + athlete.charAt(athlete.length() - 1);
        }
        for (String time : times.split(" ")) {
            sum = time.isEmpty() ? sum : 31 * sum + Integer.parseInt(time);
        }
        for (int land = 0; land < 6; land++) {
            sum = 31 * sum + (land == 3 ? moneyOfLand3 : 1000);
        }
        return String.valueOf(sum);
    }

    private static void shares() {
        Script.run("37: fallenShare over all events", TESTED + """
                event(1) = 0; event(3) = 1; event(4) = 2; enter(0, 0) = 1; enter(1, 0) = 1; enter(2, 2) = 1;
                body(0, 0, 80) = 90; test(0, 0, 1) = n; fallenShare() = 0.6666667; enter(1, 1) = 2;
                fallenShare() = 0.5; body(2, 0, 100) = 70; test(2, 0, 1) = e; fallenShare() = 0.75;
                """);
    }

    private static void lacks() {
        Script.run("38: meanLack", """
                meanLack(0) = throws IndexOutOfBoundsException; athlete(0) = 0; meanLack(0) = 0.0;
                meanLack(-1) = throws IndexOutOfBoundsException; meanLack(1) = throws IndexOutOfBoundsException;
                body(0, 4, 99) = 100; meanLack(0) = 0.2; body(0, 0, 50) = 100; show(0, 1, 0) = 100; meanLack(0) = 10.2;
                body(0, 0, 0) = 50; body(0, 1, 0) = 100; body(0, 2, 0) = 100; body(0, 3, 0) = 100; body(0, 4, 0) = 99;
                meanLack(0) = 100.0;
                """);
    }
}
