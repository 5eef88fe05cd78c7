import java.util.ArrayList;
import java.util.List;

/** The edges of the four KINDS, a test for each sentence: of calls, of peek and of plain alike. */
public final class KindEdgesTest {
    private static final int QUEUE = 0;
    private static final int STACK = 1;
    private static final int TABLE = 2;
    private static final int BANK = 3;

    private static final int MIN = Integer.MIN_VALUE;
    private static final int MAX = Integer.MAX_VALUE;

    public static void main(String[] args) {
        bags();
        table();
        bank();
        Check.report("KindEdgesTest");
    }

    private static void bags() {
        Check.test("a QUEUE ... empty at first", () -> emptyAtFirst(QUEUE));
        Check.test("a STACK ... empty at first", () -> emptyAtFirst(STACK));
        Check.test("a QUEUE of at most 8 ints", () -> atMostEight(QUEUE));
        Check.test("a STACK of at most 8 ints", () -> atMostEight(STACK));
        Check.test("0 puts a in, unless there are 8 (QUEUE)", () -> notPutIn(QUEUE));
        Check.test("0 puts a in, unless there are 8 (STACK)", () -> notPutIn(STACK));
        Check.test("-1 if it was not put in, often (QUEUE)", () -> notPutInOften(QUEUE));
        Check.test("-1 if it was not put in, often (STACK)", () -> notPutInOften(STACK));
        Check.test("the one that was put in first (QUEUE)", KindEdgesTest::firstComesFirst);
        Check.test("the one that was put in last (STACK)", KindEdgesTest::lastComesFirst);
        Check.test("a QUEUE that goes round", KindEdgesTest::queueGoesRound);
        Check.test("a STACK that goes up and down", KindEdgesTest::stackGoesUpAndDown);
        Check.test("that, or -1 if there is none (QUEUE)", () -> noneToTake(QUEUE));
        Check.test("that, or -1 if there is none (STACK)", () -> noneToTake(STACK));
        Check.test("ints, of any size (QUEUE)", () -> anyInt(QUEUE));
        Check.test("ints, of any size (STACK)", () -> anyInt(STACK));
        Check.test("2 how many there are (QUEUE)", () -> howMany(QUEUE));
        Check.test("2 how many there are (STACK)", () -> howMany(STACK));
        Check.test("0 puts a in, b is of no use (QUEUE)", () -> onlyAIsPutIn(QUEUE));
        Check.test("0 puts a in, b is of no use (STACK)", () -> onlyAIsPutIn(STACK));
    }

    private static void table() {
        Check.test("a TABLE of 8 ints, 0 at first", KindEdgesTest::tableAtFirst);
        Check.test("0 entry a & 7 becomes b", KindEdgesTest::entryWritten);
        Check.test("1 entry a & 7", KindEdgesTest::entryRead);
        Check.test("becomes b: what it was", KindEdgesTest::whatItWas);
        Check.test("2 the sum of all", KindEdgesTest::sumOfAll);
        Check.test("sums wrap (the sum of all)", KindEdgesTest::tableSumWraps);
    }

    private static void bank() {
        Check.test("a BANK of 4 accounts, 100 each at first", KindEdgesTest::bankAtFirst);
        Check.test("if the first has 10 or more: 1 (it has 10)", KindEdgesTest::accountWithTen);
        Check.test("else 0 (it has 9)", KindEdgesTest::accountWithNine);
        Check.test("else 0 (it has 0)", KindEdgesTest::accountWithNothing);
        Check.test("else 0 (it has less than 0)", KindEdgesTest::accountBelowNothing);
        Check.test("moves 10 until there are less", KindEdgesTest::movedUntilEmpty);
        Check.test("moves 10 from an account to itself", KindEdgesTest::movedToItself);
        Check.test("moves 10 from account a & 3", KindEdgesTest::movedFrom);
        Check.test("moves 10 to b & 3", KindEdgesTest::movedTo);
        Check.test("1 account a & 3", KindEdgesTest::accountRead);
        Check.test("2 adds b to account a & 3", KindEdgesTest::accountAddedTo);
        Check.test("adds b: what it is then", KindEdgesTest::whatItIsThen);
        Check.test("sums wrap (adds b)", KindEdgesTest::addedSumWraps);
        Check.test("sums wrap (moves 10)", KindEdgesTest::movedSumWraps);
    }

    private static void emptyAtFirst(int kind) {
        answers(kind, count(0));
        answers(kind, take(-1));
        answers(kind, put(5, 1));
    }

    private static void atMostEight(int kind) {
        List<int[]> rows = eightPut();
        rows.add(count(8));
        answers(kind, rows);
    }

    private static void notPutIn(int kind) {
        List<int[]> rows = eightPut();
        rows.add(put(108, -1));
        rows.add(count(8));
        for (int i = 0; i < 8; i++) {
            rows.add(take(kind == QUEUE ? 100 + i : 107 - i));
        }
        rows.add(take(-1));
        answers(kind, rows);
    }

    private static void notPutInOften(int kind) {
        List<int[]> rows = eightPut();
        for (int i = 0; i < 5; i++) {
            rows.add(put(50 + i, -1));
        }
        rows.add(take(kind == QUEUE ? 100 : 107));
        rows.add(put(60, 8));
        rows.add(put(61, -1));
        rows.add(count(8));
        rows.add(take(kind == QUEUE ? 101 : 60));
        answers(kind, rows);
    }

    private static void firstComesFirst() {
        answers(QUEUE, put(4, 1), put(5, 2), put(6, 3), take(4), take(5), take(6), take(-1));
    }

    private static void lastComesFirst() {
        answers(STACK, put(4, 1), put(5, 2), put(6, 3), take(6), take(5), take(4), take(-1));
    }

    private static void queueGoesRound() {
        List<int[]> rows = eightPut();
        for (int i = 0; i < 20; i++) {
            rows.add(take(100 + i));
            rows.add(put(108 + i, 8));
        }
        for (int i = 20; i < 28; i++) {
            rows.add(take(100 + i));
        }
        rows.add(take(-1));
        answers(QUEUE, rows);
    }

    private static void stackGoesUpAndDown() {
        List<int[]> rows = eightPut();
        for (int i = 0; i < 20; i++) {
            rows.add(take(i == 0 ? 107 : 200 + i - 1));
            rows.add(put(200 + i, 8));
        }
        rows.add(take(219));
        for (int i = 6; i >= 0; i--) {
            rows.add(take(100 + i));
        }
        rows.add(take(-1));
        answers(STACK, rows);
    }

    /** Taking from none leaves none, not less. */
    private static void noneToTake(int kind) {
        answers(kind, take(-1), take(-1), count(0), put(7, 1), take(7), take(-1), take(-1),
                count(0), put(8, 1), put(9, 2));
    }

    /** A -1 that was in and is taken out is not the same as none. */
    private static void anyInt(int kind) {
        answers(kind, put(-1, 1), count(1), take(-1), count(0));
        answers(kind, put(MIN, 1), take(MIN), put(MAX, 1), take(MAX), put(0, 1), take(0), count(0));
    }

    private static void howMany(int kind) {
        List<int[]> rows = new ArrayList<>();
        for (int i = 0; i < 8; i++) {
            rows.add(count(i));
            rows.add(count(i));
            rows.add(put(30 + i, i + 1));
        }
        for (int i = 8; i > 0; i--) {
            rows.add(count(i));
            rows.add(take(kind == QUEUE ? 38 - i : 29 + i));
        }
        rows.add(count(0));
        answers(kind, rows);
    }

    private static void onlyAIsPutIn(int kind) {
        answers(kind, Check.row(0, 3, 99, 1), Check.row(2, 98, 97, 1), Check.row(1, 96, 95, 3));
    }

    private static void tableAtFirst() {
        for (int entry = 0; entry < 8; entry++) {
            answers(TABLE, read(entry, 0), sum(0), write(entry, 5, 0));
        }
    }

    private static void entryWritten() {
        int[][] asked = {{0, 0}, {7, 7}, {8, 0}, {15, 7}, {16, 0}, {-1, 7}, {-8, 0}, {-9, 7},
            {MIN, 0}, {MAX, 7}, {MIN + 3, 3}, {1 << 30 | 5, 5}};
        for (int[] pair : asked) {
            List<int[]> rows = new ArrayList<>();
            rows.add(write(pair[0], 40, 0));
            for (int entry = 0; entry < 8; entry++) {
                rows.add(read(entry, entry == pair[1] ? 40 : 0));
            }
            answers(TABLE, rows);
        }
    }

    private static void entryRead() {
        List<int[]> rows = new ArrayList<>();
        for (int entry = 0; entry < 8; entry++) {
            rows.add(write(entry, 70 + entry, 0));
        }
        int[][] asked = {{7, 77}, {8, 70}, {9, 71}, {15, 77}, {16, 70}, {-1, 77}, {-7, 71},
            {-8, 70}, {MIN, 70}, {MAX, 77}};
        for (int[] pair : asked) {
            rows.add(read(pair[0], pair[1]));
        }
        answers(TABLE, rows);
    }

    private static void whatItWas() {
        answers(TABLE, write(2, 9, 0), write(2, 9, 9), write(2, 0, 9), write(2, MIN, 0),
                write(10, MAX, MIN), write(-6, -1, MAX), read(2, -1));
    }

    /** The first entry and the last one among them, and each of them once. */
    private static void sumOfAll() {
        List<int[]> rows = new ArrayList<>();
        int total = 0;
        for (int entry = 0; entry < 8; entry++) {
            rows.add(write(entry, 1 << 3 * entry, 0));
            total += 1 << 3 * entry;
            rows.add(sum(total));
        }
        rows.add(Check.row(2, 3, 1000, total));
        rows.add(read(3, 1 << 9));
        answers(TABLE, rows);
    }

    private static void tableSumWraps() {
        answers(TABLE, write(0, MAX, 0), sum(MAX), write(7, 1, 0), sum(MIN), write(7, -1, 1),
                sum(MAX - 1));
        answers(TABLE, write(1, MIN, 0), write(2, -1, 0), sum(MAX), write(2, MIN, -1), sum(0));
        List<int[]> rows = new ArrayList<>();
        for (int entry = 0; entry < 8; entry++) {
            rows.add(write(entry, MAX, 0));
        }
        rows.add(sum(-8));
        answers(TABLE, rows);
    }

    private static void bankAtFirst() {
        for (int account = 0; account < 4; account++) {
            answers(BANK, look(account, 100), add(account, 0, 100), add(account, 1, 101));
        }
    }

    private static void accountWithTen() {
        answers(BANK, add(1, -90, 10), move(1, 2, 1), look(1, 0), look(2, 110));
        answers(BANK, add(1, -89, 11), move(1, 2, 1), look(1, 1), look(2, 110));
    }

    private static void accountWithNine() {
        answers(BANK, add(1, -91, 9), move(1, 2, 0), look(1, 9), look(2, 100));
    }

    private static void accountWithNothing() {
        answers(BANK, add(3, -100, 0), move(3, 0, 0), look(3, 0), look(0, 100));
    }

    private static void accountBelowNothing() {
        answers(BANK, add(0, -101, -1), move(0, 3, 0), look(0, -1), look(3, 100));
        answers(BANK, add(0, MIN, MIN + 100), add(0, -100, MIN), move(0, 3, 0), look(0, MIN),
                look(3, 100));
    }

    private static void movedUntilEmpty() {
        List<int[]> rows = new ArrayList<>();
        for (int i = 1; i <= 10; i++) {
            rows.add(move(2, 3, 1));
            rows.add(look(2, 100 - 10 * i));
        }
        rows.add(move(2, 3, 0));
        rows.add(look(2, 0));
        rows.add(look(3, 200));
        answers(BANK, rows);
    }

    private static void movedToItself() {
        answers(BANK, move(1, 1, 1), look(1, 100), add(1, -90, 10), move(1, 5, 1), look(1, 10),
                add(1, -1, 9), move(5, 1, 0), look(1, 9));
    }

    private static void movedFrom() {
        int[][] asked = {{3, 3}, {4, 0}, {7, 3}, {-1, 3}, {-4, 0}, {MIN, 0}, {MAX, 3}, {6, 2}};
        for (int[] pair : asked) {
            List<int[]> rows = new ArrayList<>();
            rows.add(move(pair[0], 1, 1));
            looks(rows, pair[1], 1);
            answers(BANK, rows);
        }
    }

    private static void movedTo() {
        int[][] asked = {{3, 3}, {4, 0}, {7, 3}, {-1, 3}, {-4, 0}, {MIN, 0}, {MAX, 3}, {6, 2}};
        for (int[] pair : asked) {
            List<int[]> rows = new ArrayList<>();
            rows.add(move(1, pair[0], 1));
            looks(rows, 1, pair[1]);
            answers(BANK, rows);
        }
    }

    private static void looks(List<int[]> rows, int from, int to) {
        for (int account = 0; account < 4; account++) {
            rows.add(look(account, account == from ? 90 : account == to ? 110 : 100));
        }
    }

    private static void accountRead() {
        int[][] asked = {{0, 101}, {3, 104}, {4, 101}, {7, 104}, {-1, 104}, {-4, 101}, {MIN, 101},
            {MAX, 104}};
        List<int[]> rows = new ArrayList<>();
        for (int account = 0; account < 4; account++) {
            rows.add(add(account, account + 1, 101 + account));
        }
        for (int[] pair : asked) {
            rows.add(look(pair[0], pair[1]));
        }
        answers(BANK, rows);
    }

    private static void accountAddedTo() {
        int[][] asked = {{0, 0}, {3, 3}, {4, 0}, {7, 3}, {-1, 3}, {-4, 0}, {MIN, 0}, {MAX, 3}};
        for (int[] pair : asked) {
            List<int[]> rows = new ArrayList<>();
            rows.add(add(pair[0], 7, 107));
            for (int account = 0; account < 4; account++) {
                rows.add(look(account, account == pair[1] ? 107 : 100));
            }
            answers(BANK, rows);
        }
    }

    /** The whole of b is added, not b & 3, and less than nothing is no bar. */
    private static void whatItIsThen() {
        answers(BANK, add(0, 4, 104), add(0, 0, 104), add(0, -204, -100), add(0, -1, -101),
                add(0, 101, 0));
    }

    private static void addedSumWraps() {
        answers(BANK, add(2, MAX - 100, MAX), add(2, 1, MIN), add(2, -1, MAX), add(2, MIN, -1));
        answers(BANK, add(2, MAX, MIN + 99), look(2, MIN + 99), move(2, 1, 0));
    }

    private static void movedSumWraps() {
        answers(BANK, add(3, MAX - 110, MAX - 10), move(0, 3, 1), look(3, MAX));
        answers(BANK, add(3, MAX - 109, MAX - 9), move(0, 3, 1), look(3, MIN), move(3, 0, 0),
                look(0, 90));
        answers(BANK, add(3, MAX - 100, MAX), move(0, 3, 1), look(3, MIN + 9), look(0, 90));
        answers(BANK, add(3, MAX - 100, MAX), move(3, 3, 1), look(3, MAX));
    }

    private static void answers(int kind, List<int[]> rows) {
        answers(kind, rows.toArray(new int[0][]));
    }

    private static void answers(int kind, int[]... rows) {
        Check.answers(new HelpedLog(kind, 2), rows);
    }

    private static List<int[]> eightPut() {
        List<int[]> rows = new ArrayList<>();
        for (int i = 0; i < 8; i++) {
            rows.add(put(100 + i, i + 1));
        }
        return rows;
    }

    private static int[] put(int a, int due) {
        return Check.row(0, a, 0, due);
    }

    private static int[] take(int due) {
        return Check.row(1, 0, 0, due);
    }

    private static int[] count(int due) {
        return Check.row(2, 0, 0, due);
    }

    private static int[] write(int a, int b, int due) {
        return Check.row(0, a, b, due);
    }

    private static int[] read(int a, int due) {
        return Check.row(1, a, 0, due);
    }

    private static int[] sum(int due) {
        return Check.row(2, 0, 0, due);
    }

    private static int[] move(int a, int b, int due) {
        return Check.row(0, a, b, due);
    }

    private static int[] look(int a, int due) {
        return Check.row(1, a, 0, due);
    }

    private static int[] add(int a, int b, int due) {
        return Check.row(2, a, b, due);
    }
}
