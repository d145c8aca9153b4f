import java.math.BigInteger;

/** What the document says of merging, R, violations and completeness at their bounds. */
public final class MergeSentenceTests extends Sentences {
    public static void main(String[] args) {
        new MergeSentenceTests().all();
    }

    private void all() {
        sentence("Terms 5: all reflections of a kind make one", this::oneOfAKind);
        sentence("Terms 5: they go by their greatest indices, the lesser first", this::lesserFirst);
        sentence("Terms 5: n are its reflections, S the sum of their intensities", this::sums);
        sentence("Terms 5: its MEAN S / n", this::means);
        sentence("Terms 5: its SPREAD the sum of the sizes of n times the intensity less S", this::spreads);
        sentence("Terms 5: R is over rows that are not absent", this::quotientWithoutAbsent);
        sentence("Terms 5: R is over rows that have two reflections or more", this::quotientOfTwoOrMore);
        sentence("Terms 5: there is none, when there are no such rows", this::noSuchRows);
        sentence("Terms 5: or that sum is not above 0", this::sumNotAbove0);
        sentence("Terms 5: A VIOLATION above m is a reflection that is absent", this::violationIsAbsent);
        sentence("Terms 5: and has an intensity above m times its sigma", this::violationIsAbove);
        sentence("Terms 5: COMPLETE: KINDS that are not absent", this::kindsNotAbsent);
        sentence("Terms 5: COMPLETE: but 0 0 0", this::kindsButZeros);
        sentence("Terms 5: COMPLETE: whose greatest index has no number beyond -H .. H", this::kindsNotBeyond);
        sentence("Terms 5: COMPLETE: how many of them have a row", this::kindsWithARow);
        sentence("Promise 1: no rows", this::newObject);
        sentence("Promise 16: The reflections are merged by the group: how many rows", this::howManyRows);
        sentence("Promise 16: The reflections are merged, and nothing of a merge before", this::mergeAgain);
        sentence("Promise 16: IllegalStateException without a group", this::mergeWithoutGroup);
        sentence("Promise 17: they stay till the next merge(), symbol() that is 0, drop()", this::rowsStay);
        sentence("Promise 18: 4 its multiplicity, 5 whether it is absent (1, 0)", this::multiplicityAndAbsence);
        sentence("Promise 18: its MEAN in lowest terms (numerator, denominator above 0)", this::lowestTerms);
        sentence("Promise 18: IndexOutOfBoundsException: no such row", this::noSuchRow);
        sentence("Promise 18: IndexOutOfBoundsException: no such what", this::noSuchWhat);
        sentence("Promise 19: R in lowest terms", this::quotientInLowestTerms);
        sentence("Promise 19: how many 32-bit digits it has without zeros before them", this::countOfDigits);
        sentence("Promise 19: (0 for 0)", this::quotientOf0);
        sentence("Promise 19: NONE: there is no R", this::noQuotient);
        sentence("Promise 19: IndexOutOfBoundsException: another what", this::digitsOfAnother);
        sentence("Promise 20: Its digit k (0 the lowest), as an int", this::digitAsInt);
        sentence("Promise 20: 0 beyond, below", this::digitBeyondAndBelow);
        sentence("Promise 20: 0 when there is no R", this::digitWithoutQuotient);
        sentence("Promise 20: IndexOutOfBoundsException: another what", this::digitOfAnother);
        sentence("Promise 21: among the reflections as they are", this::reflectionsAsTheyAre);
        sentence("Promise 21: IllegalStateException without a group", this::violationsWithoutGroup);
        sentence("Promise 21: (0 .. 100) IllegalArgumentException: m", this::violationsBounds);
        sentence("Promise 22: the i-th reflection (0 the first) of the latest violations()", this::latestViolations);
        sentence("Promise 22: as it was then, whatever came since", this::whateverCameSince);
        sentence("Promise 22: NONE when there is none such", this::noneSuch);
        sentence("Promise 23: what = 0 how many kinds have a row, 1 how many there are", this::completeOfBoth);
        sentence("Promise 23: IllegalStateException without a group", this::completeWithoutGroup);
        sentence("Promise 23: (1 .. 12) IllegalArgumentException: H", this::completeBounds);
        sentence("Promise 23: IndexOutOfBoundsException: another what", this::completeOfAnother);
        c.finish();
    }

    private void dueQuotient(long top, long bottom) {
        dueDigits(0, BigInteger.valueOf(top));
        dueDigits(1, BigInteger.valueOf(bottom));
    }

    private void dueDigits(int what, BigInteger wanted) {
        c.due("digits " + what, x.digits(what), (wanted.bitLength() + 31) / 32);
        for (int k = 0; k < 11; k++) {
            c.due("digit " + what + " " + k, x.digit(what, k), wanted.shiftRight(32 * k).intValue());
        }
    }

    private void oneOfAKind() {
        merged("P 2y", line(1, 2, 3, 1) + line(-1, 2, -3, 10) + line(1, -2, 3, 100) + line(-1, -2, -3, 1000) + line(1, 2, -3, 5));
        c.due("rows", x.rows(), 2);
        numbersOfRow(0, 1, 2, -3, 1);
        numbersOfRow(1, 1, 2, 3, 4, 4, 0, 1111);
        merged("P 1", lines(3, 1, 2, 3, 1));
        c.due("rows of one kind", x.rows(), 1);
        merged("P 1", line(1, 2, 3, 1) + line(-1, 2, 3, 1));
        c.due("rows of two kinds", x.rows(), 2);
    }

    private void lesserFirst() {
        merged("P 1", line(2, -7, 1, 1) + line(0, 0, -3, 1) + line(2, -8, 1, 1) + line(127, -127, -127, 1)
            + line(0, 1, -5, 1) + line(2, -8, -1, 1) + line(-1, 127, 127, 1) + line(0, -1, -5, 1));
        int[][] wanted = {{0, 0, 3}, {0, 1, -5}, {0, 1, 5}, {1, -127, -127}, {2, -8, -1}, {2, -8, 1}, {2, -7, 1}, {127, -127, -127}};
        c.due("rows", x.rows(), wanted.length);
        for (int i = 0; i < wanted.length; i++) {
            numbersOfRow(i, wanted[i][0], wanted[i][1], wanted[i][2]);
        }
        // greatest indices beyond 127
        merged("P 3", line(127, 127, 0, 1) + line(127, 126, 0, 1) + line(127, 0, 0, 1));
        numbersOfRow(0, 127, 0, 0);
        numbersOfRow(1, 253, -127, 0);
        numbersOfRow(2, 254, -127, 0);
    }

    private void sums() {
        merged("P 1", line(1, 0, 0, -999999));
        numbersOfRow(0, 1, 0, 0, 1, 2, 0, -999999, -999999, 1, 0);
        merged("P 1", line(1, 0, 0, -5) + line(1, 0, 0, 5));
        numbersOfRow(0, 1, 0, 0, 2, 2, 0, 0, 0, 1, 20);
        // more than an int has
        merged("P 1", lines(275, 1, 0, 0, 9999999));
        numbersOfRow(0, 1, 0, 0, 275, 2, 0, 2749999725L, 9999999, 1, 0);
    }

    private void means() {
        merged("P 1", lines(2, 1, 0, 0, 3) + line(1, 0, 0, 1));
        numbersOfRow(0, 1, 0, 0, 3, 2, 0, 7, 7, 3);
        merged("P 1", lines(3, 1, 0, 0, -3) + line(1, 0, 0, -1));
        numbersOfRow(0, 1, 0, 0, 4, 2, 0, -10, -5, 2);
        // as many as one run can feed, and one below 0
        merged("P 1", lines(274, 1, 0, 0, 9999999) + line(1, 0, 0, -999999));
        numbersOfRow(0, 1, 0, 0, 275, 2, 0, 2738999727L, 2738999727L, 275);
    }

    private void spreads() {
        merged("P 1", line(1, 0, 0, 500));
        c.due("of one", x.row(0, 9), 0);
        merged("P 1", lines(7, 1, 0, 0, 500));
        c.due("of the same", x.row(0, 9), 0);
        // 300 - 700, 600 - 700, 1200 - 700
        merged("P 1", line(1, 0, 0, 100) + line(1, 0, 0, 200) + line(1, 0, 0, 400));
        c.due("of three", x.row(0, 9), 1000);
        merged("P 1", line(1, 0, 0, -100) + line(1, 0, 0, -200));
        c.due("of two below 0", x.row(0, 9), 200);
        merged("P 1", lines(274, 1, 0, 0, 9999999) + line(1, 0, 0, -999999));
        c.due("more than an int has", x.row(0, 9), 6027998904L);
        // an absent row has one too
        merged("P 1a", line(1, 0, 0, 100) + line(1, 0, 0, 300));
        numbersOfRow(0, 1, 0, 0, 2, 2, 1, 400, 200, 1, 400);
    }

    private void quotientWithoutAbsent() {
        // 0 1 0 is absent: R is 100 / 300
        merged("P 2yb", line(0, 1, 0, 100) + line(0, 1, 0, 9000) + line(0, 2, 0, 100) + line(0, 2, 0, 200));
        c.due("rows", x.rows(), 2);
        dueQuotient(1, 3);
    }

    private void quotientOfTwoOrMore() {
        merged("P 1", line(1, 0, 0, 9000) + line(2, 0, 0, 100) + line(2, 0, 0, 200) + line(3, 0, 0, -9000));
        dueQuotient(1, 3);
        merged("P 1", line(1, 0, 0, 9000) + lines(2, 2, 0, 0, 100));
        dueQuotient(0, 1);
    }

    private void noneOf(String file) {
        merged("P 2yb", file);
        c.due("digits 0", x.digits(0), ReflectionReducer.NONE);
        c.due("digits 1", x.digits(1), ReflectionReducer.NONE);
        c.due("digit", x.digit(1, 0), 0);
    }

    private void noSuchRows() {
        noneOf(line(0, 0, 0, 100));
        noneOf(line(1, 0, 0, 100));
        noneOf(line(1, 0, 0, 100) + line(2, 0, 0, 100) + line(3, 0, 0, 100));
        noneOf(lines(5, 0, 1, 0, 100));
        noneOf(lines(5, 0, 1, 0, 100) + line(1, 0, 0, 100));
    }

    private void sumNotAbove0() {
        noneOf(line(1, 0, 0, 100) + line(1, 0, 0, -100));
        noneOf(line(1, 0, 0, 100) + line(1, 0, 0, -101));
        noneOf(lines(2, 1, 0, 0, 0));
        noneOf(lines(2, 1, 0, 0, -999999));
        // rows that do not count are above 0, and do not help
        noneOf(lines(2, 1, 0, 0, -1) + line(2, 0, 0, 900) + lines(2, 0, 1, 0, 900));
        merged("P 1", line(1, 0, 0, 100) + line(1, 0, 0, -99));
        dueQuotient(199, 1);
        // one row below 0, but all together above it
        merged("P 1", lines(2, 1, 0, 0, -1) + lines(2, 2, 0, 0, 1) + line(2, 0, 0, 1));
        dueQuotient(0, 1);
    }

    private void violationIsAbsent() {
        right("P 2yb");
        file(line(0, 1, 0, 900) + line(0, 2, 0, 900) + line(1, 1, 0, 900) + line(0, -127, 0, 900));
        c.due("violations", x.violations(0), 2);
        c.due("violation 0", x.violation(0), 0);
        c.due("violation 1", x.violation(1), 3);
        right("P 1");
        file(line(0, 1, 0, 900));
        c.due("violations of none absent", x.violations(0), 0);
    }

    private void violationIsAbove() {
        right("P 1a");
        file(Checks.line(1, 0, 0, 299, 100) + Checks.line(1, 0, 0, 300, 100) + Checks.line(1, 0, 0, 301, 100));
        c.due("above 3 sigma", x.violations(3), 1);
        c.due("the last one", x.violation(0), 2);
        c.due("above 2 sigma", x.violations(2), 3);
        c.due("above 4 sigma", x.violations(4), 0);
        right("P 1a");
        file(Checks.line(1, 0, 0, -1, 0) + Checks.line(1, 0, 0, 0, 0) + Checks.line(1, 0, 0, 1, 0) + Checks.line(1, 0, 0, -5, 9999999));
        c.due("above 0 times 0", x.violations(0), 1);
        c.due("above 100 times 0", x.violations(100), 1);
        c.due("the third one", x.violation(0), 2);
        right("P 1a");
        file(Checks.line(1, 0, 0, 9999999, 99999) + Checks.line(1, 0, 0, 9999999, 100000) + Checks.line(1, 0, 0, 9999999, 9999999));
        c.due("above 100 sigma", x.violations(100), 1);
        c.due("above 1 sigma", x.violations(1), 2);
        c.due("above 0", x.violations(0), 3);
    }

    private void kindsNotAbsent() {
        right("P 1");
        c.due("P, 1", x.complete(1, 1), 13);
        right("A 1");
        c.due("A, 1: half of 3 times 5, less 1", x.complete(1, 1), 7);
        right("I 1");
        c.due("I, 1", x.complete(1, 1), 6);
        right("P 1n 1a 1b");
        c.due("all even, 1", x.complete(1, 1), 0);
        c.due("all even, 2", x.complete(2, 1), 13);
        merged("P 2yb", line(0, 1, 0, 1) + line(0, 2, 0, 1));
        c.due("an absent row", x.complete(2, 0), 1);
        c.due("an absent row, 1", x.complete(1, 0), 0);
    }

    private void kindsButZeros() {
        right("P 1");
        c.due("of 27 indices", x.complete(1, 1), 13);
        right("P 4 2 3");
        c.due("1 0 0, 1 1 0, 1 1 1", x.complete(1, 1), 3);
        merged("P 4 2 3", line(0, 0, 0, 1));
        c.due("0 0 0 has no row", x.complete(1, 0), 0);
    }

    private void kindsNotBeyond() {
        // 1 1 0 of P 3 is 2 -1 0, beyond 1: 0 0 1, 1 0 0, 1 0 1, 1 0 -1 are left
        right("P 3");
        c.due("P 3, 1", x.complete(1, 1), 4);
        merged("P 3", line(1, 1, 0, 1));
        c.due("a row beyond", x.complete(1, 0), 0);
        c.due("a row at the bound", x.complete(2, 0), 1);
        merged("P 1", line(1, -5, 0, 1) + line(1, 0, -5, 1) + line(5, 0, 0, 1) + line(0, 5, 0, 1) + line(1, 1, 5, 1));
        c.due("beyond 4", x.complete(4, 0), 0);
        c.due("at 5", x.complete(5, 0), 5);
        merged("P 1", line(12, -12, 12, 1) + line(12, -13, 12, 1) + line(13, 0, 0, 1) + line(0, 0, 13, 1) + line(0, 13, 0, 1));
        c.due("beyond 12", x.complete(12, 0), 1);
    }

    private void kindsWithARow() {
        merged("P 2y", line(1, 2, 3, 1) + line(-1, 2, -3, 1) + line(1, -2, 3, 1) + line(0, 0, 1, 1));
        c.due("two kinds of four reflections", x.complete(3, 0), 2);
        c.due("one within 1", x.complete(1, 0), 1);
        file(line(1, 1, 1, 1));
        c.due("not merged yet", x.complete(3, 0), 2);
        x.merge();
        c.due("merged", x.complete(3, 0), 3);
        x.drop();
        c.due("none", x.complete(3, 0), 0);
    }

    private void newObject() {
        c.due("rows", x.rows(), 0);
        c.dueThrow("row", INDEX, () -> x.row(0, 0));
        c.due("digits", x.digits(0), -1);
        c.due("violation", x.violation(0), -1);
    }

    private void howManyRows() {
        right("P 1");
        c.due("merge of none", x.merge(), 0);
        file(line(0, 0, 0, 1));
        c.due("merge of 0 0 0 alone", x.merge(), 0);
        file(line(1, 0, 0, 1));
        c.due("merge of one", x.merge(), 1);
        file(line(1, 0, 0, 1) + line(2, 0, 0, 1));
        c.due("merge of three", x.merge(), 2);
        c.due("merge again", x.merge(), 2);
        numbersOfRow(0, 1, 0, 0, 2, 2, 0, 2);
        StringBuilder all = new StringBuilder();
        for (int i = 0; i < 275; i++) {
            all.append(line(i % 120 + 1, i / 120, 1, i));
        }
        right("P 1");
        file(all.toString());
        c.due("merge of 275 kinds", x.merge(), 275);
        c.due("the last one", x.row(274, 0), 120);
    }

    private void mergeWithoutGroup() {
        c.dueThrow("merge", STATE, () -> x.merge());
        file(line(1, 2, 3, 1));
        c.dueThrow("merge", STATE, () -> x.merge());
        c.due("TOO_LARGE", Checks.readSymbol(x, "P 4 6x"), -9001);
        c.dueThrow("merge", STATE, () -> x.merge());
        c.due("rows", x.rows(), 0);
    }

    private void rowsStay() {
        merged("P 1", line(1, 2, 3, 1) + line(4, 5, 6, 1));
        file(line(7, 8, 9, 1));
        c.due("a file", x.rows(), 2);
        file("x");
        c.due("a fault of a file", x.rows(), 2);
        Checks.readSymbol(x, "P 2q");
        c.due("a fault of a symbol", x.rows(), 2);
        Checks.readSymbol(x, "P 4 6x");
        c.due("TOO_LARGE", x.rows(), 2);
        x.violations(1);
        x.complete(2, 1);
        c.due("violations and complete", x.rows(), 2);
        x.merge();
        c.due("the next merge", x.rows(), 3);
        Checks.readSymbol(x, "P 1");
        c.due("symbol that is 0", x.rows(), 0);
        x.merge();
        c.due("merge", x.rows(), 3);
        x.drop();
        c.due("drop", x.rows(), 0);
    }

    private void multiplicityAndAbsence() {
        merged("P 2yb", line(0, 1, 0, 1) + line(0, 2, 0, 1) + line(1, 1, 1, 1));
        numbersOfRow(0, 0, 1, 0, 1, 2, 1);
        numbersOfRow(1, 0, 2, 0, 1, 2, 0);
        numbersOfRow(2, 1, 1, 1, 1, 4, 0);
        merged("-F 4vw 2vw 3", line(1, 2, 3, 1) + line(2, 0, 0, 1) + line(4, 0, 0, 1));
        numbersOfRow(0, 2, 0, 0, 1, 6, 1);
        numbersOfRow(1, 3, 2, 1, 1, 48, 1);
        numbersOfRow(2, 4, 0, 0, 1, 6, 0);
    }

    private void meanOf(long top, long bottom, int... intensities) {
        StringBuilder text = new StringBuilder();
        for (int each : intensities) {
            text.append(line(1, 0, 0, each));
        }
        merged("P 1", text.toString());
        c.due("numerator", x.row(0, 7), top);
        c.due("denominator", x.row(0, 8), bottom);
    }

    private void lowestTerms() {
        meanOf(0, 1, 0);
        meanOf(0, 1, 0, 0, 0);
        meanOf(0, 1, 5, -5);
        meanOf(-7, 1, -7);
        meanOf(-1, 2, -1, 0);
        meanOf(-1, 1, -1, -1);
        meanOf(3, 2, 1, 2, 3, 0);
        meanOf(-3, 2, -1, -2, -3, 0);
        meanOf(2, 1, 1, 2, 3);
        meanOf(1, 6, 1, 0, 0, 0, 0, 0);
        meanOf(9999999, 1, 9999999, 9999999);
    }

    private void rowRefused(int i, int what) {
        c.dueThrow("row " + i + " " + what, INDEX, () -> x.row(i, what));
    }

    private void noSuchRow() {
        rowRefused(0, 0);
        merged("P 1", line(1, 2, 3, 1) + line(4, 5, 6, 1));
        c.due("the last one", x.row(1, 0), 4);
        for (int i : new int[] {-1, 2, 3, 2999, 3000, LEAST, MOST}) {
            rowRefused(i, 0);
            rowRefused(i, 9);
        }
        x.drop();
        rowRefused(0, 0);
    }

    private void noSuchWhat() {
        merged("P 1", line(1, 2, 3, 1));
        c.due("the last", x.row(0, 9), 0);
        for (int what : new int[] {-1, 10, 11, LEAST, MOST}) {
            rowRefused(0, what);
        }
    }

    private void quotientInLowestTerms() {
        // 1000 / 3, by 700
        merged("P 1", line(1, 0, 0, 100) + line(1, 0, 0, 200) + line(1, 0, 0, 400));
        dueQuotient(10, 21);
        // 2 / 2 and 2 / 2, by 6
        merged("P 1", line(1, 0, 0, 1) + line(1, 0, 0, 2) + line(2, 0, 0, 1) + line(2, 0, 0, 2));
        dueQuotient(1, 3);
        // 4 / 3 and 6 / 4 and 2 / 2, which are 23 / 6, by 1 + 1 + 1
        merged("P 1", line(1, 0, 0, 1) + lines(2, 1, 0, 0, 0) + line(2, 0, 0, 1) + lines(3, 2, 0, 0, 0) + line(3, 0, 0, 1) + line(3, 0, 0, 0));
        dueQuotient(23, 18);
        // 4 / 3 twice and 4 / 3 once more are 4, by 3; and what is above 1
        merged("P 1", line(1, 0, 0, 1) + lines(2, 1, 0, 0, 0) + line(2, 0, 0, 1) + lines(2, 2, 0, 0, 0) + line(3, 0, 0, 1) + lines(2, 3, 0, 0, 0));
        dueQuotient(4, 3);
        merged("P 1", line(1, 0, 0, 3) + line(1, 0, 0, -1));
        dueQuotient(2, 1);
        // 4 / 3 three times, by 4: the terms' denominator goes when they are added
        merged("P 1", line(1, 0, 0, 1) + lines(2, 1, 0, 0, 0) + line(2, 0, 0, 1) + lines(2, 2, 0, 0, 0) + lines(2, 3, 0, 0, 1) + line(3, 0, 0, 0));
        dueQuotient(1, 1);
        // 6 / 4 twice, by 2 and 3
        merged("P 1", line(1, 0, 0, 1) + lines(3, 1, 0, 0, 0) + line(2, 0, 0, 1) + lines(3, 2, 0, 0, 0) + lines(3, 3, 0, 0, 1));
        dueQuotient(3, 5);
        // 14 / 8 four times, by 4 and 3: it goes by 2 twice
        StringBuilder eights = new StringBuilder();
        for (int h = 1; h <= 4; h++) {
            eights.append(line(h, 0, 0, 1)).append(lines(7, h, 0, 0, 0));
        }
        merged("P 1", eights + lines(3, 5, 0, 0, 1));
        dueQuotient(1, 1);
    }

    private void mergeAgain() {
        merged("P 1", line(1, 0, 0, 100) + line(1, 0, 0, 200) + line(1, 0, 0, 400));
        for (int i = 0; i < 3; i++) {
            numbersOfRow(0, 1, 0, 0, 3, 2, 0, 700, 700, 3, 1000);
            dueQuotient(10, 21);
            c.due("merge again", x.merge(), 1);
        }
        // a narrow one behind a wide one
        mergeToThreeDigits();
        x.drop();
        file(lines(2, 1, 0, 0, 3) + line(2, 0, 0, 1) + line(2, 0, 0, 2));
        c.due("merge", x.merge(), 2);
        numbersOfRow(0, 1, 0, 0, 2, 2, 0, 6, 3, 1, 0);
        numbersOfRow(1, 2, 0, 0, 2, 2, 0, 3, 3, 2, 2);
        c.due("digits", x.digits(0), 1);
        c.due("numerator", x.digit(0, 0), 1);
        c.due("denominator", x.digit(1, 0), 9);
        c.due("nothing behind it", x.digit(1, 1), 0);
    }

    /** R is 3 / 2 to the 32: 6 / 4 by 2 to the 31. */
    private void mergeToTwoDigits() {
        merged("P 1", lines(3, 1, 0, 0, 4370965) + line(1, 0, 0, 4370966) + lines(213, 2, 0, 0, 9999999));
    }

    /** R is 4 / (2 to the 32, less 1): 4 / 3 by a third of that. */
    private void mergeToOneFullDigit() {
        merged("P 1", lines(2, 1, 0, 0, 551969) + line(1, 0, 0, 551970) + lines(143, 2, 0, 0, 9999999));
    }

    private void countOfDigits() {
        mergeToTwoDigits();
        c.due("of 2 to the 32", x.digits(1), 2);
        c.due("of 3", x.digits(0), 1);
        mergeToOneFullDigit();
        c.due("of one less", x.digits(1), 1);
        BigInteger[] wide = mergeToThreeDigits();
        yes("it is that wide", wide[1].bitLength() > 64);
        dueDigits(0, wide[0]);
        dueDigits(1, wide[1]);
    }

    /** Answers R as rows of prime sizes, with one intensity each that is not 0, and one row of a great sum make it. */
    private BigInteger[] mergeToThreeDigits() {
        int[] sizes = {23, 29, 31, 37, 41, 43, 47};
        StringBuilder text = new StringBuilder();
        BigInteger top = BigInteger.ZERO;
        BigInteger bottom = BigInteger.ONE;
        long total = 64L * 9999999;
        for (int size : sizes) {
            int intensity = 5000000 + size;
            text.append(line(size, 0, 0, intensity)).append(lines(size - 1, size, 0, 0, 0));
            BigInteger n = BigInteger.valueOf(size);
            // n I - I, and I for each other one
            BigInteger spread = BigInteger.valueOf(2L * (size - 1) * intensity);
            top = top.multiply(n).add(bottom.multiply(spread));
            bottom = bottom.multiply(n);
            total += intensity;
        }
        right("P 1");
        c.due("file", file(text.toString()), 251);
        c.due("file", file(lines(64, 1, 0, 0, 9999999)), 64);
        c.due("merge", x.merge(), 8);
        bottom = bottom.multiply(BigInteger.valueOf(total));
        BigInteger common = top.gcd(bottom);
        return new BigInteger[] {top.divide(common), bottom.divide(common)};
    }

    private void quotientOf0() {
        merged("P 1", lines(2, 1, 0, 0, 500));
        c.due("digits of 0", x.digits(0), 0);
        c.due("digits of 1", x.digits(1), 1);
        dueQuotient(0, 1);
        merged("P 1", lines(3, 1, 0, 0, 9999999) + lines(100, 2, 0, 0, 7));
        dueQuotient(0, 1);
    }

    private void noQuotient() {
        c.due("of a new object", x.digits(0), -1);
        c.due("of a new object", x.digits(1), -1);
        right("P 1");
        file(lines(2, 1, 0, 0, 500));
        c.due("before merge", x.digits(0), -1);
        x.merge();
        c.due("merged", x.digits(0), 0);
        Checks.readSymbol(x, "P 1");
        c.due("behind a symbol", x.digits(0), -1);
        x.merge();
        x.drop();
        c.due("behind drop", x.digits(0), -1);
        x.merge();
        c.due("merge of none", x.digits(0), -1);
    }

    private void digitsOfAnother() {
        for (int what : new int[] {-1, 2, LEAST, MOST}) {
            c.dueThrow("digits " + what, INDEX, () -> x.digits(what));
        }
        merged("P 1", lines(2, 1, 0, 0, 500));
        for (int what : new int[] {-1, 2, 3, LEAST, MOST}) {
            c.dueThrow("digits " + what, INDEX, () -> x.digits(what));
        }
    }

    private void digitAsInt() {
        mergeToOneFullDigit();
        c.due("2 to the 32, less 1", x.digit(1, 0), -1);
        c.due("numerator", x.digit(0, 0), 4);
        mergeToTwoDigits();
        c.due("the lowest", x.digit(1, 0), 0);
        c.due("the highest", x.digit(1, 1), 1);
        c.due("numerator", x.digit(0, 0), 3);
    }

    private void digitBeyondAndBelow() {
        mergeToTwoDigits();
        for (int k : new int[] {2, 3, 9, 10, 11, 1 << 27, 1 << 30, MOST, -1, -2, LEAST}) {
            c.due("digit " + k, x.digit(1, k), 0);
            c.due("digit " + k, x.digit(0, k), 0);
        }
        c.due("numerator", x.digit(0, 1), 0);
    }

    private void digitWithoutQuotient() {
        for (int k : new int[] {-1, 0, 1, LEAST, MOST}) {
            c.due("digit " + k, x.digit(0, k), 0);
            c.due("digit " + k, x.digit(1, k), 0);
        }
        // there was one before, and the sum is 0 now
        merged("P 1", line(1, 0, 0, 100) + line(1, 0, 0, 300));
        c.due("there is one", x.digit(0, 0), 1);
        file(line(1, 0, 0, -400));
        x.merge();
        c.due("digit", x.digit(0, 0), 0);
        c.due("digit", x.digit(1, 0), 0);
    }

    private void digitOfAnother() {
        for (int what : new int[] {-1, 2, LEAST, MOST}) {
            c.dueThrow("digit " + what, INDEX, () -> x.digit(what, 0));
        }
        merged("P 1", lines(2, 1, 0, 0, 500));
        for (int what : new int[] {-1, 2, 3, LEAST, MOST}) {
            c.dueThrow("digit " + what, INDEX, () -> x.digit(what, 0));
            c.dueThrow("digit " + what, INDEX, () -> x.digit(what, -1));
        }
    }

    private void reflectionsAsTheyAre() {
        merged("P 1a", line(1, 0, 0, 900));
        file(line(3, 0, 0, 900));
        c.due("not merged, and not gone", x.violations(1), 2);
        c.due("the second", x.violation(1), 1);
        Checks.readSymbol(x, "P 1b");
        c.due("by the group that there is", x.violations(1), 0);
        x.drop();
        c.due("none", x.violations(0), 0);
    }

    private void violationsRefused(Class<? extends RuntimeException> by, int m) {
        c.dueThrow("violations " + m, by, () -> x.violations(m));
    }

    private void violationsWithoutGroup() {
        violationsRefused(STATE, 0);
        file(line(1, 0, 0, 900));
        violationsRefused(STATE, 1);
        violationsRefused(STATE, 100);
    }

    private void violationsBounds() {
        right("P 1a");
        file(Checks.line(1, 0, 0, 101, 1));
        c.due("0", x.violations(0), 1);
        c.due("100", x.violations(100), 1);
        for (int m : new int[] {-1, 101, 102, -100, LEAST, MOST}) {
            violationsRefused(ARGUMENT, m);
        }
    }

    private void latestViolations() {
        right("P 1a");
        file(Checks.line(1, 0, 0, 100, 1) + Checks.line(2, 0, 0, 900, 1) + Checks.line(1, 0, 0, 10, 1) + Checks.line(3, 0, 0, 90, 1));
        c.due("above 0", x.violations(0), 3);
        int[] all = {0, 2, 3};
        for (int i = 0; i < 3; i++) {
            c.due("violation " + i, x.violation(i), all[i]);
        }
        c.due("above 50", x.violations(50), 2);
        c.due("the first", x.violation(0), 0);
        c.due("the second", x.violation(1), 3);
        c.due("no third one now", x.violation(2), -1);
        c.due("above 100", x.violations(100), 0);
        c.due("none now", x.violation(0), -1);
    }

    private void whateverCameSince() {
        right("P 1a");
        file(line(2, 0, 0, 900) + line(1, 0, 0, 900));
        c.due("violations", x.violations(0), 1);
        c.due("then", x.violation(0), 1);
        x.drop();
        c.due("drop", x.violation(0), 1);
        Checks.readSymbol(x, "P 1");
        c.due("symbol", x.violation(0), 1);
        file(line(1, 0, 0, 1));
        c.due("file", x.violation(0), 1);
        x.merge();
        c.due("merge", x.violation(0), 1);
        violationsRefused(ARGUMENT, 101);
        c.due("a refused call", x.violation(0), 1);
        c.due("violations", x.violations(0), 0);
        c.due("now", x.violation(0), -1);
    }

    private void noneSuch() {
        for (int i : new int[] {0, 1, -1, LEAST, MOST}) {
            c.due("violation " + i, x.violation(i), ReflectionReducer.NONE);
        }
        right("P 1a");
        file(lines(2, 1, 0, 0, 900));
        c.due("violations", x.violations(0), 2);
        c.due("the last one", x.violation(1), 1);
        for (int i : new int[] {2, 3, 2999, 3000, -1, LEAST, MOST}) {
            c.due("violation " + i, x.violation(i), ReflectionReducer.NONE);
        }
    }

    private void completeOfBoth() {
        merged("P 1", line(1, 0, 0, 1) + line(0, 1, 0, 1));
        c.due("with a row", x.complete(1, 0), 2);
        c.due("all", x.complete(1, 1), 13);
        c.due("with a row", x.complete(12, 0), 2);
        c.due("all", x.complete(12, 1), 7812);
    }

    private void completeRefused(Class<? extends RuntimeException> by, int most, int what) {
        c.dueThrow("complete " + most + " " + what, by, () -> x.complete(most, what));
    }

    private void completeWithoutGroup() {
        completeRefused(STATE, 1, 0);
        completeRefused(STATE, 12, 1);
    }

    private void completeBounds() {
        right("P 1");
        c.due("1", x.complete(1, 1), 13);
        c.due("12", x.complete(12, 1), 7812);
        for (int most : new int[] {0, 13, -1, -12, LEAST, MOST}) {
            completeRefused(ARGUMENT, most, 0);
            completeRefused(ARGUMENT, most, 1);
        }
    }

    private void completeOfAnother() {
        right("P 1");
        for (int what : new int[] {-1, 2, 3, LEAST, MOST}) {
            completeRefused(INDEX, 1, what);
            completeRefused(INDEX, 12, what);
        }
    }
}
