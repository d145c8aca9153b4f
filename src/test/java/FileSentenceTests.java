/** What the document says of files and of what is kept of them at their bounds. */
public final class FileSentenceTests extends Sentences {
    private static final String ROW = "   1   2   3    1.00    0.10";
    private static final String ZEROS = "   0   0   0    1.00    0.10";

    public static void main(String[] args) {
        new FileSentenceTests().all();
    }

    private void all() {
        sentence("Terms 4: A FILE is one row or more", this::oneRowOrMore);
        sentence("Terms 4: rows of 28 bytes", this::bytesOfARow);
        sentence("Terms 4: each with a byte 10 behind it", this::byte10);
        sentence("Terms 4: not needed behind the last one", this::byte10OfTheLast);
        sentence("Terms 4: columns 1 .. 4 h, 5 .. 8 k, 9 .. 12 l", this::columns);
        sentence("Terms 4: an index: blanks, perhaps -, digits to the end of the column", this::indexForms);
        sentence("Terms 4: an index: -127 .. 127", this::indexBounds);
        sentence("Terms 4: the INTENSITY: blanks, perhaps -, digits, a point, two digits, to the end of the column",
            this::intensityForms);
        sentence("Terms 4: the SIGMA: likewise without -", this::sigmaForms);
        sentence("Terms 4: They count in hundredths", this::hundredths);
        sentence("Terms 4: There may be one row with the indices 0 0 0", this::oneRowOfZeros);
        sentence("Terms 4: it ends the file, and is no reflection", this::zerosAreNoReflection);
        sentence("Terms 4: it must be the last one", this::zerosAreLast);
        sentence("Terms 4: At most 3000 reflections are kept, of all files together", this::atMost3000);
        sentence("Terms 4: the first byte that cannot stand where it does", this::firstByte);
        sentence("Terms 4: the end, where a row is not all there: how many bytes there are", this::endOfRow);
        sentence("Terms 4: an index out of its bounds: the last byte of its column", this::lastByteOfColumn);
        sentence("Terms 4: a row behind 0 0 0: its first byte", this::rowBehindZeros);
        sentence("Terms 4: a reflection too many: its first byte", this::tooMany);
        sentence("Terms 4: - alone cannot end a column", this::minusAlone);
        sentence("Terms 4: nor be followed by a blank", this::minusAndBlank);
        sentence("Terms 4: a column of blanks alone has its fault at its last byte", this::blanksAlone);
        sentence("Terms 4: likewise with the five places before the point, the last of which has to be a digit", this::fivePlaces);
        sentence("Promise 1: no reflections", this::newObject);
        sentence("Promise 12: how many reflections it has", this::howMany);
        sentence("Promise 12: which come behind those that there are", this::comeBehind);
        sentence("Promise 12: -1 less the place (from 0) of its FAULT", this::placeOfFault);
        sentence("Promise 12: none come", this::noneCome);
        sentence("Promise 12: Rows stay", this::rowsStay);
        sentence("Promise 13: All reflections, and rows, go", this::allGo);
        sentence("Promise 13: how many reflections there were", this::howManyWent);
        sentence("Promise 14: How many reflections there are", this::reflections);
        sentence("Promise 15: what = 0 .. 2 its index, 3 its intensity, 4 its sigma", this::numbers);
        sentence("Promise 15: IndexOutOfBoundsException: no such reflection", this::noSuchReflection);
        sentence("Promise 15: IndexOutOfBoundsException: no such what", this::noSuchWhat);
        c.finish();
    }

    /** The row with another text from a place on. */
    private static String with(String text, int at) {
        return ROW.substring(0, at) + text + ROW.substring(at + text.length());
    }

    private void indexRight(String column, int number) {
        for (int i = 0; i < 3; i++) {
            renew();
            taken(with(column, 4 * i), 1);
            c.due("index " + i, x.reflection(0, i), number);
        }
    }

    private void indexFault(String column, int place) {
        for (int i = 0; i < 3; i++) {
            fileFault(with(column, 4 * i), 4 * i + place);
        }
    }

    private void intensityRight(String column, int number) {
        renew();
        taken(with(column, 12), 1);
        c.due("intensity", x.reflection(0, 3), number);
    }

    private void sigmaRight(String column, int number) {
        renew();
        taken(with(column, 20), 1);
        c.due("sigma", x.reflection(0, 4), number);
    }

    /** A fault of both, the intensity and the sigma. */
    private void bothFault(String column, int place) {
        fileFault(with(column, 12), 12 + place);
        fileFault(with(column, 20), 20 + place);
    }

    private void oneRowOrMore() {
        fileFault("", 0);
        taken(ROW, 1);
        taken(ROW + "\n" + ROW, 2);
        fileFault("\n", 0);
    }

    private void bytesOfARow() {
        fileFault(ROW.substring(0, 27), 27);
        fileFault(ROW.substring(0, 27) + "\n" + ROW, 27);
        fileFault(ROW + "0", 28);
        fileFault(ROW + " \n" + ROW, 28);
        fileFault(ROW + "\n" + ROW.substring(0, 27) + "\n", 56);
        fileFault(ROW + "\n " + ROW, 32);
    }

    private void byte10() {
        taken(ROW + "\n" + ROW + "\n", 2);
        for (char sign = 0; sign < 256; sign++) {
            if (sign != 10) {
                fileFault(ROW + sign + ROW, 28);
            }
        }
        fileFault(ROW + "\n" + ROW + ROW, 57);
        fileFault(ROW + "\n\n" + ROW, 29);
        fileFault(ROW + "\r\n", 28);
    }

    private void byte10OfTheLast() {
        taken(ROW, 1);
        taken(ROW + "\n", 1);
        taken(ZEROS, 0);
        taken(ZEROS + "\n", 0);
        taken(ROW + "\n" + ZEROS, 1);
        taken(ROW + "\n" + ZEROS + "\n", 1);
        fileFault(ROW + "\n\n", 29);
        fileFault(ROW + "\n ", 30);
        fileFault(ZEROS + " ", 28);
    }

    private void columns() {
        taken("-111-122 123-1234.56 9876.54", 1);
        numbersOfReflection(0, -111, -122, 123, -123456, 987654);
        renew();
        taken("011101220123-1234.5698765.43", 1);
        numbersOfReflection(0, 111, 122, 123, -123456, 9876543);
    }

    private void indexForms() {
        indexRight("   5", 5);
        indexRight("  -5", -5);
        indexRight("  55", 55);
        indexRight(" 055", 55);
        indexRight("0005", 5);
        indexRight("-005", -5);
        indexRight("  -0", 0);
        indexFault("5   ", 1);
        indexFault("  5 ", 3);
        indexFault("5  5", 1);
        indexFault("  +5", 2);
        indexFault("--55", 1);
        indexFault(" 5-5", 2);
        indexFault("   x", 3);
        indexFault("  .5", 2);
        indexFault("  /5", 2);
        indexFault("  5:", 3);
        indexFault("   \n", 3);
    }

    private void indexBounds() {
        indexRight(" 127", 127);
        indexRight("0127", 127);
        indexRight("-127", -127);
        indexFault(" 128", 3);
        indexFault("0128", 3);
        indexFault("-128", 3);
        indexFault(" 200", 3);
        indexFault(" 256", 3);
        indexFault(" 999", 3);
        indexFault("-999", 3);
        indexFault("9999", 3);
        indexFault("1000", 3);
    }

    private void intensityForms() {
        intensityRight("    0.00", 0);
        intensityRight("   -0.00", 0);
        intensityRight("   -0.01", -1);
        intensityRight("   12.34", 1234);
        intensityRight("  -12.34", -1234);
        intensityRight("-9999.99", -999999);
        intensityRight("99999.99", 9999999);
        intensityRight("00000.01", 1);
        intensityRight("-0000.01", -1);
    }

    private void sigmaForms() {
        sigmaRight("    0.00", 0);
        sigmaRight("    0.01", 1);
        sigmaRight("99999.99", 9999999);
        sigmaRight("00000.10", 10);
        for (int places = 0; places < 5; places++) {
            String column = " ".repeat(places) + "-" + "1".repeat(4 - places) + ".00";
            fileFault(with(column, 20), 20 + places);
        }
        fileFault(with("   - .00", 20), 23);
    }

    private void hundredths() {
        intensityRight("    1.00", 100);
        intensityRight("    0.99", 99);
        intensityRight("   10.05", 1005);
        intensityRight("  -10.50", -1050);
        sigmaRight("    1.00", 100);
        sigmaRight("  123.09", 12309);
    }

    private void oneRowOfZeros() {
        taken(ROW + "\n" + ROW, 2);
        taken(ZEROS, 0);
        taken(ROW + "\n" + ZEROS, 1);
        renew();
        taken("  -0-0000000   -9.00    0.10", 0);
        fileFault(ZEROS + "\n" + ZEROS, 29);
        fileFault(ROW + "\n" + ZEROS + "\n" + ZEROS + "\n", 58);
        // such a row is right in all its columns, or it has a fault like others
        fileFault("   0   0   0    1.00    0.1", 27);
        fileFault("   0   0   0     .00    0.10", 16);
        fileFault("   0   0   0    1.00   -0.10", 23);
    }

    private void zerosAreNoReflection() {
        taken(ZEROS + "\n", 0);
        c.due("reflections", x.reflections(), 0);
        taken(ROW + "\n" + ZEROS, 1);
        c.due("reflections", x.reflections(), 1);
        c.dueThrow("reflection 1", INDEX, () -> x.reflection(1, 0));
        // two zeros are not three
        taken("   0   0   1    1.00    0.10\n   0   1   0    1.00    0.10\n   1   0   0    1.00    0.10", 3);
        // each file may have its own
        taken(ZEROS, 0);
        taken(ROW, 1);
        c.due("reflections", x.reflections(), 5);
    }

    private void zerosAreLast() {
        fileFault(ZEROS + "\n" + ROW, 29);
        fileFault(ROW + "\n" + ZEROS + "\n" + ROW + "\n", 58);
        fileFault(ZEROS + "\n\n", 29);
        fileFault(ZEROS + "\n ", 29);
        fileFault(ZEROS + ROW, 28);
    }

    /** More calls than 512 are needed to come there: what is free then, the program does all the same. */
    private void atMost3000() {
        String many = lines(250, 1, 2, 3, 100);
        for (int i = 0; i < 11; i++) {
            taken(many, 250);
        }
        c.due("250 and one more", file(many + ROW), -1 - 250 * 29);
        c.due("reflections", x.reflections(), 2750);
        taken(many + ZEROS, 250);
        c.due("reflections", x.reflections(), 3000);
        taken(ZEROS, 0);
        c.due("symbol", Checks.readSymbol(x, "P 1a"), 0);
        c.due("merge", x.merge(), 1);
        c.due("n", x.row(0, 3), 3000);
        c.due("violations", x.violations(0), 3000);
        c.due("the last one", x.violation(2999), 2999);
        c.due("none behind it", x.violation(3000), -1);
        c.due("drop", x.drop(), 3000);
        taken(ROW, 1);
    }

    private void firstByte() {
        fileFault("x" + ROW.substring(1), 0);
        fileFault(with("x", 5).substring(0, 26) + "xx", 5);
        fileFault(ROW + "\n" + with("x", 20), 49);
        fileFault(ROW + "\nx", 29);
        fileFault(with("1,00", 16), 17);
        fileFault(with("x   x", 12), 12);
        // a byte that cannot stand, before an index out of its bounds, and behind one
        fileFault("   x 128   3    1.00    0.10", 3);
        fileFault(" 128   x   3    1.00    0.10", 3);
        fileFault("   1   2 128    x.00    0.10", 11);
    }

    private void endOfRow() {
        for (int n = 0; n < 28; n++) {
            fileFault(ROW.substring(0, n), n);
            fileFault(ZEROS.substring(0, n), n);
        }
        for (int n = 1; n < 28; n++) {
            fileFault(ROW + "\n" + ROW.substring(0, n), 29 + n);
        }
        // the end comes behind what is wrong before it
        fileFault(" 128", 3);
        fileFault("    ", 3);
        fileFault("   -", 3);
        fileFault(" 12", 3);
    }

    private void lastByteOfColumn() {
        fileFault(" 128   2   3    1.00    0.10", 3);
        fileFault("   1-128   3    1.00    0.10", 7);
        fileFault("   1   29999    1.00    0.10", 11);
        fileFault(ROW + "\n   1   2 128    1.00    0.10", 40);
        fileFault(" 128 128 128    1.00    0.10", 3);
        fileFault(" 128", 3);
    }

    private void rowBehindZeros() {
        fileFault(ZEROS + "\n" + ROW, 29);
        fileFault(ZEROS + "\n" + ROW + "\n" + ROW, 29);
        fileFault(ZEROS + "\n 128", 29);
        fileFault(ZEROS + "\n   x", 29);
        fileFault(ZEROS + "\n1", 29);
        fileFault(ROW + "\n" + ROW + "\n" + ZEROS + "\n" + ZEROS, 87);
    }

    /** As with the 3000 themselves, beyond 512 calls. */
    private void tooMany() {
        String many = lines(250, 1, 2, 3, 100);
        for (int i = 0; i < 12; i++) {
            taken(many, 250);
        }
        c.due("the 3001st", file(ROW), -1);
        c.due("the 3001st and others", file(ROW + "\n" + ROW + "\n" + ROW), -1);
        c.due("reflections", x.reflections(), 3000);
    }

    private void minusAlone() {
        indexFault("   -", 3);
        fileFault(with("    -.00", 12), 16);
        fileFault(with("   -", 8).substring(0, 12), 11);
    }

    private void minusAndBlank() {
        indexFault("-  5", 1);
        indexFault(" - 5", 2);
        indexFault("  - ", 3);
        indexFault("-   ", 1);
        fileFault(with("   - .00", 12), 16);
        fileFault(with("-   1.00", 12), 13);
    }

    private void blanksAlone() {
        indexFault("    ", 3);
        fileFault(" ".repeat(28), 3);
        fileFault(" ".repeat(4), 3);
        fileFault(" ".repeat(3), 3);
    }

    private void fivePlaces() {
        bothFault("     .00", 4);
        bothFault("        ", 4);
        bothFault("   1 .00", 4);
        bothFault("1    .00", 1);
        bothFault("   1.000", 4);
        bothFault("    .000", 4);
        bothFault("    x.00", 4);
        bothFault("    1 00", 5);
        bothFault("    1000", 5);
        bothFault("    1. 0", 6);
        bothFault("    1.0 ", 7);
        bothFault("    1.-1", 6);
        bothFault("    1..0", 6);
        bothFault("123456.0", 5);
        fileFault(with("--111.00", 12), 13);
        fileFault(with("1-111.00", 12), 13);
        fileFault(with("+1111.00", 12), 12);
    }

    private void newObject() {
        c.due("reflections", x.reflections(), 0);
        c.due("drop", x.drop(), 0);
        c.dueThrow("reflection", INDEX, () -> x.reflection(0, 0));
    }

    private void howMany() {
        taken(ZEROS, 0);
        taken(ROW, 1);
        taken(ROW + "\n" + ROW + "\n" + ROW + "\n", 3);
        taken(ROW + "\n" + ROW + "\n" + ZEROS, 2);
        renew();
        taken(lines(275, 1, 2, 3, 100), 275);
    }

    private void comeBehind() {
        taken(line(1, 2, 3, 100) + line(4, 5, 6, 200), 2);
        taken(line(7, 8, 9, 300), 1);
        c.due("reflections", x.reflections(), 3);
        numbersOfReflection(0, 1, 2, 3, 100, 100);
        numbersOfReflection(1, 4, 5, 6, 200, 100);
        numbersOfReflection(2, 7, 8, 9, 300, 100);
        x.drop();
        taken(line(-1, -1, -1, 400), 1);
        numbersOfReflection(0, -1, -1, -1, 400, 100);
    }

    private void placeOfFault() {
        c.due("at 0", file("x"), -1);
        c.due("at 27", file(ROW.substring(0, 27) + "x"), -28);
        c.due("at the end of nothing", file(""), -1);
        c.due("at 7999", file((ROW + "\n").repeat(275) + ROW.substring(0, 24) + "x"), -8000);
        renew();
        c.due("at the end of all", file((ROW + "\n").repeat(275) + ROW.substring(0, 25)), -8001);
    }

    private void noneCome() {
        taken(line(1, 2, 3, 100), 1);
        c.due("a fault in the third row", file(line(4, 5, 6, 200) + line(7, 8, 9, 300) + "x"), -1 - 58);
        c.due("reflections", x.reflections(), 1);
        c.dueThrow("reflection 1", INDEX, () -> x.reflection(1, 0));
        numbersOfReflection(0, 1, 2, 3, 100, 100);
        c.due("a row behind 0 0 0", file(line(4, 5, 6, 200) + ZEROS + "\n" + ROW), -1 - 58);
        c.due("reflections", x.reflections(), 1);
        taken(line(-1, -2, -3, 400), 1);
        numbersOfReflection(1, -1, -2, -3, 400, 100);
        c.due("drop", x.drop(), 2);
    }

    private void rowsStay() {
        merged("P 1", line(1, 2, 3, 100) + line(1, 2, 3, 200));
        taken(line(1, 2, 3, 300) + line(4, 5, 6, 300), 2);
        c.due("rows behind a file", x.rows(), 1);
        numbersOfRow(0, 1, 2, 3, 2, 2, 0, 300, 150, 1, 200);
        c.due("R", x.digit(1, 0), 3);
        c.due("a fault", file("x"), -1);
        c.due("rows behind a fault", x.rows(), 1);
        numbersOfRow(0, 1, 2, 3, 2, 2, 0, 300, 150, 1, 200);
        c.due("R", x.digit(0, 0), 1);
    }

    private void allGo() {
        merged("P 2y", line(1, 2, 3, 100) + line(1, 2, 3, 200));
        x.drop();
        c.due("reflections", x.reflections(), 0);
        c.due("rows", x.rows(), 0);
        c.dueThrow("reflection", INDEX, () -> x.reflection(0, 0));
        c.dueThrow("row", INDEX, () -> x.row(0, 0));
        c.due("digits", x.digits(0), -1);
        c.due("digit", x.digit(1, 0), 0);
        c.due("complete", x.complete(3, 0), 0);
        c.due("the group stays", x.order(), 2);
        c.due("merge of none", x.merge(), 0);
        x.feed(0x50203120, 0x20202020, 0x20202020, 0x20202020, 0x20202020);
        x.drop();
        c.due("the tape stays", x.symbol(), 0);
    }

    private void howManyWent() {
        c.due("drop of a new object", x.drop(), 0);
        taken(lines(3, 1, 2, 3, 100), 3);
        taken(ROW, 1);
        c.due("drop", x.drop(), 4);
        c.due("drop again", x.drop(), 0);
    }

    private void reflections() {
        c.due("of a new object", x.reflections(), 0);
        taken(ZEROS, 0);
        c.due("of 0 0 0 alone", x.reflections(), 0);
        taken(lines(200, 1, 2, 3, 100), 200);
        c.due("of 200", x.reflections(), 200);
        c.due("a fault", file("x"), -1);
        c.due("of 200", x.reflections(), 200);
    }

    private void numbers() {
        taken("-127 127  -0-9999.9999999.99", 1);
        numbersOfReflection(0, -127, 127, 0, -999999, 9999999);
        taken("   1  -1   099999.99    0.00", 1);
        numbersOfReflection(1, 1, -1, 0, 9999999, 0);
    }

    private void refused(int i, int what) {
        c.dueThrow("reflection " + i + " " + what, INDEX, () -> x.reflection(i, what));
    }

    private void noSuchReflection() {
        refused(0, 0);
        taken(ROW + "\n" + ROW, 2);
        c.due("the last one", x.reflection(1, 0), 1);
        for (int i : new int[] {-1, 2, 3, 2999, 3000, LEAST, MOST}) {
            refused(i, 0);
            refused(i, 4);
        }
        x.drop();
        refused(0, 0);
    }

    private void noSuchWhat() {
        taken(ROW, 1);
        c.due("the last", x.reflection(0, 4), 10);
        for (int what : new int[] {-1, 5, 6, LEAST, MOST}) {
            refused(0, what);
        }
    }
}
