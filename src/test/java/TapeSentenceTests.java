/** What the document says of the tape, feed and end at their bounds. */
public final class TapeSentenceTests extends Sentences {
    public static void main(String[] args) {
        new TapeSentenceTests().all();
    }

    private void all() {
        sentence("Terms: THE TAPE has at most 8000 bytes", this::atMost8000);
        sentence("Terms: THE TAPE has at most 8000 bytes; all of them are read", this::allBytesAreRead);
        sentence("Terms: what reads it uses it up", this::readingUsesItUp);
        sentence("Terms: NUMBERS of bytes here are those of printed signs", this::numbersOfBytes);
        sentence("Promise 1: An empty tape", this::newTape);
        sentence("Promise 2: Twenty bytes come behind the tape", this::behindTheTape);
        sentence("Promise 2: each number's highest one first", this::highestFirst);
        sentence("Promise 2: how many it has", this::howMany);
        sentence("Promise 2: IllegalStateException when there would be more than 8000", this::feedRefused);
        sentence("Promise 3: The tape is cut behind its first n bytes", this::cut);
        sentence("Promise 3: IllegalArgumentException when n is below 0", this::endBelow);
        sentence("Promise 3: or more than it has", this::endBeyond);
        sentence("Promise 4: The tape is read as a SYMBOL, and is empty then", this::symbolEmpties);
        sentence("Promise 12: The tape is read as a FILE, and is empty then", this::fileEmpties);
        c.finish();
    }

    private int feedZeros() {
        return x.feed(0, 0, 0, 0, 0);
    }

    private void feedZeros(int times) {
        for (int i = 0; i < times; i++) {
            feedZeros();
        }
    }

    private void endRefused(int n) {
        c.dueThrow("end(" + n + ")", ARGUMENT, () -> {
            x.end(n);
            return 0;
        });
    }

    private void atMost8000() {
        feedZeros(399);
        c.due("the 400th feed", feedZeros(), 8000);
        c.dueThrow("the 401st feed", STATE, this::feedZeros);
        endRefused(8001);
    }

    private void allBytesAreRead() {
        fault(" ".repeat(8000), 8000);
        right(" ".repeat(7997) + "P 1");
        right("P 1" + " ".repeat(7997));
        fault("P 1" + " ".repeat(7996) + "x", 7999);
        renew();
        taken(lines(275, 1, 2, 3, 100), 275);
        fileFault(lines(276, 1, 2, 3, 100).substring(0, 8000), 8000);
    }

    private void isEmpty(String when) {
        c.due("symbol of nothing " + when, x.symbol(), -1);
        c.due("file of nothing " + when, x.file(), -1);
        endRefused(1);
        c.due("feed " + when, feedZeros(), 20);
    }

    private void readingUsesItUp() {
        symbol("P 1");
        c.due("feed", feedZeros(), 20);
        renew();
        file(line(1, 2, 3, 100));
        c.due("feed", feedZeros(), 20);
    }

    private void numbersOfBytes() {
        fault("\tP 1", 0);
        fault("P\n1", 1);
        fault("P\u00a01", 1);
        fault("P \u00b1", 2);
        fault("\u00d0 1", 0);
        fault("P 2X", 3);
        fileFault("\t  1   1   1    1.00    0.10", 0);
        fileFault("   1   1   1    1.00    0.10\r", 28);
        fileFault("   \u00b1   1   1    1.00    0.10", 3);
    }

    private void newTape() {
        isEmpty("of a new object");
        renew();
        x.end(0);
        endRefused(1);
    }

    private void behindTheTape() {
        // "-127 126-125 9876.54" and "    0.07", then what is cut off
        x.feed(0x2d313237, 0x20313236, 0x2d313235, 0x20393837, 0x362e3534);
        x.feed(0x20202020, 0x302e3037, 0, 0, 0);
        x.end(28);
        c.due("file", x.file(), 1);
        numbersOfReflection(0, -127, 126, -125, 987654, 7);
    }

    private void highestFirst() {
        // "P 2y": backwards it would begin with y
        x.feed(0x50203279, 0x20202020, 0x20202020, 0x20202020, 0x20202020);
        c.due("symbol", x.symbol(), 0);
        // a byte above 127 leaves those beside it as they are
        x.feed(0x502031ff, 0, 0, 0, 0);
        c.due("P 1 and 255", x.symbol(), -1 - 3);
        x.feed(0x50ff3120, 0, 0, 0, 0);
        c.due("P, 255, 1", x.symbol(), -1 - 1);
        x.feed(0xff502031, 0, 0, 0, 0);
        c.due("255 and P 1", x.symbol(), -1);
        x.feed(0x20202020, 0x50202020, 0x20202020, 0x20202020, 0x202031ff);
        c.due("255 at the end", x.symbol(), -1 - 19);
    }

    private void howMany() {
        c.due("feed", feedZeros(), 20);
        c.due("feed", feedZeros(), 40);
        x.end(33);
        c.due("feed", feedZeros(), 53);
        x.end(0);
        c.due("feed", feedZeros(), 20);
    }

    private void feedRefused() {
        feedZeros(400);
        c.dueThrow("feed at 8000", STATE, this::feedZeros);
        x.end(7999);
        c.dueThrow("feed at 7999", STATE, this::feedZeros);
        x.end(7981);
        c.dueThrow("feed at 7981", STATE, this::feedZeros);
        endRefused(7982);
        x.end(7980);
        c.due("feed at 7980", feedZeros(), 8000);
    }

    private void cut() {
        x.feed(0x50203220, 0x71202020, 0, 0, 0);
        x.end(20);
        x.end(4);
        c.due("symbol of what is left", x.symbol(), 0);
        x.feed(0x50203279, 0, 0, 0, 0);
        x.end(3);
        // "x" comes behind "P 2"
        x.feed(0x78202020, 0x20202020, 0x20202020, 0x20202020, 0x20202020);
        c.due("symbol of two feeds", x.symbol(), 0);
        c.due("2x, not 2y", x.op(1, 0), 1);
        feedZeros();
        x.end(0);
        c.due("symbol of nothing left", x.symbol(), -1);
    }

    private void endBelow() {
        endRefused(-1);
        endRefused(LEAST);
        feedZeros();
        endRefused(-1);
        endRefused(LEAST);
        x.end(0);
        endRefused(1);
    }

    private void endBeyond() {
        endRefused(1);
        endRefused(MOST);
        feedZeros();
        endRefused(21);
        endRefused(MOST);
        x.end(20);
        x.end(7);
        endRefused(8);
        x.end(7);
        feedZeros(399);
        endRefused(7988);
        x.end(7987);
    }

    private void symbolEmpties() {
        right("P 2y");
        isEmpty("behind a symbol");
        fault("P 2q", 3);
        isEmpty("behind a fault");
        tooLarge("P 4 6x");
        isEmpty("behind TOO_LARGE");
    }

    private void fileEmpties() {
        taken(line(1, 2, 3, 100), 1);
        isEmpty("behind a file");
        fileFault(line(1, 2, 3, 100) + "x", 29);
        isEmpty("behind a fault");
    }
}
