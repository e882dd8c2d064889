import java.util.List;

/** Each sentence of the document that names a boundary case, promise by promise. */
public final class PromisesTest {
    /** The tests of one promise. */
    interface Tests {
        void on(Edge edge);
    }

    private static final List<Tests> ALL = List.of(
            Promise01::tests, Promise02::tests, Promise03::tests, Promise04::tests, Promise05::tests, Promise06::tests,
            Promise07::tests, Promise08::tests, Promise09::tests, Promise10::tests, Promise11::tests, Promise12::tests,
            Promise13::tests, Promise14::tests, Promise15::tests, Promise16::tests, Promise17::tests, Promise18::tests,
            Promise19::tests, Promise20::tests, Promise21::tests, Promise22::tests, Promise23::tests, Promise24::tests,
            Promise25::tests, Promise26::tests, Promise27::tests, Promise28::tests, Promise29::tests, Promise30::tests,
            Promise31::tests, Promise32::tests, Promise33::tests, Promise34::tests, Promise35::tests, Promise36::tests,
            Promise37::tests, Promise38::tests);

    private PromisesTest() {
    }

    /** With a number, the tests of that promise alone. */
    public static void main(String[] args) {
        int from = args.length > 0 ? Integer.parseInt(args[0]) : 1;
        int to = args.length > 0 ? from : ALL.size();
        Edge edge = new Edge();
        for (int p = from; p <= to; p++) {
            ALL.get(p - 1).on(edge);
        }
        edge.end(from, to);
    }
}
