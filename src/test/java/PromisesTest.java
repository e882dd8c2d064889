import java.util.List;

/** Each sentence of the document that names a boundary case, promise by promise. */
public final class PromisesTest {
    /** The tests of one promise. */
    interface Tests {
        void on(Edge edge);
    }

    private static final List<Tests> ALL = List.of(
            Promise01NewObject::tests, Promise02Cell::tests, Promise03Rules::tests, Promise04Hole::tests,
            Promise05Plug::tests, Promise06Pour::tests, Promise07Fill::tests, Promise08Trench::tests,
            Promise09State::tests, Promise10Burns::tests, Promise11Lost::tests, Promise12Fed::tests,
            Promise13InTime::tests, Promise14Read::tests, Promise15Let::tests, Promise16Span::tests,
            Promise17Parts::tests, Promise18House::tests, Promise19Gas::tests, Promise20Person::tests,
            Promise21Hears::tests, Promise22Offer::tests, Promise23Pull::tests, Promise24Gone::tests,
            Promise25Weeks::tests, Promise26Feed::tests, Promise27End::tests, Promise28Act::tests,
            Promise29Fault::tests, Promise30Force::tests, Promise31By::tests, Promise32Whose::tests,
            Promise33Vote::tests, Promise34Place::tests, Promise35Best::tests, Promise36Image::tests,
            Promise37Back::tests, Promise38About::tests);

    private PromisesTest() {
    }

    /** With a number, the tests of that promise alone. */
    public static void main(String[] args) {
        int from = args.length > 0 ? Integer.parseInt(args[0]) : 1;
        int to = args.length > 0 ? from : ALL.size();
        Edge edge = new Edge();
        for (int p = from; p <= to; p++) {
            ALL.get(p - 1).on(edge);
        }
        edge.end(from, to);
    }
}
