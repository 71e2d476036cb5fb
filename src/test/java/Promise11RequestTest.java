/** Promise 11: request. */
public final class Promise11RequestTest {
    public static void main(String[] args) {
        Section section = new Section("Promise 11");
        section.sentence("The request number of the message of the latest answer", Promise11RequestTest::latest);
        section.sentence("REFUSED if there is none", Promise11RequestTest::none);
        section.end();
    }

    private static void latest(Check check) {
        Client x = new Client();
        x.chunk(0, 1, 70, 1, 1);
        x.chunk(1, 2, 70, 0, 2);
        check.same("answered", x.request(), 70);
        x.chunk(0, 3, 71, 1, 1);
        check.same("while another is in part", x.request(), 70);
        x.chunk(2, 4, 71, 1, 1);
        check.same("after an ABORT", x.request(), 70);
        x.chunk(1, 5, 0, 0, 0);
        check.same("the least", x.request(), 0);
        x.chunk(1, 6, Integer.MAX_VALUE, 0, 0);
        check.same("the greatest", x.request(), Integer.MAX_VALUE);
        x.chunk(1, 7, -1, 0, 0);
        check.same("after a refused one", x.request(), Integer.MAX_VALUE);
        x.chunk(1, 6, 4, 0, 0);
        check.same("the channel being closed", x.request(), Integer.MAX_VALUE);
    }

    private static void none(Check check) {
        Client x = new Client();
        check.same("new", x.request(), -1);
        x.chunk(0, 1, 70, 1, 1);
        check.same("in part", x.request(), -1);
        x.chunk(2, 2, 70, 1, 1);
        check.same("aborted", x.request(), -1);
        x.chunk(1, 3, 5, 0, 0);
        check.same("answered", x.request(), 5);
        x.open();
        check.same("opened", x.request(), -1);
        x.chunk(1, 3, -5, 0, 0);
        check.same("refused", x.request(), -1);
    }
}
