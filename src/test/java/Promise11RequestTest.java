/** Promise 11: request. */
public final class Promise11RequestTest {
    public static void main(String[] args) {
        Check check = new Check();
        ChunkedNodes x = new ChunkedNodes();
        check.same("none", x.request(), -1);
        x.chunk(0, 1, 70, 1, 1);
        check.same("in part", x.request(), -1);
        x.chunk(1, 2, 70, 0, 2);
        check.same("answered", x.request(), 70);
        x.chunk(0, 3, 71, 1, 1);
        check.same("the latest answer's", x.request(), 70);
        x.chunk(2, 4, 71, 1, 1);
        check.same("after an ABORT", x.request(), 70);
        x.chunk(1, 5, 0, 0, 0);
        check.same("0, with a code of fault", x.request(), 0);
        x.chunk(1, 6, Integer.MAX_VALUE, 0, 0);
        check.same("the greatest", x.request(), Integer.MAX_VALUE);
        x.chunk(1, 6, 4, 0, 0);
        check.same("closed", x.request(), Integer.MAX_VALUE);
        x.open();
        check.same("opened", x.request(), -1);
        check.end();
    }
}
