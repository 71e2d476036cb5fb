/** Promise 8: part. */
public final class Promise08PartTest {
    public static void main(String[] args) {
        Check check = new Check();
        ChunkedNodes x = new ChunkedNodes();
        check.same("none", x.part(), -1);
        x.chunk(0, 1, 1, 0, 0);
        check.same("a message in part without bytes", x.part(), 0);
        x.chunk(0, 2, 1, 0, 3);
        check.same("3", x.part(), 3);
        x.chunk(0, 3, 1, 0, 8);
        check.same("11", x.part(), 11);
        x.chunk(0, 3, 1, 0, 9);
        check.same("refused", x.part(), 11);
        x.chunk(1, 4, 1, 0, 8);
        check.same("whole", x.part(), -1);
        x.chunk(0, 5, 2, 0, 4);
        check.same("a new one", x.part(), 4);
        x.chunk(2, 6, 2, 0, 4);
        check.same("aborted", x.part(), -1);
        x.chunk(0, 7, 3, 0, 5);
        x.chunk(0, 7, 3, 0, 5);
        check.same("closed", x.part(), -1);
        x.open();
        check.same("opened", x.part(), -1);
        x.chunk(0, 7, 3, 0, 5);
        x.open();
        check.same("opened while in part", x.part(), -1);
        check.end();
    }
}
