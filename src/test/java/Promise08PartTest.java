/** Promise 8: part. */
public final class Promise08PartTest {
    public static void main(String[] args) {
        Section section = new Section("Promise 8");
        section.sentence("How many bytes the message in part has", Promise08PartTest::howMany);
        section.sentence("REFUSED if there is none", Promise08PartTest::none);
        section.end();
    }

    private static void howMany(Check check) {
        Client x = new Client();
        x.more();
        check.same("none yet", x.part(), 0);
        x.more(1, 2, 3);
        check.same("3", x.part(), 3);
        x.more(new int[8]);
        check.same("11", x.part(), 11);
        x.chunk(0, x.nextSequence(), x.latestRequest(), 0, 9);
        check.same("a refused chunk adds none", x.part(), 11);
        x.more();
        check.same("0 bytes add none", x.part(), 11);
        for (int i = 1; i <= 6; i++) {
            x.more(new int[8]);
            check.same("8 more", x.part(), 11 + 8 * i);
        }
        x.more(new int[5]);
        check.same("64", x.part(), 64);
    }

    private static void none(Check check) {
        Client x = new Client();
        check.same("new", x.part(), -1);
        x.last(1, 2, 3);
        check.same("whole at once", x.part(), -1);
        x.more(1, 2, 3);
        x.last(1, 2);
        check.same("whole", x.part(), -1);
        x.abort(1, 2);
        check.same("an ABORT alone", x.part(), -1);
        x.more(1, 2, 3);
        x.abort();
        check.same("aborted", x.part(), -1);
        x.more(1);
        x.open();
        check.same("opened", x.part(), -1);
        x.more(1);
        x.chunk(0, 900, 0, 0, 0);
        check.same("closed", x.part(), -1);
        x.chunk(0, 1, 0, 0, 3);
        check.same("refused when closed", x.part(), -1);
    }
}
