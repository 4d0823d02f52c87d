/** The example of README.md, call for call. */
public final class ReadmeTest {
    private static final Checks checks = new Checks();

    public static void main(String[] args) {
        ForkedSheets x = new ForkedSheets(2, 2);
        shareUntilWritten(x);
        goOutAndComeBack(x);
        copyAndEnd(x);
        checks.end();
    }

    private static void due(String what, Object want, Object got) {
        checks.due(what, want, got);
    }

    private static void shareUntilWritten(ForkedSheets x) {
        due("spawn()", 0, x.spawn());
        x.store(0, 5, 12);
        due("the sheet is made in frame 0", 0, x.where(0, 1));
        due("fork(p)", 1, x.fork(0));
        due("sharers(q, 1)", 2, x.sharers(1, 1));
        x.store(1, 5, 13);
        due("load(p, 5)", 12, x.load(0, 5));
        due("where(q, 1)", 1, x.where(1, 1));
    }

    private static void goOutAndComeBack(ForkedSheets x) {
        x.store(0, 0, 7);
        due("where(p, 1)", 100, x.where(0, 1));
        due("load(p, 5)", 12, x.load(0, 5));
        due("where(q, 1)", 100, x.where(1, 1));
        due("faults()", 4, x.faults());
        due("evicted()", 2, x.evicted());
    }

    private static void copyAndEnd(ForkedSheets x) {
        x.copy(0, 4, 0, 2);
        due("copied()", 2, x.copied());
        due("load(p, 1)", 12, x.load(0, 1));
        due("exit(q)", 1, x.exit(1));
        checks.noSuchElement("load(q, 5)", () -> x.load(1, 5));
    }
}
