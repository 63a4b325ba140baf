/** The example of README.md, call by call, with the answers that it tells. */
public final class ReadmeTest {
    public static void main(String[] args) {
        Due due = new Due("ReadmeTest");
        BatchExecutive executive = new BatchExecutive();
        due.is("unit", executive.unit(0, 500), 0);
        for (char c : "m3y90;".toCharArray()) {
            executive.type(c);
        }
        due.is("recipe", executive.recipe(0), 1);
        due.is("batch 0", executive.batch(0, 400, 5, -1), 0);
        due.is("start of batch 0", executive.start(0), 1);
        due.is("run of batch 0", executive.run(3), 1);
        due.is("amount", executive.batchInfo(0, 11), 360);
        due.is("batch 1", executive.batch(0, 300, 5, -1), 1);
        due.is("start of batch 1", executive.start(1), 1);
        due.is("waits", executive.waits(1), 2);
        due.is("ticksTo", executive.ticksTo(1), 4);
        due.is("run of batch 1", executive.run(3), 0);
        due.is("fail", executive.fail(0), 1);
        due.is("restart", executive.restart(1), BatchExecutive.NOT_POSSIBLE);
        due.is("undo", executive.undo(), 3);
        due.is("run behind the undo", executive.run(1), 1);
        due.end();
    }
}
