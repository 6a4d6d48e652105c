/** The calls that README.md shows under "Use", with the answers that stand beside them there. */
public final class ReadmeTest {
    private ReadmeTest() {
    }

    public static void main(String[] args) {
        Due due = new Due("ReadmeTest: ");
        ClusterTool tool = new ClusterTool();
        due.same("visit(0, 0b0001, 5, 2)", tool.visit(0, 0b0001, 5, 2), 1);
        due.same("visit(0, 0b1100, 3, 0)", tool.visit(0, 0b1100, 3, 0), 2);
        int wafer = tool.load(0);
        due.same("load(0)", wafer, 0);
        due.same("move(wafer, 0)", tool.move(wafer, 0), 0);
        due.same("move(wafer, 4)", tool.move(wafer, 4), Tools.UNREADY);
        due.same("tick(5)", tool.tick(5), 0);
        due.same("next()", tool.next(), 4);
        due.same("go()", tool.go(), 4);
        due.same("move(wafer, 3)", tool.move(wafer, 3), 0);
        due.same("tick(3)", tool.tick(3), 0);
        due.same("go()", tool.go(), 4);
        due.same("go()", tool.go(), 5);
        due.same("count(1)", tool.count(1), 1);
        due.end();
    }
}
