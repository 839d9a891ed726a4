import java.util.Random;

/** Boards of all densities, of which all that "would be" is to be as the model finds it. */
public final class BoardsTest {
    private static final int BOARDS = 500;

    private final Check check = new Check();

    public static void main(String[] args) {
        BoardsTest test = new BoardsTest();
        int[] leasts = new int[11];
        for (int board = 0; board < BOARDS; board++) {
            leasts[test.compare(board) + 1]++;
        }
        for (int least : new int[] {-1, 3, 5, 7, 9}) {
            test.check.due("a board whose LEAST is " + least + " is among them", true,
                    () -> leasts[least + 1] > 0);
        }
        test.check.end("BoardsTest");
    }

    private int compare(int board) {
        Random random = new Random(board);
        Rowscan real = new Rowscan();
        Model model = new Model();
        boolean isRing = board % 5 == 0;
        int rows = isRing ? 5 : 2 + random.nextInt(4);
        int columns = isRing ? 5 : 2 + random.nextInt(4);
        real.lay(rows, columns);
        model.lay(rows, columns);
        int gaps = random.nextInt(10);
        int diodes = random.nextInt(10);
        for (int k = 0; k < rows * columns; k++) {
            boolean isFitted = isRing ? isInRing(k, 3 + board / 5 % 3)
                    : random.nextInt(10) >= gaps;
            boolean hasDiode = random.nextInt(isRing ? 60 : 10) < diodes;
            int stuck = random.nextInt(3);
            real.key(k, isFitted, hasDiode, 0, stuck);
            model.key(k, isFitted, hasDiode, 0, stuck);
        }
        for (int line = 0; line < rows + columns; line++) {
            boolean isBroken = random.nextInt(isRing ? 40 : 12) == 0 && board % 3 == 0;
            real.line(line, isBroken);
            model.line(line, isBroken);
        }
        ask(board, real, model, random);
        return model.board(9);
    }

    /** A ring through so many rows and columns shows a ghost by all of its keys but one. */
    private static boolean isInRing(int key, int lines) {
        int row = key / 5;
        int column = key % 5;
        return row < lines && (column == row || column == (row + 1) % lines);
    }

    private void ask(int board, Rowscan real, Model model, Random random) {
        String on = "board " + board + ": ";
        int size = model.keys.size();
        check.due(on + "board(8)", model.board(8), () -> real.board(8));
        check.due(on + "board(9)", model.board(9), () -> real.board(9));
        int most = Integer.bitCount(model.set(5)) > 16 && board % 7 > 0 ? 3 : 4;
        for (int i = 1; i <= most; i++) {
            int many = i;
            check.due(on + "unclear(" + many + ")", model.unclear(many), () -> real.unclear(many));
        }
        check.due(on + "bestDiode()", model.bestDiode(), real::bestDiode);
        check.due(on + "isSound()", true, real::isSound);
        for (int i = 0; i < size; i++) {
            int key = i;
            check.due(on + "wouldHelp(" + key + ")", model.wouldHelp(key),
                    () -> real.wouldHelp(key));
            check.due(on + "wouldGhost(" + key + ")", 0, () -> real.wouldGhost(key));
        }
        for (int i = 0; i < 30; i++) {
            int set = random.nextInt(1 << size) | random.nextInt(1 << size);
            check.due(on + "seen(" + set + ")", model.seen(set), () -> real.seen(set));
            check.due(on + "exact(" + set + ")", model.exact(set), () -> real.exact(set));
        }
        real.scan(1);
        model.scan(1);
        for (int i = 0; i < size; i++) {
            int key = i;
            check.due(on + "then wouldGhost(" + key + ")", model.wouldGhost(key),
                    () -> real.wouldGhost(key));
        }
    }
}
