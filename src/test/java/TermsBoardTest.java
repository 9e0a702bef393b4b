/** The terms: the board, its squares, the steps, and the first position. */
final class TermsBoardTest {
    private static final int NO_SUCH = -1, NONE = -6;
    private static final int COLUMNS = 12, ROWS = 8, SQUARES = 48;
    private static final int[] RIGHT = {1, -1, 1, -1}, UP = {1, 1, -1, -1};

    private TermsBoardTest() {
    }

    static void run() {
        termsColumnsAndRows();
        termsRings();
        termsSquares();
        termsPieces();
        termsFirstPosition();
        termsSteps();
        termsAhead();
    }

    private static void termsColumnsAndRows() {
        Check.sentence(0, "The board has 12 columns, x from 0 to 11, and 8 rows, y from 0 to 7.");
        RingDraughts x = new RingDraughts();
        int[] inColumn = new int[COLUMNS];
        int[] inRow = new int[ROWS];
        for (int square = 0; square < SQUARES; square++) {
            inColumn[x.square(square, 1)]++;
            inRow[x.square(square, 2)]++;
        }
        for (int column = 0; column < COLUMNS; column++) Check.due("squares of the column " + column, inColumn[column], 4);
        for (int row = 0; row < ROWS; row++) Check.due("squares of the row " + row, inRow[row], 6);
        Check.due("before the first square", x.square(-1, 1), NO_SUCH);
        Check.due("behind the last square", x.square(48, 2), NO_SUCH);
    }

    private static void termsRings() {
        Check.sentence(0, "Both are rings: right of the column 11 is the column 0, above the row 7 is the row 0.");
        RingDraughts x = new RingDraughts();
        int[] rightmost = {11, 23, 35, 47};
        int[] leftmost = {0, 12, 24, 36};
        for (int i = 0; i < 4; i++) {
            Check.due("right and up of " + rightmost[i], x.step(rightmost[i], 0), leftmost[(i + 1) % 4]);
            Check.due("right and down of " + rightmost[i], x.step(rightmost[i], 2), leftmost[i]);
            Check.due("left and up of " + leftmost[i], x.step(leftmost[i], 1), rightmost[i]);
            Check.due("left and down of " + leftmost[i], x.step(leftmost[i], 3), rightmost[(i + 3) % 4]);
        }
        for (int i = 0; i < 6; i++) {
            Check.due("left and up of the upper row, " + i, x.step(42 + i, 1), i);
            Check.due("right and up of the upper row, " + i, x.step(42 + i, 0), (i + 1) % 6);
            Check.due("right and down of the lower row, " + i, x.step(i, 2), 42 + i);
            Check.due("left and down of the lower row, " + i, x.step(i, 3), 42 + (i + 5) % 6);
        }
    }

    private static void termsSquares() {
        Check.sentence(0, "Only the squares for which x and y together are even are used; the square with the number n, 0 to 47, "
            + "is in the row n / 6 (rounded down), and of its squares in this row, from left to right, the one with the number n left over by 6.");
        RingDraughts x = new RingDraughts();
        int square = 0;
        for (int row = 0; row < ROWS; row++) {
            for (int column = 0; column < COLUMNS; column++) {
                if ((row + column) % 2 != 0) continue;
                Check.due("x of " + square, x.square(square, 1), column);
                Check.due("y of " + square, x.square(square, 2), row);
                square++;
            }
        }
        Check.due("squares in all", square, 48);
        Check.due("behind the last one", x.square(square, 1), NO_SUCH);
    }

    private static void termsPieces() {
        Check.sentence(0, "There are two sides, 0 and 1, with men and kings: pieces are 0 (a man of the side 0), "
            + "1 (a king of the side 0), 2 (a man of the side 1), 3 (a king of the side 1).");
        RingDraughts x = Check.board(0, 12, 0, 13, 1, 14, 1, 30, 2, 31, 2, 32, 2, 33, 3, 34, 3, 35, 3, 24, 3);
        Check.side("four kinds", x, 0, 1, 2);
        Check.side("four kinds", x, 1, 3, 4);
        int[] squares = {12, 13, 30, 33, 24};
        int[] pieces = {0, 1, 2, 3, 3};
        for (int i = 0; i < squares.length; i++) Check.due("piece on " + squares[i], x.square(squares[i], 0), pieces[i]);
    }

    private static void termsFirstPosition() {
        Check.sentence(0, "At first the side 0 has men on all squares of the rows 1 and 2, "
            + "the side 1 on those of the rows 5 and 6, and the side 0 is to move.");
        RingDraughts x = new RingDraughts();
        for (int square = 0; square < SQUARES; square++) {
            int want = square >= 6 && square <= 17 ? 0 : square >= 30 && square <= 41 ? 2 : NONE;
            Check.due("piece on " + square, x.square(square, 0), want);
        }
        Check.due("the side that is to move", x.count(1), 0);
    }

    private static void termsSteps() {
        Check.sentence(0, "A step goes one column and one row at once, in one of four ways: "
            + "0 right and up, 1 left and up, 2 right and down, 3 left and down.");
        RingDraughts x = new RingDraughts();
        int[] columns = new int[SQUARES];
        int[] rows = new int[SQUARES];
        for (int square = 0; square < SQUARES; square++) {
            columns[square] = x.square(square, 1);
            rows[square] = x.square(square, 2);
        }
        for (int i = 0; i < SQUARES * 4; i++) {
            int square = i / 4;
            int to = x.step(square, i % 4);
            int column = (columns[square] + RIGHT[i % 4] + COLUMNS) % COLUMNS;
            int row = (rows[square] + UP[i % 4] + ROWS) % ROWS;
            Check.due("column behind the step " + i % 4 + " from " + square, columns[to], column);
            Check.due("row behind the step " + i % 4 + " from " + square, rows[to], row);
        }
    }

    private static void termsAhead() {
        Check.sentence(0, "Ahead is up for the side 0, and down for the side 1.");
        for (int square = 0; square < SQUARES; square++) {
            RingDraughts x = Check.board(0, square, 0);
            Check.due("hops of a man of 0 on " + square, x.count(2), 2);
            Check.due("first way of 0 from " + square, x.ofHop(0, 2), 0);
            Check.due("second way of 0 from " + square, x.ofHop(1, 2), 1);
            RingDraughts y = Check.board(1, square, 2);
            Check.due("hops of a man of 1 on " + square, y.count(2), 2);
            Check.due("first way of 1 from " + square, y.ofHop(0, 2), 2);
            Check.due("second way of 1 from " + square, y.ofHop(1, 2), 3);
        }
    }
}
