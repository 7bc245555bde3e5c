/** Quarters that several tests start from. */
final class Nights {
    static final int[] DX = {0, 1, 0, -1};
    static final int[] DY = {-1, 0, 1, 0};

    private Nights() {
    }

    /** Makes a cell what cell() shall tell of it: a house, or so many barricades. */
    static void put(LaneCrowds x, int at, int y, int there) {
        if (there < 0) {
            x.house(at, y);
        } else {
            x.block(at, y, there);
        }
    }

    /** A crowd that was scattered in this cell; the patrol has gone on to the right. */
    static LaneCrowds scattered(int at, int y) {
        LaneCrowds x = new LaneCrowds();
        x.gather(at, y, 1);
        x.patrol(at, y, 1, 1);
        x.pass(1);
        return x;
    }

    /** A column of houses with one gap. */
    static LaneCrowds wall(int column, int gap) {
        LaneCrowds x = new LaneCrowds();
        for (int y = 0; y < 9; y++) {
            if (y != gap) {
                x.house(column, y);
            }
        }
        return x;
    }
}
