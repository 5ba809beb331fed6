/** Mines that several tests begin with. */
final class Scenes {
    private Scenes() {
    }

    static MineHoist empty() {
        return new MineHoist();
    }

    /** Two levels with gas. */
    static MineHoist gassy() {
        MineHoist x = new MineHoist();
        x.addLevel(100, 100, 3, 2);
        x.addLevel(250, 50, 1, 5);
        return x;
    }

    /** Three levels without gas, and 40 people on the surface. */
    static MineHoist quiet() {
        MineHoist x = new MineHoist();
        x.addLevel(100, 100, 3, 0);
        x.addLevel(250, 100, 2, 0);
        x.addLevel(310, 100, 1, 0);
        x.hire(40);
        return x;
    }

    static MineHoist six() {
        MineHoist x = new MineHoist();
        for (int level = 1; level <= 6; level++) {
            x.addLevel(level * 100, 100, level, level);
        }
        return x;
    }

    /** The quiet mine, with 12 people in the cage on the way to level 2, after a minute. */
    static MineHoist goingDown() {
        MineHoist x = quiet();
        x.sendDown(2, 12);
        x.pass(1);
        return x;
    }

    /** The quiet mine with 10 people on level 2, the cage there too, after 4 minutes. */
    static MineHoist peopleBelow() {
        MineHoist x = quiet();
        x.sendDown(2, 10);
        x.pass(4);
        return x;
    }

    /** The quiet mine with a blast of 10 on level 1, and the alarm limit above its gas. */
    static MineHoist blasted() {
        MineHoist x = quiet();
        x.setLimit(1000);
        x.blast(1, 10);
        return x;
    }

    /** The quiet mine with as many people as there may be. */
    static MineHoist full() {
        MineHoist x = quiet();
        x.hire(99);
        x.hire(61);
        return x;
    }

    /** The quiet mine with 8 requests that wait, all of them down to level 1. */
    static MineHoist crowded() {
        MineHoist x = quiet();
        for (int i = 0; i < 8; i++) {
            x.sendDown(1, 1);
        }
        return x;
    }

    /** A gassy mine at a certain clock. */
    static MineHoist late(int clock) {
        MineHoist x = gassy();
        while (x.clock() < clock) {
            x.pass(Math.min(60, clock - x.clock()));
        }
        return x;
    }

    /** 12 people and the cage on a level of 50 metres that has an alarm from the third minute on, after two. */
    static MineHoist alarmed() {
        MineHoist x = new MineHoist();
        x.addLevel(50, 10, 1, 1);
        x.hire(30);
        x.setLimit(300);
        x.setFan(0);
        x.sendDown(1, 12);
        x.sendDown(1, 12);
        x.pass(2);
        return x;
    }
}
