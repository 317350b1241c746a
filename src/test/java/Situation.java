/** States of a desk in which a refused or failing call is tried, as the calls that lead there. */
enum Situation {
    NEW {
        @Override
        void fill(Desk x) {
        }
    },
    BUSY {
        /** Kind 0 has 1 and 3 here, 2 dropped; kind 1 has 1; three values; calls 0 .. 3 and 9 have acts. */
        @Override
        void fill(Desk x) {
            x.make(0, 3);
            x.drop(0, 2);
            x.make(1);
            x.collect(50, 3);
            x.wants(0, 0);
            x.act(0, 2, 2);
            x.act(0, 4, 2);
            x.act(1, 0, 6);
            x.act(1, 5, 6);
            x.act(2, 3, 7);
            x.wants(3, 1);
            x.act(3, 6, 5);
            x.act(9, 1, 0);
            x.fails(1, 1, 4);
            x.fails(9, 2, 5);
            x.call(0, 1, 7);
            x.call(0, 2, 7);
            x.fails(2, 0, 3);
            x.call(2, -6, 7);
        }
    },
    FULL {
        /** Kind 5 has all its 40 but 39 and 2, which are dropped; THE ROW has 20; call 4 has 6 acts. */
        @Override
        void fill(Desk x) {
            x.make(5, 40);
            x.drop(5, 39);
            x.drop(5, 2);
            x.collect(-10, 20);
            x.wants(4, 5);
            for (int i = 0; i < 6; i++) {
                x.act(4, 2 + i % 4, 5);
            }
            x.fails(4, 5, 2);
            x.act(8, 0, 5);
            x.call(8, 40, 0);
        }
    };

    abstract void fill(Desk x);

    Desk desk() {
        Desk x = new Desk();
        fill(x);
        return x;
    }
}
