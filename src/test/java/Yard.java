/** The face of the class, so that a call can be made on a MonitorYard and on a second reading alike. */
interface Yard {
    int make(int kind, int size);

    int act(int t, int o, int act, int arg, int patience);

    int tick(int n);

    void interrupt(int t);

    int told(int t, int what);

    int object(int o, int what);

    int waiter(int o, int i);

    int stuck();

    int count(int what);

    /** A new MonitorYard. */
    static Yard ofClass() {
        MonitorYard yard = new MonitorYard();
        return new Yard() {
            @Override
            public int make(int kind, int size) {
                return yard.make(kind, size);
            }

            @Override
            public int act(int t, int o, int act, int arg, int patience) {
                return yard.act(t, o, act, arg, patience);
            }

            @Override
            public int tick(int n) {
                return yard.tick(n);
            }

            @Override
            public void interrupt(int t) {
                yard.interrupt(t);
            }

            @Override
            public int told(int t, int what) {
                return yard.told(t, what);
            }

            @Override
            public int object(int o, int what) {
                return yard.object(o, what);
            }

            @Override
            public int waiter(int o, int i) {
                return yard.waiter(o, i);
            }

            @Override
            public int stuck() {
                return yard.stuck();
            }

            @Override
            public int count(int what) {
                return yard.count(what);
            }
        };
    }
}
