/** Promise 30: undo, and which calls save a state. */
final class UndoTest {
    public static void main(String[] args) {
        promise30Ring();
        promise30EachCall();
        promise30Errors();
        promise30Text();
        seventhSavedState();
        Due.close();
    }

    private static void promise30Ring() {
        SieveBench x = new SieveBench();
        Due.is("none", -2, x.undo());
        for (int mass = 1; mass <= 9; mass++) {
            x.setMass(0, mass);
            Due.is("saved", Math.min(mass, 6), x.count(9));
        }
        for (int left = 5; left >= 0; left--) {
            Due.is("still saved", left, x.undo());
            Due.is("restored", left + 3, x.mass(0));
            Due.is("counted", left, x.count(9));
        }
        Due.is("the oldest are gone", -2, x.undo());
        Due.is("nothing changes", 3, x.mass(0));
        x.setMass(0, 50);
        x.setMass(0, 51);
        x.undo();
        x.setMass(0, 52);
        Due.is("two", 2, x.count(9));
        x.undo();
        Due.is("undone ones do not come back", 50, x.mass(0));
        x.undo();
        Due.is("before all", 3, x.mass(0));
        Due.is("empty again", -2, x.undo());
    }

    private static SieveBench ready() {
        SieveBench x = new SieveBench();
        Due.load(x, "0:1001,2:1001,4:1001");
        x.split(0);
        x.addSieve(4);
        x.addSieve(2);
        x.charge();
        x.setMass(3, 31);
        x.shake(4);
        x.collect(2);
        // Two undone calls leave room, so that the count tells whether a state was saved.
        x.setMass(0, 9);
        x.setMass(0, 8);
        x.undo();
        x.undo();
        Due.type(x, "7:7");
        return x;
    }

    private static int call(SieveBench x, int number) {
        switch (number) {
            case 0: return x.setMass(0, 5);
            case 1: return x.load();
            case 2: return x.split(0);
            case 3: return x.splitTo(1);
            case 4: return x.combine();
            case 5: return x.addSieve(7);
            case 6: return x.removeSieve(4);
            case 7: return x.setRules(1, 2, 3, 4);
            case 8: return x.setBand(2, 3, 4);
            case 9: return x.charge();
            case 10: return x.shake(1);
            case 11: return x.collect(0);
            default: return x.brush(1, 1);
        }
    }

    private static void promise30EachCall() {
        for (int number = 0; number <= 12; number++) {
            SieveBench x = ready();
            String before = Due.picture(x);
            int saved = x.count(9);
            Due.holds("call " + number + " succeeds", call(x, number) >= 0);
            Due.is("call " + number + " saves", saved + 1, x.count(9));
            Due.holds("call " + number + " changes", !before.equals(Due.picture(x)) || number == 8);
            Due.is("call " + number + " is undone", saved, x.undo());
            Due.holds("call " + number + " restores", before.equals(Due.picture(x)));
        }
        SieveBench full = new SieveBench();
        Due.load(full, "0:1000,3:1000");
        for (int aperture = 1; aperture <= 6; aperture++) {
            full.addSieve(aperture);
        }
        full.charge();
        full.shake(20);
        String whole = Due.picture(full);
        Due.holds("the pan below six sieves", full.collect(6) > 0);
        full.undo();
        Due.holds("comes back too", whole.equals(Due.picture(full)));
        full.collect(6);
        full.removeSieve(1);
        full.addSieve(1);
        Due.is("or is thrown away", 0, full.tray(6, 3));
        SieveBench band = ready();
        band.setBand(2, 3, 4);
        band.undo();
        Due.is("bands come back", 0, band.setBand(2, 0, 1000));
    }

    private static void promise30Errors() {
        SieveBench x = ready();
        String before = Due.picture(x);
        int saved = x.count(9);
        x.setMass(10, 0);
        x.split(2);
        x.splitTo(0);
        x.appendCharacter('x');
        x.load();
        x.addSieve(4);
        x.removeSieve(9);
        x.setRules(0, 0, 0, 0);
        x.setBand(0, 0, 0);
        x.shake(0);
        x.collect(3);
        x.brush(2, 0);
        x.minutesTo(1);
        x.dustIn(1);
        Due.is("errors and questions save nothing", saved, x.count(9));
        Due.holds("nor change", before.equals(Due.picture(x)));
    }

    private static void promise30Text() {
        SieveBench x = new SieveBench();
        x.setMass(0, 1);
        Due.type(x, "5:5");
        x.setMass(0, 2);
        x.appendCharacter('0');
        x.undo();
        Due.is("the text stays", 4, x.count(8));
        Due.is("loaded", 50, x.load());
        x.undo();
        Due.is("the text does not come back", 0, x.count(8));
        Due.is("the sample does", 1, x.mass(-1));
    }

    private static void seventhSavedState() {
        SieveBench x = new SieveBench();
        for (int round = 0; round < 5; round++) {
            for (int mass = 1; mass <= 7 + round; mass++) {
                x.setMass(5, 100 * round + mass);
            }
            Due.is("six are saved", 6, x.count(9));
            for (int back = 1; back <= 6; back++) {
                Due.is("left", 6 - back, x.undo());
                Due.is("restored", 100 * round + 7 + round - back, x.mass(5));
            }
            Due.is("the seventh had taken the place of the oldest", -2, x.undo());
        }
        SieveBench six = new SieveBench();
        for (int mass = 1; mass <= 6; mass++) {
            six.setMass(5, mass);
        }
        for (int back = 5; back >= 0; back--) {
            Due.is("six keep the first", back, six.undo());
        }
        Due.is("which is the empty sample", 0, six.mass(5));
        Due.is("undo saves nothing", -2, six.undo());
    }
}
