/** Promises 1 to 10: samples and their text. */
final class SamplesTest {
    public static void main(String[] args) {
        promise1NewObject();
        promise2SetMass();
        promise3Mass();
        promise4Reserve();
        promise5Split();
        promise6SplitTo();
        promise7Combine();
        promise8AppendCharacter();
        promise9ClearText();
        promise10Load();
        promise10LoadErrors();
        Due.close();
    }

    private static void promise1NewObject() {
        SieveBench x = new SieveBench();
        Due.is("sample", 0, x.mass(-1));
        Due.is("reserve", 0, x.reserve(-1));
        int[] counts = {0, 500, 20, 2, 5, 0, 0, 0, 0, 0};
        for (int what = 0; what < counts.length; what++) {
            Due.is("new count " + what, counts[what], x.count(what));
        }
        int[] pan = {0, 0, 0, 0, 1000};
        for (int what = 0; what < pan.length; what++) {
            Due.is("new pan " + what, pan[what], x.tray(0, what));
        }
        Due.is("no other tray", -1, x.tray(1, 0));
        Due.is("no analysis", -2, x.loss());
        Due.is("nothing to undo", -2, x.undo());
        for (int aperture = 1; aperture <= 9; aperture++) {
            Due.is("band " + aperture + " is 0 to 1000 at first", 0, x.setBand(aperture, 0, 1000));
        }
        Due.is("rules at first", 0, x.setRules(500, 20, 2, 5));
        SieveBench other = new SieveBench();
        other.setMass(0, 5);
        Due.is("objects are apart", 0, x.mass(0));
    }

    private static void promise2SetMass() {
        SieveBench x = new SieveBench();
        Due.is("first", 0, x.setMass(0, 9999));
        Due.is("previous", 9999, x.setMass(0, 3));
        Due.is("previous again", 3, x.setMass(0, 0));
        Due.is("last class", 0, x.setMass(9, 7));
        Due.is("kept", 7, x.mass(9));
        Due.is("size -1", -1, x.setMass(-1, 1));
        Due.is("size 10", -1, x.setMass(10, 1));
        Due.is("mass -1", -1, x.setMass(9, -1));
        Due.is("mass 10000", -1, x.setMass(9, 10000));
        Due.is("lowest size", -1, x.setMass(Integer.MIN_VALUE, 1));
        Due.is("highest mass", -1, x.setMass(0, Integer.MAX_VALUE));
        Due.is("errors change nothing", 7, x.mass(9));
        Due.is("errors save nothing", 4, x.count(9));
        Due.is("the same mass succeeds", 7, x.setMass(9, 7));
        Due.is("and is saved", 5, x.count(9));
    }

    private static void promise3Mass() {
        SieveBench x = new SieveBench();
        for (int size = 0; size <= 9; size++) {
            x.setMass(size, 9990 + size);
        }
        for (int size = 0; size <= 9; size++) {
            Due.is("mass " + size, 9990 + size, x.mass(size));
        }
        Due.is("sum", 99945, x.mass(-1));
        Due.is("size -2", -1, x.mass(-2));
        Due.is("size 10", -1, x.mass(10));
        Due.is("mass() saves nothing", 6, x.count(9));
    }

    private static void promise4Reserve() {
        SieveBench x = new SieveBench();
        x.setMass(0, 9999);
        x.setMass(9, 1);
        x.split(1);
        Due.is("left part of 0", 5000, x.reserve(0));
        Due.is("left part of 9", 0, x.reserve(9));
        x.setMass(0, 9999);
        x.split(1);
        x.setMass(0, 9999);
        x.split(1);
        Due.is("no upper bound", 15000, x.reserve(0));
        Due.is("the right part went by", 1, x.mass(9) + x.reserve(9));
        Due.is("sum", 15000 + x.reserve(9), x.reserve(-1));
        Due.is("size -2", -1, x.reserve(-2));
        Due.is("size 10", -1, x.reserve(10));
    }

    private static void promise5Split() {
        SieveBench x = new SieveBench();
        Due.is("no mass", -2, x.split(0));
        Due.is("part first", -1, x.split(2));
        Due.is("part -1", -1, x.split(-1));
        Due.is("nothing saved", 0, x.count(9));
        x.setMass(1, 5);
        x.setMass(3, 8);
        x.setMass(4, 7);
        x.setMass(9, 1);
        Due.is("left stays", 11, x.split(0));
        int[] left = {0, 3, 0, 4, 3, 0, 0, 0, 0, 1};
        int[] right = {0, 2, 0, 4, 4, 0, 0, 0, 0, 0};
        for (int size = 0; size <= 9; size++) {
            Due.is("left " + size, left[size], x.mass(size));
            Due.is("right " + size, right[size], x.reserve(size));
        }
        // Odd are 3 (left 2), 3 (left 1) and 1 (left 1): each splitting begins with the left.
        Due.is("right stays", 5, x.split(1));
        Due.is("right of 1", 1, x.mass(1));
        Due.is("right of 4", 2, x.mass(4));
        Due.is("right of 9", 0, x.mass(9));
        Due.is("reserve adds up 1", 4, x.reserve(1));
        Due.is("reserve adds up 4", 5, x.reserve(4));
        Due.is("reserve adds up 9", 1, x.reserve(9));
        SieveBench one = new SieveBench();
        one.setMass(5, 1);
        Due.is("right of a single unit", 0, one.split(1));
        Due.is("now it has no mass", -2, one.split(1));
    }

    private static void promise6SplitTo() {
        SieveBench x = new SieveBench();
        Due.is("empty", 0, x.splitTo(1));
        Due.is("which is a success", 1, x.count(9));
        Due.is("most 0", -1, x.splitTo(0));
        Due.is("most 10000", -1, x.splitTo(10000));
        Due.is("most negative", -1, x.splitTo(Integer.MIN_VALUE));
        for (int size = 0; size <= 9; size++) {
            x.setMass(size, 9999);
        }
        // 99990 goes to 49995, 24998, 12499, 6250: an odd sum leaves the larger part left.
        Due.is("to 9999", 4, x.splitTo(9999));
        Due.is("left", 6250, x.mass(-1));
        Due.is("reserve", 93740, x.reserve(-1));
        Due.is("equal is enough", 0, x.splitTo(6250));
        Due.is("one less is not", 1, x.splitTo(6249));
        Due.is("half", 3125, x.mass(-1));
        // 3125, 1563, 782, 391, 196, 98, 49, 25, 13, 7, 4, 2, 1
        Due.is("to 1", 12, x.splitTo(1));
        Due.is("one unit", 1, x.mass(-1));
        Due.is("one undo for all splittings", 5, x.undo());
        Due.is("back", 3125, x.mass(-1));
    }

    private static void promise7Combine() {
        SieveBench x = new SieveBench();
        Due.is("nothing", 0, x.combine());
        Due.is("a success", 1, x.count(9));
        x.setMass(2, 9999);
        x.setMass(7, 3);
        x.split(0);
        Due.is("back together", 10002, x.combine());
        Due.is("mass", 9999, x.mass(2));
        Due.is("reserve empty", 0, x.reserve(-1));
        x.split(0);
        x.setMass(2, 5001);
        int before = x.count(9);
        Due.is("10000 is too much", -3, x.combine());
        Due.is("nothing moved", 5001, x.mass(2));
        Due.is("nothing moved in another class", 1, x.mass(7));
        Due.is("nor from the reserve", 4999, x.reserve(2));
        Due.is("nor saved", before, x.count(9));
        x.setMass(2, 5000);
        Due.is("9999 is not", 10002, x.combine());
        for (int size = 0; size <= 9; size++) {
            SieveBench one = new SieveBench();
            one.setMass(size, 9999);
            one.split(1);
            Due.is("class " + size + " comes back", 9999, one.combine());
            Due.is("whole " + size, 9999, one.mass(size));
            Due.is("and leaves the reserve " + size, 0, one.reserve(size));
            one.split(1);
            one.setMass(size, 5000);
            Due.is("class " + size + " has no room", -3, one.combine());
        }
    }

    private static void promise8AppendCharacter() {
        SieveBench x = new SieveBench();
        Due.is("-1", -1, x.appendCharacter(-1));
        Due.is("256", -1, x.appendCharacter(256));
        Due.is("65585 is no digit", -1, x.appendCharacter(65536 + '1'));
        Due.is("0", 1, x.appendCharacter(0));
        Due.is("255", 2, x.appendCharacter(255));
        for (int length = 3; length <= 80; length++) {
            Due.is("length", length, x.appendCharacter(' '));
        }
        Due.is("the 81st", -3, x.appendCharacter(' '));
        Due.is("argument first", -1, x.appendCharacter(256));
        Due.is("length stays", 80, x.count(8));
        Due.is("no state is saved", 0, x.count(9));
    }

    private static void promise9ClearText() {
        SieveBench x = new SieveBench();
        Due.is("empty", 0, x.clearText());
        Due.type(x, "1:2");
        Due.is("previous", 3, x.clearText());
        Due.is("empty then", 0, x.count(8));
        Due.is("again", 0, x.clearText());
        Due.type(x, "3:4");
        Due.is("the old text is gone", 4, x.load());
        Due.is("only load was saved", 1, x.count(9));
    }

    private static void promise10Load() {
        SieveBench x = new SieveBench();
        x.setMass(4, 10);
        x.split(0);
        Due.is("pairs", 1307, Due.load(x, "0:100,3:501,5:7,9:699"));
        Due.is("named", 501, x.mass(3));
        Due.is("not named", 0, x.mass(4));
        Due.is("the reserve stays", 5, x.reserve(4));
        Due.is("the text is empty", 0, x.count(8));
        Due.is("spaces", 13, Due.load(x, "  2 :  4 ,  1:9   "));
        Due.is("spaced", 9, x.mass(1));
        Due.is("single zero", 0, Due.load(x, "7:0"));
        Due.is("zeros within", 1000, Due.load(x, "7:1000"));
        Due.is("only spaces", 0, Due.load(x, "   "));
        Due.is("empty sample then", 0, x.mass(7));
        Due.is("ten pairs", 45, Due.load(x, "9:9,8:8,7:7,6:6,5:5,4:4,3:3,2:2,1:1,0:0"));
        Due.is("most", 69993, Due.load(x, "0:9999,1:9999,2:9999,3:9999,4:9999,5:9999,6:9999                                "));
        x.setMass(0, 1);
        Due.type(x, "5:5");
        int before = x.count(9);
        Due.is("undo does not bring the text", before - 1, x.undo());
        Due.is("nor take it", 3, x.count(8));
        Due.is("which can be read still", 5, x.load());
        SieveBench empty = new SieveBench();
        Due.is("empty text", 0, empty.load());
        Due.is("is a success", 1, empty.count(9));
    }

    private static void promise10LoadErrors() {
        error("1:05", 2);
        error("1:00", 2);
        error("1:0000000", 2);
        error("1: 05", 3);
        error("1:10000", 2);
        error("1:12345678901234567890", 2);
        error("1:10000x", 2);
        error("1:1000x", 6);
        error("1:5,1:6", 4);
        error("1:5,1", 4);
        error("1:5,1x", 4);
        error("1:5, 2:3 , 1:6", 11);
        error("1:5,", 4);
        error("1:5, ", 5);
        error("1:5,,2:3", 4);
        error(",1:5", 0);
        error(" ,", 1);
        error("1 5", 2);
        error("12:5", 1);
        error("1", 1);
        error("1 ", 2);
        error("1:", 2);
        error("1:  ", 4);
        error("1:,", 2);
        error("1:5 5", 4);
        error("1:5;2:3", 3);
        error("1:5:", 3);
        error("1:-5", 2);
        error("x", 0);
        error("-1:5", 0);
        error("1\t:5", 1);
        error("/:5", 0);
        error("::5", 0);
        error("1:/", 2);
        error("1:5" + (char) 160, 3);
        error("1:5" + (char) 0, 3);
        error("9:9,8:8,7:7,6:6,5:5,4:4,3:3,2:2,1:1,0:0,", 40);
        error("9:9,8:8,7:7,6:6,5:5,4:4,3:3,2:2,1:1,0:0,3:3", 40);
        error("9:9,8:8,7:7,6:6,5:5,4:4,3:3,2:2,1:1,0:0, ", 41);
        error("9:9,8:8,7:7,6:6,5:5,4:4,3:3,2:2,1:1,0:0,  3:3", 42);
        error("9:9,8:8,7:7,6:6,5:5,4:4,3:3,2:2,1:1,0:0 ,  x", 43);
        error(" ".repeat(79) + "1", 80);
        error(" ".repeat(79) + "x", 79);
        error(" ".repeat(78) + "1:", 80);
        error(" ".repeat(76) + "1:5,", 80);
        afterLonger("1:5,2:3", "1:5,", 4);
        afterLonger("1:5", "1:", 2);
        afterLonger("1:5", "1", 1);
    }

    /** What stood in a longer text before must not be read. */
    private static void afterLonger(String longer, String text, int position) {
        SieveBench x = new SieveBench();
        Due.load(x, longer);
        Due.is("load of '" + text + "' after '" + longer + "'", -10 - position, Due.load(x, text));
        x.clearText();
        Due.type(x, longer);
        Due.is("load of '" + text + "' after clearing", -10 - position, Due.load(x, text));
    }

    private static void error(String text, int position) {
        SieveBench x = new SieveBench();
        x.setMass(1, 77);
        Due.is("load of '" + text + "'", -10 - position, Due.load(x, text));
        Due.is("the text is kept", text.length(), x.count(8));
        Due.is("the sample stays", 77, x.mass(-1));
        Due.is("nothing is saved", 1, x.count(9));
        Due.is("the error stands still", -10 - position, x.load());
    }
}
