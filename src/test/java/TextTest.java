/** Promises 6 to 8: feed, trial, fault. */
public final class TextTest {
    private static final Check c = new Check("texts");

    public static void main(String[] args) {
        bytesAreFed();
        textsAreRead();
        faultsOfTheFirstSort();
        faultsOfTheSecondSort();
        faultsOfTheThirdSort();
        aFaultLeavesAll();
        aNewTrialStandsInPlace();
        c.end();
    }

    private static void bytesAreFed() {
        GuildPiece x = new GuildPiece();
        c.due("feed(-1)", x.feed(-1), Check.BAD);
        c.due("feed(256)", x.feed(256), Check.BAD);
        for (int i = 1; i <= 120; i++) {
            c.due("feed, the " + i + "th", x.feed(i % 256), i);
        }
        c.due("the tape is full", x.feed(0), Check.FULL);
        c.due("BAD is ahead of FULL", x.feed(256), Check.BAD);
        c.due("bytes on the tape", x.count(7), 120);
        c.due("its first byte is none", x.trial(), -1000100);
        c.due("the tape is empty then", x.count(7), 0);
        c.due("feed(255)", x.feed(255), 1);
    }

    private static void reads(String text, int want) {
        GuildPiece x = new GuildPiece();
        c.due("trial of " + text, Check.tell(x, text), want);
        c.due("fault of " + text, x.fault(), 0);
    }

    private static void faults(String text, int place, int number) {
        GuildPiece x = new GuildPiece();
        c.due("trial of " + text, Check.tell(x, text), -1000100 - place);
        c.due("fault of " + text, x.fault(), number);
        c.due("no trial by " + text, x.stand(0), Check.STATE);
    }

    private static void textsAreRead() {
        reads("g0,0,0;j0,1,7;", 1);
        reads("g00,07,99;j00,01,07;", 1);
        reads("g20,60,99;j20,20,7;c0,1,0;h1,1,1;w1,1,2;b1,1,3;j1,1,4;c1,1,5;", 7);
        reads("g20,60,99;j20,20,7;e20,7,50;e0,0,1;e1,1,1;e1,1,1;e1,1,1;", 1);
        String longest = "g20,60,99;" + "c20,20,7;".repeat(7) + "e20,7,50;".repeat(5);
        c.due("the longest but for zeros ahead", longest.length(), 118);
        reads(longest, 7);
        GuildPiece x = Check.told("g3,4,5;c6,7,7;b8,9,0;e10,2,11;e12,3,13;");
        int[] sums = {x.stand(0), x.stand(1), x.stand(2), x.part(0, 0), x.part(0, 1), x.part(0, 2), x.part(1, 0),
            x.part(1, 1), x.part(1, 2), x.elder(0, 0), x.elder(0, 1), x.elder(0, 2), x.elder(1, 0), x.elder(1, 1),
            x.elder(1, 2), x.kind(0), x.kind(1)};
        int[] want = {3, 4, 5, 6, 7, Check.NONE, 8, 9, 0, 10, 2, 11, 12, 3, 13, 2, 5};
        for (int i = 0; i < want.length; i++) {
            c.due("what was told, " + i, sums[i], want[i]);
        }
    }

    private static void faultsOfTheFirstSort() {
        faults("", 0, 1);
        faults("j", 0, 1);
        faults("G0,0,0;", 0, 1);
        faults("g", 1, 1);
        faults("gg", 1, 1);
        faults("g,", 1, 1);
        faults("g123,0,0;", 1, 1);
        faults("g1234,0,0;", 1, 1);
        faults("g0;0,0;", 2, 1);
        faults("g0,,0;", 3, 1);
        faults("g0,0", 4, 1);
        faults("g0,0,0", 6, 1);
        faults("g0,0,0,", 6, 1);
        faults("g0,0,0;", 7, 1);
        faults("g0,0,0;e0,0,1;", 7, 1);
        faults("g0,0,0;g0,0,0;", 7, 1);
        faults("g0,0,0;q", 7, 1);
        faults("g0,0,0; j0,1,7;", 7, 1);
        faults("g0,0,0;100", 7, 1);
        faults("g0,0,0;j0,1,7", 13, 1);
        faults("g0,0,0;j0,1,777;", 12, 1);
        faults("g0,0,0;j0,1,7;;", 14, 1);
        faults("g0,0,0;j0,1,7;q", 14, 1);
        faults("g0,0,0;j0,1,7;e0,0,1;j0,1,7;", 21, 1);
        faults("g0,0,0;j0,1,7;e0,0,1;c", 21, 1);
        faults("g0,0,0;j0,1,7;e0,0,1", 20, 1);
        faults("g0,0,0;j0,1,7;e", 15, 1);
        faults("g0,0,0;j-1,1,7;", 8, 1);
    }

    private static void faultsOfTheSecondSort() {
        faults("g21,0,0;j0,1,7;", 1, 2);
        faults("g20,61,0;j0,1,7;", 4, 2);
        faults("g21", 1, 2);
        faults("g0,0,0;j21,1,7;", 8, 2);
        faults("g0,0,0;j0,0,7;", 10, 2);
        faults("g0,0,0;j0,21,7;", 10, 2);
        faults("g0,0,0;j0,1,0;", 12, 2);
        faults("g0,0,0;j0,1,8;", 12, 2);
        faults("g0,0,0;j0,1,10;", 12, 2);
        faults("g0,0,0;j0,1,7;j0,1,1;", 19, 2);
        faults("g0,0,0;j0,1,7;j0,1,6;", 19, 2);
        faults("g0,0,0;j0,1,7;j0,1,0;j0,1,2;", 26, 2);
        faults("g0,0,0;j0,1,7;e21,0,1;", 15, 2);
        faults("g0,0,0;j0,1,7;e0,8,1;", 17, 2);
        faults("g0,0,0;j0,1,7;e0,0,0;", 19, 2);
        faults("g0,0,0;j0,1,7;e0,0,51;", 19, 2);
        faults("g0,0,0;j0,1,7;e0,0,51", 19, 2);
    }

    private static void faultsOfTheThirdSort() {
        String seven = "g0,0,0;" + "j0,1,7;".repeat(7);
        String five = "e0,0,1;".repeat(5);
        faults(seven + "j", 56, 3);
        faults(seven + "b0,1,7;", 56, 3);
        faults(seven + "x", 56, 1);
        faults("g0,0,0;j0,1,7;" + five + "e", 49, 3);
        faults("g0,0,0;j0,1,7;" + five + "e0,0,1;", 49, 3);
        faults(seven + "e0,0,1;j", 63, 1);
        faults(seven + five + "j", 91, 1);
    }

    private static void aFaultLeavesAll() {
        GuildPiece x = Check.told("g9,30,40;j0,2,7;j0,3,7;e0,0,1;");
        x.make(0);
        c.due("no fault yet", x.fault(), 0);
        c.due("a fault at the second part", Check.tell(x, "g1,1,1;j0,1,7;j0,1,5;"), -1000119);
        c.due("parts stay", x.count(1), 2);
        c.due("what was made stays", x.count(3), 1);
        c.due("days stay", x.count(4), 28);
        c.due("acts stay", x.count(6), 1);
        c.due("its number", x.fault(), 2);
        c.due("a text without one", Check.tell(x, "g1,1,1;j0,1,7;"), 1);
        c.due("the latest number is kept", x.fault(), 2);
        c.due("the next fault", Check.tell(x, "?"), -1000100);
        c.due("the next number", x.fault(), 1);
    }

    private static void aNewTrialStandsInPlace() {
        GuildPiece x = Check.told("g0,30,40;j1,2,7;j0,3,7;e0,0,1;");
        x.make(0);
        x.feast(0);
        c.due("a new trial", Check.tell(x, "g1,2,3;w4,5,7;e6,7,8;e9,1,2;"), 1);
        c.due("nothing is made", x.stand(3), 0);
        c.due("nothing has a fault", x.stand(4), 0);
        c.due("nobody is feasted", x.elder(0, 3), 0);
        c.due("no act can be undone", x.undo(), Check.STATE);
        c.due("its elders", x.count(2), 2);
        c.due("its days", x.count(4), 2);
        c.due("its money", x.count(5), 3);
        c.due("its kind", x.kind(0), 4);
    }
}
