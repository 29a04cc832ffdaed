/** Promises 4 and 5 with the terms' part I: which texts are taken, and the fault of the others. */
public final class FaultTest {
    private static final Check CHECK = new Check();
    private static final String EVENT = "event run base 9 line 1 by 1;";
    private static final String EIGHT = "1:1,2:2,3:3,4:4,5:5,6:6,7:7,8:8";

    public static void main(String[] args) {
        takenTexts();
        misplaced();
        theEnd();
        outOfBounds();
        tieAgain();
        tooMany();
        ofOneByteTheLeastNumber();
        CHECK.end("FaultTest");
    }

    private static void takes(int lines, String text) {
        TenTrials x = new TenTrials();
        CHECK.due(text, lines, Check.tell(x, text));
        CHECK.due("fault of " + text, 0, x.fault(0));
        CHECK.due("place of " + text, -1, x.fault(1));
    }

    /** The fault's place is marked by @ in the text. */
    private static void refuses(int kind, String marked) {
        TenTrials x = new TenTrials();
        int place = marked.indexOf('@');
        CHECK.due(marked, -4, Check.tell(x, marked.substring(0, place) + marked.substring(place + 1)));
        CHECK.due("fault of " + marked, kind, x.fault(0));
        CHECK.due("place of " + marked, place, x.fault(1));
    }

    private static void takenTexts() {
        takes(0, "");
        takes(0, " \n");
        takes(1, "\nathlete\n;\n");
        takes(1, "event run base 0 line 1 by 1;");
        takes(1, "event field base 99999 line 9999 by 99999 spread 0;");
        takes(1, "event field base 00005 square 9999 by 1 spread 999;");
        takes(1, "event run base 5 root 1 by 99999;");
        takes(1, "event run base 5 table 0:0;");
        takes(1, "event run base 5 table 0:2000,99999:2000 spread 3;");
        takes(1, "event run base 5 table " + EIGHT + ";");
        takes(1, "event run base5line1by1spread2;");
        takes(3, EVENT + "athlete;mark0 0 99999;");
        takes(4, EVENT + "athlete;gain 0 0 0 in 1;gain 0 0 99999 in 999;");
        takes(1, "bonus 1 when 0<99999;");
        takes(1, "bonus 500 when total>1 and done=2 or best<least+3-4 and not 1=1;");
        takes(2, EVENT + "bonus 5 when points 0 > 3;");
        takes(1, "bonus 5 when [[[[[[1=1]]]]]];");
        takes(1, "bonus 5 when ((((((1))))))=1;");
        takes(1, "bonus 5 when not[not[not(1)=(1)or 1=1]]and not not not not not not 1=1;");
        takes(1, "bonus 5 when 0000000000000000000000000000005 = 5;");
        takes(4, "bonus 1 when 1=1;bonus 1 when 1=1;bonus 1 when 1=1;bonus 1 when 1=1;");
        takes(8, "athlete;".repeat(8));
        takes(10, EVENT.repeat(10));
        takes(3, "athlete;tie none;athlete;");
    }

    private static void misplaced() {
        refuses(1, "@x");
        refuses(1, "@;");
        refuses(1, "@5;");
        refuses(1, "@#");
        refuses(1, "athlete@\t;");
        refuses(1, "athlete@\r;");
        refuses(1, "athlete;@\u00e9");
        refuses(1, "@Athlete;");
        refuses(1, "@athletes;");
        refuses(1, "athlete@5;");
        refuses(1, "athlete;@;");
        refuses(1, "event@;");
        refuses(1, "@eventrun base 5 line 1 by 1;");
        refuses(1, "event @walk base 5 line 1 by 1;");
        refuses(1, "event run @5 line 1 by 1;");
        refuses(1, "event run base @line 1 by 1;");
        refuses(1, "event run base @-5 line 1 by 1;");
        refuses(1, "event run base 5 @1 by 1;");
        refuses(1, "event run base 5 @curve 1;");
        refuses(1, "event run base 5 line @by 1;");
        refuses(1, "event run base 5 line 1 @1;");
        refuses(1, "event run base 5 line 1 by @;");
        refuses(1, "event run base 5 line 1 by 1 @5;");
        refuses(1, "event run base 5 line 1 by 1 spread@;");
        refuses(1, "event run base 5 @spread 3 line 1 by 1;");
        refuses(1, "event run base 5 table @: 4;");
        refuses(1, "event run base 5 table 1 @2;");
        refuses(1, "event run base 5 table 1 : @;");
        refuses(1, "event run base 5 table 1 : 2 @3 : 4;");
        refuses(1, "event run base 5 table 1 : 2, @;");
        refuses(1, "tie @all;");
        refuses(1, "tie@;");
        refuses(1, "tie best @wins;");
        refuses(1, "bonus @when 1=1;");
        refuses(1, "bonus 5 @if 1=1;");
        refuses(1, "bonus 5 when @;");
        refuses(1, "bonus 5 when 1@;");
        refuses(1, "bonus 5 when 1=@;");
        refuses(1, "bonus 5 when 1=1@=1;");
        refuses(1, "bonus 5 when @wins=1;");
        refuses(1, "bonus 5 when @-1=1;");
        refuses(1, "bonus 5 when 1+@+1=1;");
        refuses(1, "bonus 5 when (1@;");
        refuses(1, "bonus 5 when (1@=1);");
        refuses(1, "bonus 5 when [1=1@;");
        refuses(1, "bonus 5 when [1@]=1;");
        refuses(1, "bonus 5 when [1=1]@=1;");
        refuses(1, "bonus 5 when 1=1@];");
        refuses(1, "bonus 5 when 1=@not 1;");
        refuses(1, "bonus 5 when 1=1 or@;");
        refuses(1, "bonus 5 when 1=1 and @or 1=1;");
        refuses(1, "bonus 5 when not@;");
        refuses(1, EVENT + "bonus 5 when points @total=1;");
        refuses(1, EVENT + "athlete;mark @;");
        refuses(1, EVENT + "athlete;mark 0 @a;");
        refuses(1, EVENT + "athlete;mark 0 0@;");
        refuses(1, EVENT + "athlete;mark 0 0 5 @5;");
        refuses(1, EVENT + "athlete;gain 0 0 5 @by 5;");
        refuses(1, EVENT + "athlete;gain 0 0 5 in@;");
    }

    private static void theEnd() {
        refuses(1, "athlete@");
        refuses(1, "athlete  @");
        refuses(1, "athlete;athlete\n@");
        refuses(1, "event@");
        refuses(1, "event run base 5 table 1:1,@");
        refuses(1, "bonus 5 when not @");
        refuses(1, "bonus 5 when points @");
        refuses(1, "gain@");
    }

    private static void outOfBounds() {
        refuses(2, "event run base @100000 line 1 by 1;");
        refuses(2, "event run base @99999999999999999999999 line 1 by 1;");
        refuses(2, "event run base @4294967296 line 1 by 1;");
        refuses(2, "event run base 5 line @0 by 1;");
        refuses(2, "event run base 5 line @10000 by 1;");
        refuses(2, "event run base 5 square 1 by @0;");
        refuses(2, "event run base 5 root 1 by @100000;");
        refuses(2, "event run base 5 line 1 by 1 spread @1000;");
        refuses(2, "event run base 5 table @100000:1;");
        refuses(2, "event run base 5 table 1:@2001;");
        refuses(2, "event run base 5 table 5:1,@5:2;");
        refuses(2, "event run base 5 table 5:1,@4:2;");
        refuses(2, "event run base 5 table 5:9,6:@8;");
        refuses(2, "event run base 5 table 99999:9,@99999:9;");
        refuses(2, "bonus @0 when 1=1;");
        refuses(2, "bonus @501 when 1=1;");
        refuses(2, "bonus 5 when @100000=1;");
        refuses(2, "bonus 5 when points @0=1;");
        refuses(2, EVENT + "bonus 5 when points @1=1;");
        refuses(2, "bonus 5 when points @0=1;" + EVENT);
        refuses(2, "mark @0 0 1;");
        refuses(2, "athlete;mark 0 @0 1;");
        refuses(2, EVENT + "mark @0 0 1;athlete;");
        refuses(2, EVENT + "athlete;mark 0 @1 1;");
        refuses(2, EVENT + "athlete;mark @1 0 1;");
        refuses(2, EVENT + "athlete;mark 0 0 @100000;");
        refuses(2, EVENT + "athlete;gain 0 0 @100000 in 1;");
        refuses(2, EVENT + "athlete;gain 0 0 5 in @0;");
        refuses(2, EVENT + "athlete;gain 0 0 5 in @1000;");
        refuses(2, "mark @9 x");
    }

    private static void tieAgain() {
        refuses(3, "tie none;@tie best;");
        refuses(3, "tie best;athlete;@tie");
        refuses(1, "tie best @tie");
    }

    private static void tooMany() {
        refuses(4, EVENT.repeat(10) + "@event");
        refuses(4, "athlete;".repeat(8) + "@athlete");
        refuses(4, "bonus 5 when 1=1;".repeat(4) + "@bonus");
        refuses(4, "event run base 5 table " + EIGHT + ",@9");
        refuses(4, "bonus 5 when [[[[[[@[1=1]]]]]]];");
        refuses(4, "bonus 5 when ((((((@(1)))))))=1;");
        refuses(4, "bonus 5 when not not not not not not @not 1=1;");
        refuses(4, "bonus 5 when not [not [not [@not 1=1]]];");
        refuses(4, "bonus 5 when [not [not (1+(2-@(3)))=1]];");
        refuses(4, "bonus 5 when 1=1 and [1=(((((@(1))))))];");
        takes(1, "bonus 5 when [1=(((((1)))))] or [1=(((((1)))))];");
    }

    private static void ofOneByteTheLeastNumber() {
        refuses(2, "event run base 5 table " + EIGHT + ",@8:9;");
        refuses(2, "event run base 5 table " + EIGHT + ",@100000:9;");
        refuses(1, "event run base 5 table " + EIGHT + ",@x");
        refuses(1, "bonus 5 when ((((((@[1=1");
        refuses(1, "bonus 5 when [[[[[[@]");
    }
}
