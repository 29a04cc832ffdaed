/** The terms' part I: the FAULT of a TEXT that is not taken, and which one of several. */
public final class FaultTest {
    private static final Check CHECK = new Check();
    private static final String EVENT = "event run base 9 line 1 by 1;";
    private static final String EIGHT = "1:1,2:2,3:3,4:4,5:5,6:6,7:7,8:8";

    public static void main(String[] args) throws IllegalAccessException {
        CHECK.run(FaultTest.class);
    }

    /** The fault's place is marked by @ in the text. */
    private static void refuses(int kind, String marked) {
        TenTrials x = new TenTrials();
        int place = marked.indexOf('@');
        CHECK.due(marked, -4, Check.tell(x, marked.substring(0, place) + marked.substring(place + 1)));
        CHECK.due("fault of " + marked, kind, x.fault(0));
        CHECK.due("place of " + marked, place, x.fault(1));
    }

    @Sentence(of = "I", says = "1 a TOKEN that is none, or can't stand there.")
    private static void misplaced() {
        refuses(1, "@x");
        refuses(1, "@5;");
        refuses(1, "@#");
        refuses(1, "athlete@\t;");
        refuses(1, "athlete@\r;");
        refuses(1, "athlete;@\u00e9");
        refuses(1, "@Athlete;");
        refuses(1, "@athletes;");
        refuses(1, "athlete@5;");
        refuses(1, "event@;");
        refuses(1, "event run base @-5 line 1 by 1;");
        refuses(1, "event run base 5 @1 by 1;");
        refuses(1, "event run base 5 line 1 by 1 spread@;");
        refuses(1, "bonus 5 @if 1=1;");
        refuses(1, "bonus 5 when 1=@;");
        refuses(1, "bonus 5 when 1=1 or@;");
        refuses(1, EVENT + "athlete;mark @;");
        refuses(1, EVENT + "athlete;mark 0 @a;");
        refuses(1, EVENT + "athlete;gain 0 0 5 in@;");
        // Every word that is one elsewhere can't stand where a LINE begins.
        for (String word : new String[] {"run", "field", "base", "by", "spread", "line", "square", "root", "table", "none", "best",
            "wins", "when", "in", "or", "and", "not", "points", "total", "done", "least"}) {
            refuses(1, "athlete;@" + word);
            refuses(1, "tie best;@" + word + ";");
        }
    }

    @Sentence(of = "I", says = "(a TOKEN's; the end's)")
    private static void theEndsPlace() {
        refuses(1, "athlete@");
        refuses(1, "athlete  @");
        refuses(1, "athlete;athlete\n@");
        refuses(1, "event@");
        refuses(1, "event run base 5 table 1:1,@");
        refuses(1, "event run base 5 table " + EIGHT + ",@");
        refuses(1, "bonus 5 when not @");
        refuses(1, "bonus 5 when [[[[[[@");
        refuses(1, "bonus 5 when points @");
        refuses(1, "gain@");
        refuses(1, " ".repeat(1193) + "athlete@");
        refuses(1, "athlete" + " ".repeat(1193) + "@");
        TenTrials x = new TenTrials();
        Check.type(x, "athlete;athlete;");
        x.end(15);
        CHECK.due("a tape that was cut", -4, x.text());
        CHECK.due("its end", 15, x.fault(1));
    }

    @Sentence(of = "I", says = "2 a number out of its bounds (A, E not told ahead; a table's that does not rise, that falls).")
    private static void outOfBounds() {
        refuses(2, "event run base @100000 line 1 by 1;");
        refuses(2, "event run base @99999999999999999999999 line 1 by 1;");
        refuses(2, "event run base 5 line @0 by 1;");
        refuses(2, "event run base 5 square 1 by @0;");
        refuses(2, "event run base 5 line 1 by 1 spread @1000;");
        refuses(2, "event run base 5 table @100000:1;");
        refuses(2, "event run base 5 table 1:@2001;");
        refuses(2, "event run base 5 table 5:1,@5:2;");
        refuses(2, "event run base 5 table 5:1,@4:2;");
        refuses(2, "event run base 5 table 5:9,6:@8;");
        refuses(2, "bonus @0 when 1=1;");
        refuses(2, "bonus 5 when @100000=1;");
        refuses(2, EVENT + "bonus 5 when points @1=1;");
        refuses(2, EVENT + "mark @0 0 1;athlete;");
        refuses(2, EVENT + "athlete;mark 0 @1 1;");
        refuses(2, EVENT + "athlete;gain @1 0 5 in 1;");
        refuses(2, EVENT + "athlete;gain 0 0 5 in @0;");
    }

    @Sentence(of = "I", says = "3 tie told again, at the word.")
    private static void tieAgain() {
        refuses(3, "tie none;@tie best;");
        refuses(3, "tie none;@tie none;");
        refuses(3, "tie best;athlete;@tie");
        refuses(3, "tie best;@tie all;");
        refuses(3, "tie best; \n @tie;");
        refuses(1, "tie best @tie");
        refuses(1, "tie @tie best;");
    }

    @Sentence(of = "I", says = "4 an 11th event, a 9th athlete, a 5th bonus, at the word; a 9th two of a table, at its first number; a not, [, ( within six, at it.")
    private static void tooMany() {
        refuses(4, EVENT.repeat(10) + "@event");
        refuses(4, EVENT.repeat(10) + "@event walk;");
        refuses(4, EVENT.repeat(9) + "athlete;" + EVENT + "athlete; @" + EVENT);
        refuses(4, "athlete;".repeat(8) + "@athlete");
        refuses(4, "athlete;".repeat(8) + "@athlete 5;");
        refuses(4, "bonus 5 when 1=1;".repeat(4) + "@bonus");
        refuses(4, "bonus 5 when 1=1;".repeat(4) + "@bonus 0 when;");
        refuses(4, "event run base 5 table " + EIGHT + ",@9");
        refuses(4, "event run base 5 table " + EIGHT + ", @99999:0;");
        refuses(4, "event run base 5 table " + EIGHT + ",@9 9;");
        refuses(4, "bonus 5 when [[[[[[@[1=1]]]]]]];");
        refuses(4, "bonus 5 when [[[[[[@[");
        refuses(4, "bonus 5 when ((((((@(1)))))))=1;");
        refuses(4, "bonus 5 when not not not not not not @not 1=1;");
        refuses(4, "bonus 5 when not [not [not [@not 1=1]]];");
        refuses(4, "bonus 5 when [not [not (1+(2-@(3)))=1]];");
        refuses(4, "bonus 5 when 1=1 and [1=(((((@(1))))))];");
    }

    @Sentence(of = "I", says = "FAULTS, of several the one whose first byte (a TOKEN's; the end's) is least,")
    private static void ofSeveralTheFirst() {
        refuses(2, "bonus @0 if tie tie;");
        refuses(1, "bonus @x 0 when;");
        refuses(1, "bonus 5 @if 100000=1;");
        refuses(2, "mark @9 x");
        refuses(3, "tie best;@tie x;#");
        refuses(4, "athlete;".repeat(8) + "@athlete;tie best;tie best;");
        refuses(3, "tie best;" + "athlete;".repeat(8) + "@tie best;athlete;");
        refuses(2, "event run base @100000 table " + EIGHT + ",9:9;");
        refuses(2, "event run base 5 table 1:1,2:2,3:3,4:4,5:5,6:6,7:7,8:@1,9:9;");
        refuses(4, "bonus 5 when [[[[[[@[100000=1");
        refuses(2, "bonus 5 when [[[[[[@100000=1 and [1=1");
        refuses(1, "athlete @mark 9 9 9");
        // A TOKEN's place is its first byte, not its last one.
        refuses(1, "athlete;@athletesandmore #");
        refuses(2, "bonus @000000000000501 #");
    }

    @Sentence(of = "I", says = "of one byte the least number:")
    private static void ofOneByteTheLeastNumber() {
        refuses(2, "event run base 5 table " + EIGHT + ",@8:9;");
        refuses(2, "event run base 5 table " + EIGHT + ",@0:9;");
        refuses(2, "event run base 5 table " + EIGHT + ",@100000:9;");
        refuses(1, "event run base 5 table " + EIGHT + ",@x");
        refuses(1, "event run base 5 table " + EIGHT + ",@:9");
        refuses(1, "bonus 5 when ((((((@[1=1");
        refuses(1, "bonus 5 when ((((((@not");
        refuses(1, "bonus 5 when [[[[[[@]");
        refuses(1, "bonus 5 when [[[[[[@)");
        refuses(1, EVENT.repeat(10) + "athlete @event");
        refuses(1, "tie best;athlete @tie");
        refuses(1, "bonus 5 when 1=1;".repeat(4) + "athlete @bonus");
        refuses(1, "athlete;".repeat(7) + "athlete @athlete");
    }
}
