/** Promise 5 and the terms of THE LAW: how long, how many, how deep, what holds at the edge, and where a text is wrong. */
final class LawEdges extends Bench {
  /**
   * Slot 0: client 0, begun at 1, RUNNING: it HAS LOOKED at three keys, HAS READ two of them, HAS WRITTEN one, and the
   * stamp is 2. Slot 1: client 1, that only reads, begun at 2. Neither has an edge, nor a retry.
   */
  private static Gate plain() {
    Gate x = of("client;client only");
    x.begin(0);
    x.begin(1);
    x.read(0, 0);
    x.read(0, 1);
    x.write(0, 2);
    x.read(0, 2);
    return x;
  }

  private static void holds(Gate x, int slot, String condition, boolean want) {
    law(x, "blame 5 if " + condition);
    due(x.slot(slot, 10), want ? 15 : 10, line() + ", BLAME of slot " + slot + " if " + condition);
  }

  @Says("A text that is empty, or blanks alone, has no LINE")
  static void noLine() {
    Gate x = new Gate();
    due(x.count(4), NONE);
    due(x.law(), 0);
    due(x.count(4), 0);
    due(law(x, "pay 1"), 1);
    due(x.count(4), 1);
    due(law(x, " ".repeat(400)), 0);
    due(x.count(4), 0);
    due(x.fault(), NONE);
    wrongLaw(x, ";", 0);
    due(x.count(4), 0);
  }

  @Says("THE LAW (a text, in place of the one before): LINE { ; LINE }, at most 12")
  static void twelveLines() {
    rightLaw("pay 1", 1);
    rightLaw(lines("pay 1", 11), 11);
    rightLaw(lines("pay 1", 12), 12);
    wrongLaw(lines("pay 1", 13), 72);
    wrongLaw(lines("pay 1", 12) + ";", 72);
    wrongLaw(lines("pay 1", 12) + ";  ", 74);
    wrongLaw(lines("pay 1", 12) + ";  foo", 74);
    wrongLaw(lines("pay 1", 12) + ";  pay 99", 74);
    Gate x = of("client", lines("blame 40", 12));
    x.begin(0);
    due(x.slot(0, 10), 490);
    law(x, lines("pay 40", 12));
    due(x.slot(0, 10), 10);
    due(x.slot(0, 11), 481);
    law(x, "spare 1");
    due(x.slot(0, 10), 9);
    due(x.slot(0, 11), 1);
    // As often as it is told; texts of the store count apart.
    for (int i = 0; i < 14; i++) due(law(x, "pay " + i), 1);
    due(x.slot(0, 11), 14);
    due(x.count(3), 1);
  }

  @Says("All numbers are of 1 to 3 digits (N 0 to 40)")
  static void numbers() {
    for (String kind : new String[] {"blame", "spare", "pay"}) {
      int at = kind.length() + 1;
      for (String n : new String[] {"0", "1", "39", "40", "040", "000"}) rightLaw(kind + " " + n, 1);
      for (String n : new String[] {"41", "100", "999", "0040", "0000", "1000"}) wrongLaw(kind + " " + n, at);
      wrongLaw(kind, at - 1);
      wrongLaw(kind + " ", at);
    }
    for (String sign : new String[] {"<", ">"}) {
      rightLaw("pay 1 if 0 " + sign + " 999", 1);
      rightLaw("pay 1 if 009+099 " + sign + " 000", 1);
      wrongLaw("pay 1 if 1000 " + sign + " 1", 9);
      wrongLaw("pay 1 if 0001 " + sign + " 1", 9);
      wrongLaw("pay 1 if 1 " + sign + " 1000", 13);
      wrongLaw("pay 1 if 1 " + sign + " 1+0001", 15);
    }
    Gate x = plain();
    holds(x, 0, "999 < 998+slot+1", false);
    holds(x, 0, "999 < 998+slot+2", true);
    holds(x, 0, "999+999 > 999+998", true);
    holds(x, 0, "010 > 009", true);
  }

  @Says("( and not within one another at most 6 deep")
  static void sixDeep() {
    Gate x = plain();
    for (int deep = 1; deep <= 6; deep++) {
      holds(x, 0, "(".repeat(deep) + "slot<1" + ")".repeat(deep), true);
      holds(x, 0, "not ".repeat(deep) + "slot<1", deep % 2 == 0);
    }
    wrongLaw("pay 1 if (((((((only)))))))", 15);
    wrongLaw("pay 1 if not not not not not not not only", 33);
    wrongLaw("pay 1 if not(not(not(not only)))", 21);
    wrongLaw("pay 1 if not(not(not((only))))", 21);
    wrongLaw("pay 1 if not((not(not((only)))))", 21);
    rightLaw("pay 1 if not(not(not(only)))", 1);
    rightLaw("pay 1 if ((((((only))))))", 1);
    // Beside one another they are not within one another: behind each ) and each ATOM of a not it is less deep again.
    holds(x, 0, "((((((slot<1)))))) and ((((((slot<1))))))", true);
    holds(x, 0, "not not not not not not slot<1 and not not not not not not slot<1", true);
    holds(x, 0, "(((((slot<1))))) and (not (not (not slot<1)))", false);
    holds(x, 0, "(((((slot>1))))) or (not (not (not slot>1)))", true);
    rightLaw("pay 1 if (((((not only and (only) and not only)))))", 1);
    wrongLaw("pay 1 if (((((not only and (only) and not not only)))))", 42);
    wrongLaw("pay 1 if (((((not only and ((only)) and not only)))))", 28);
    wrongLaw("pay 1 if ((((((only) and (only)))))) or (((((((only)))))))", 46);
    // Each LINE begins at none.
    rightLaw("pay 1 if ((((((only))))));pay 1 if ((((((only))))))", 2);
    rightLaw("pay 1 if not not not not not not only;pay 1 if not only", 2);
    // Nor does what a wrong text left open count for the next one.
    for (String open : new String[] {"pay 1 if ((((((", "pay 1 if not not not not not not", "pay 1 if (only or (only and not", "pay 1 if not (((only) and"}) {
      wrongLaw(x, open, open.length());
      holds(x, 0, "((((((slot<1))))))", true);
      wrongLaw(x, open, open.length());
      holds(x, 0, "not not not not not not slot>1", false);
      wrongLaw(x, open, open.length());
      holds(x, 0, "slot<1 and not slot>1 or only", true);
      wrongLaw(x, open, open.length());
      wrongLaw(x, "pay 1 if only)", 13);
    }
    wrongLaw("pay 1 if ((((((only)))))", 24);
    wrongLaw("pay 1 if ((((((only)))))))", 25);
  }

  @Says("C: ALL { or ALL }; ALL: ATOM { and ATOM }; ATOM: not ATOM | ( C )")
  static void howTheyBind() {
    Gate x = plain();
    String yes = "slot<1";
    String no = "slot>1";
    for (int bits = 0; bits < 8; bits++) {
      boolean a = (bits & 1) != 0;
      boolean b = (bits & 2) != 0;
      boolean c = (bits & 4) != 0;
      String p = a ? yes : no;
      String q = b ? yes : no;
      String r = c ? yes : no;
      holds(x, 0, p + " or " + q + " and " + r, a || b && c);
      holds(x, 0, p + " and " + q + " or " + r, a && b || c);
      holds(x, 0, "(" + p + " or " + q + ") and " + r, (a || b) && c);
      holds(x, 0, "not " + p + " and " + q + " or not " + r, !a && b || !c);
      holds(x, 0, "not (" + p + " or " + q + ") or " + r, !(a || b) || c);
    }
  }

  @Says("SUM < SUM | SUM > SUM. SUM: PART { + PART }")
  static void alikeIsNeither() {
    Gate x = plain();
    holds(x, 0, "3 < 4", true);
    holds(x, 0, "4 < 4", false);
    holds(x, 0, "5 < 4", false);
    holds(x, 0, "3 > 4", false);
    holds(x, 0, "4 > 4", false);
    holds(x, 0, "5 > 4", true);
    holds(x, 0, "1+1+1<1+1+1+0", false);
    holds(x, 0, "1+1+1<1+1+1+1", true);
    holds(x, 0, "999+999+999>999+999+998", true);
    // As long a SUM as a text holds.
    String parts = "0" + "+0".repeat(180);
    holds(x, 0, parts + "+1>0", true);
    holds(x, 0, parts + "+1>1", false);
    String ors = "only or ".repeat(46);
    holds(x, 0, ors + "slot<1", true);
    holds(x, 0, ors + "slot>1", false);
    String ands = "0<1 and ".repeat(46);
    holds(x, 0, ands + "slot<1", true);
    holds(x, 0, ands + "slot>1", false);
    String deep = "only or 0<1 and (".repeat(6);
    holds(x, 0, deep + "only or 0<1 and 1+1<2+slot" + ")".repeat(6), false);
    holds(x, 0, deep + "only or 0<1 and 1+1<3+slot" + ")".repeat(6), true);
  }

  @Says("slot: its number; age: STAMP less BEGAN; reads: how many KEYS it HAS READ; writes: how many it HAS WRITTEN; retries: RETRIES of its CLIENT")
  static void partsAtTheirEdge() {
    Gate x = plain();
    String[][] facts = {{"slot", "0", "1"}, {"client", "0", "1"}, {"age", "1", "0"}, {"reads", "2", "0"}, {"writes", "1", "0"},
        {"retries", "0", "0"}, {"stamp", "2", "2"}};
    for (String[] fact : facts) {
      for (int slot = 0; slot < 2; slot++) {
        holds(x, slot, "not " + fact[0] + "<" + fact[1 + slot] + " and not " + fact[0] + ">" + fact[1 + slot], true);
      }
    }
    // A slot's number and its client's are two.
    Gate z = of("client;client;client");
    z.begin(2);
    z.begin(0);
    holds(z, 0, "slot<1 and client>1 and client<3", true);
    holds(z, 1, "slot>0 and slot<2 and client<1", true);
    // Of a FINISHED one too; its age goes on.
    Gate y = of("client;client");
    y.begin(0);
    y.begin(1);
    y.read(1, 4);
    y.write(1, 5);
    y.write(1, 6);
    y.commit(1);
    y.begin(1);
    holds(y, 1, "age>1 and age<3 and reads>0 and reads<2 and writes>1 and writes<3 and slot>0 and slot<2", true);
    y.abort(2);
    holds(y, 1, "retries>0 and retries<2", true);
    holds(y, 0, "retries<1", true);
  }

  @Says("stamp: STAMP modulo 100")
  static void stampGoesRound() {
    // A lone client without keys begins and commits by turns: each tick is a stamp more.
    Gate x = of("client");
    x.ticks(60);
    x.ticks(39);
    due(x.count(5), 99);
    holds(x, 0, "stamp>98 and stamp<100", true);
    x.commit(0);
    x.begin(0);
    due(x.count(5), 101);
    holds(x, 0, "stamp>0 and stamp<2", true);
    Gate y = of("client;client");
    y.begin(1);
    for (int i = 0; i < 49; i++) y.commit(y.begin(0));
    y.begin(0);
    due(y.count(5), 100);
    holds(y, 0, "stamp<1 and age>98 and age<100", true);
    for (int i = 0; i < 51; i++) {
      y.commit(y.client(0, 5));
      y.begin(0);
    }
    due(y.count(5), 202);
    holds(y, 0, "stamp>1 and stamp<3 and age>200 and age<202", true);
  }

  @Says("pivot: it has an EDGE to it (or INMAX above 0) and one from it (or OUTMIN above 0)")
  static void pivotByEdgesAndBounds() {
    // Client 0 reads what client 1 writes, and writes what client 2 reads; each of both as an edge, or summarised.
    for (int keep = 0; keep < 2; keep++) {
      for (int sides = 0; sides < 4; sides++) {
        Gate x = of("client;client;client only;keep 6");
        x.begin(0);
        x.read(0, 0);
        x.begin(2);
        x.read(1, 1);
        // The reader commits first, so that no danger comes of it.
        if ((sides & 1) != 0) x.write(0, 1);
        x.commit(1);
        if (keep == 0) x.keep(0);
        x.begin(1);
        int writer = x.client(1, 5);
        if ((sides & 2) != 0) x.write(writer, 0);
        x.commit(writer);
        boolean pivot = sides == 3;
        due(x.slot(0, 13), keep == 0 && (sides & 1) != 0 ? 3 : 0);
        due(x.slot(0, 12), keep == 0 && (sides & 2) != 0 ? 5 : 0);
        due(x.slot(0, 0), 1);
        holds(x, 0, "pivot", pivot);
        due(x.pivots(), pivot ? 1 : 0);
      }
    }
  }

  @Says("retried: RETRIES above 0")
  static void retriedAboveNone() {
    Gate x = of("client;client");
    x.begin(1);
    x.begin(0);
    holds(x, 1, "retried", false);
    x.abort(1);
    x.begin(0);
    holds(x, 1, "retried", true);
    holds(x, 0, "retried", false);
    x.commit(1);
    holds(x, 1, "retried", false);
  }

  @Says("BLAME: 10, and the sum of N of all blame LINES that hold, less that of all spare LINES (0 at least)")
  static void blameIsNeverBelowNone() {
    Gate x = of("client");
    x.begin(0);
    due(x.slot(0, 10), 10);
    String[] laws = {"", "spare 9", "spare 10", "spare 11", "spare 40;spare 40;spare 40", "spare 40;blame 30", "spare 40;blame 31",
        "spare 16;blame 5", "blame 5;spare 14;spare 0", "blame 0", "blame 40", "pay 40", "spare 5 if only;blame 7 if only"};
    int[] due = {10, 1, 0, 0, 0, 0, 1, 0, 1, 10, 50, 10, 10};
    for (int i = 0; i < laws.length; i++) {
      law(x, laws[i]);
      due(x.slot(0, 10), due[i], line() + ", BLAME by '" + laws[i] + "'");
    }
  }

  @Says("PAY: 1, and the sum of N of all pay LINES that hold")
  static void payIsOneAtLeast() {
    Gate x = of("client");
    x.begin(0);
    due(x.slot(0, 11), 1);
    String[] laws = {"", "pay 0", "pay 1", "pay 40;pay 40", "spare 40;spare 40", "blame 40", "pay 9 if only", "pay 9 if not only;pay 2 if only"};
    int[] due = {1, 1, 2, 81, 1, 1, 1, 10};
    for (int i = 0; i < laws.length; i++) {
      law(x, laws[i]);
      due(x.slot(0, 11), due[i], line() + ", PAY by '" + laws[i] + "'");
    }
  }

  @Says("Of a wrong text nothing stays")
  static void theLawBeforeStays() {
    Gate x = of("client");
    x.begin(0);
    wrongLaw(x, "pay 3;foo", 6);
    due(x.count(4), NONE);
    due(x.slot(0, 11), 1);
    law(x, "blame 3;pay 4 if slot<1");
    for (int i = 0; i < 3; i++) x.keep(i);
    wrongLaw(x, "spare 8;spare 8;spare 8 if only or", 34);
    due(x.count(4), 2);
    due(x.slot(0, 10), 13);
    due(x.slot(0, 11), 5);
    due(x.count(13), 3);
    wrongLaw(x, lines("spare 1 if slot<3", 13), 216);
    due(x.count(4), 2);
    due(x.slot(0, 10), 13);
    due(x.slot(0, 11), 5);
    due(x.undo(), true);
    due(x.slot(0, 10), 13);
  }

  @Says("The first wrong byte: the begin of the first thing that cannot stand there (a number of more digits, or out of its bounds, or that tells none that can be; a word that is none; the ( or not that is a 7th one deep; of a LINE, a CLIENT too many, the first word)")
  static void theFirstWrongThing() {
    wrongLaw("foo", 0);
    wrongLaw("  blam 1", 2);
    wrongLaw("blames 1", 0);
    wrongLaw("Blame 1", 0);
    wrongLaw("1", 0);
    wrongLaw("if only", 0);
    wrongLaw("client", 0);
    wrongLaw("blame if only", 6);
    wrongLaw("blame -1", 6);
    wrongLaw("blame 1 only", 8);
    wrongLaw("blame 1 2", 8);
    wrongLaw("blame 1 iff only", 8);
    wrongLaw("blame 1 ifonly", 8);
    wrongLaw("blame 1 if ;", 11);
    wrongLaw("blame 1 if and", 11);
    wrongLaw("blame 1 if <3", 11);
    wrongLaw("blame 1 if +3<4", 11);
    wrongLaw("blame 1 if )", 11);
    wrongLaw("blame 1 if onlyy", 11);
    wrongLaw("blame 1 if notonly", 11);
    wrongLaw("blame 1 if blame", 11);
    wrongLaw("blame 1 if if only", 11);
    wrongLaw("blame 1 if age", 14);
    wrongLaw("blame 1 if age;", 14);
    wrongLaw("blame 1 if age and only", 15);
    wrongLaw("blame 1 if age=3", 14);
    wrongLaw("blame 1 if age<<3", 15);
    wrongLaw("blame 1 if age<only", 15);
    wrongLaw("blame 1 if age<(3)", 15);
    wrongLaw("blame 1 if age<not only", 15);
    wrongLaw("blame 1 if age<3<4", 16);
    wrongLaw("blame 1 if age<3 4", 17);
    wrongLaw("blame 1 if age<3+", 17);
    wrongLaw("blame 1 if age<3+;", 17);
    wrongLaw("blame 1 if age 3<4", 15);
    wrongLaw("blame 1 if age+only<4", 15);
    wrongLaw("blame 1 if only<3", 15);
    wrongLaw("blame 1 if pivot+1<3", 16);
    wrongLaw("blame 1 if retried retried", 19);
    wrongLaw("blame 1 if only and", 19);
    wrongLaw("blame 1 if only and or", 20);
    wrongLaw("blame 1 if only or and", 19);
    wrongLaw("blame 1 if only not only", 16);
    wrongLaw("blame 1 if only (only)", 16);
    wrongLaw("blame 1 if only)", 15);
    wrongLaw("blame 1 if ()", 12);
    wrongLaw("blame 1 if (only;", 16);
    wrongLaw("blame 1 if (only)) and only", 17);
    wrongLaw("blame 1 if (age)<3", 15);
    wrongLaw("blame 1 if (age<3", 17);
    wrongLaw("blame 1 if not", 14);
    wrongLaw("blame 1 if not;", 14);
    wrongLaw("blame 1 if not and only", 15);
    wrongLaw("blame 1;;blame 1", 8);
    wrongLaw("blame 1 ; ; blame 1", 10);
    wrongLaw("blame 1;foo 1", 8);
    wrongLaw("blame 1 if slot<1;version 1 1", 18);
    for (int sign : new int[] {0, 9, 10, 31, 33, 96, 123, 128, 255}) {
      Gate x = new Gate();
      tell(x, 'p', 'a', 'y', sign, '1');
      refused(ARGUMENT, x::law);
      due(x.fault(), 3);
      tell(x, 'p', 'a', 'y', '1', sign);
      refused(ARGUMENT, x::law);
      due(x.fault(), 4);
    }
  }

  @Says("or the text's length, if more must come")
  static void moreMustCome() {
    wrongLaw("blame", 5);
    wrongLaw("blame  ", 7);
    wrongLaw("blame 1;", 8);
    wrongLaw("blame 1 ; ", 10);
    wrongLaw("blame 1 if", 10);
    wrongLaw("blame 1 if  ", 12);
    wrongLaw("blame 1 if not ", 15);
    wrongLaw("blame 1 if (", 12);
    wrongLaw("blame 1 if (only", 16);
    wrongLaw("blame 1 if (only  ", 18);
    wrongLaw("blame 1 if age <", 16);
    wrongLaw("blame 1 if age+", 15);
    wrongLaw("blame 1 if only or ", 19);
    wrongLaw("blame 1 if only" + " ".repeat(383) + "or", 400);
    rightLaw("blame 1 if only" + " ".repeat(378) + "or only", 1);
    wrongLaw("blame 1 if only" + " ".repeat(379) + "or onl", 397);
  }

  @Says("Words are as long as a to z go on; between all there may be blanks (32), also ahead and behind")
  static void blanks() {
    rightLaw("  blame   1   if   (  only  )  and  not  age  +  1  <  2  ;  pay  3  ", 2);
    rightLaw("blame1if(only)and(pivot)or(1<2)and not(3<4+age+5)or retried;pay3;spare40if 1<2", 3);
    rightLaw("blame 1if only", 1);
    rightLaw("pay 1 if 1<2and 3<4or 5<6", 1);
    rightLaw("pay 1 if age<1or only", 1);
    wrongLaw("pay 1 if onlyor only", 9);
    wrongLaw("pay 1 if only andonly", 14);
    wrongLaw("pay 1 if a ge<1", 9);
    wrongLaw("pay 1 if age<1 2", 15);
  }

  @Says("LINE { ; LINE }, at most 12: blame N [ if C ] | spare N [ if C ] | pay N [ if C ]")
  static void eachLine() {
    Gate x = plain();
    // Without a condition a line holds; with one it holds of those of which that does.
    due(law(x, "blame 7;spare 2;pay 4;blame 3 if slot<1;spare 1 if slot>0;pay 5 if only;pay 6 if not only"), 7);
    due(x.slot(0, 10), 10 + 7 - 2 + 3);
    due(x.slot(0, 11), 1 + 4 + 6);
    due(x.slot(1, 10), 10 + 7 - 2 - 1);
    due(x.slot(1, 11), 1 + 4 + 5);
    wrongLaw(x, "blame if only", 6);
    wrongLaw(x, "blame 3 only", 8);
    wrongLaw(x, "blame 3 if", 10);
    wrongLaw(x, "blame 3 if ; pay 1", 11);
    wrongLaw(x, "blame 3 if only if only", 16);
    wrongLaw(x, "blame 3 4", 8);
    wrongLaw(x, "blame 3 spare 4", 8);
    wrongLaw(x, "if only blame 3", 0);
    wrongLaw(x, "keep 3", 0);
    wrongLaw(x, "client", 0);
    due(x.slot(0, 11), 11);
  }

  @Says({"PART: NUMBER | slot | client | age | reads | writes | retries | stamp", "Of a RUNNING or FINISHED SLOT"})
  static void eachPart() {
    // Slot 1 is of client 2, begun at 4 behind two aborts, and HAS READ three keys and WRITTEN one; the stamp is 5.
    Gate x = of("client;client;client;keep 6");
    x.begin(0);
    for (int i = 0; i < 2; i++) x.abort(x.begin(2));
    due(x.begin(2), 1);
    for (int key = 0; key < 3; key++) x.read(1, key);
    x.write(1, 9);
    x.begin(1);
    String[] parts = {"7", "slot", "client", "age", "reads", "writes", "retries", "stamp"};
    int[] running = {7, 1, 2, 1, 3, 1, 2, 5};
    int[] finished = {7, 1, 2, 2, 3, 1, 0, 6};
    partsAre(x, parts, running);
    due(x.commit(1), 6);
    due(x.slot(1, 0), 2);
    partsAre(x, parts, finished);
    wrongLaw(x, "pay 1 if began<1", 9);
    wrongLaw(x, "pay 1 if purse<1", 9);
    wrongLaw(x, "pay 1 if only<1", 13);
    wrongLaw(x, "pay 1 if 1<only", 11);
  }

  private static void partsAre(Gate x, String[] parts, int[] worths) {
    for (int i = 0; i < parts.length; i++) {
      holds(x, 1, parts[i] + "<" + (worths[i] + 1) + " and " + parts[i] + "+1>" + worths[i], true);
      holds(x, 1, parts[i] + "<" + worths[i] + " or " + worths[i] + "<" + parts[i], false);
    }
  }

  @Says("only | pivot | retried |")
  static void eachOfThreeWords() {
    // Slot 0: client 0, a pivot. Slot 1: client 1, that only reads, retried. Slot 2: client 2, none of these.
    Gate x = of("client;client only;client;client");
    x.abort(x.begin(1));
    x.begin(0);
    x.begin(1);
    x.begin(2);
    x.begin(3);
    x.read(1, 0);
    x.write(0, 0);
    x.read(0, 1);
    x.write(3, 1);
    String[] words = {"pivot", "only", "retried"};
    boolean[][] due = {{true, false, false}, {false, true, false}, {false, true, false}};
    for (int i = 0; i < words.length; i++) {
      for (int slot = 0; slot < 3; slot++) {
        holds(x, slot, words[i], due[i][slot]);
        holds(x, slot, "not " + words[i], !due[i][slot]);
        holds(x, slot, words[i] + " and 0<1", due[i][slot]);
        holds(x, slot, "0<1 and not not " + words[i] + " or 1<0", due[i][slot]);
      }
    }
    holds(x, 1, "only and retried and not pivot", true);
    holds(x, 0, "pivot and not only and not retried", true);
    holds(x, 2, "only or pivot or retried", false);
  }
}
