import java.util.ArrayList;
import java.util.List;

/**
 * The document, word by word and without any thought of speed: what the program
 * answers is held against it.
 */
final class NaiveBook {
  static final long THROWS_ARGUMENT = Long.MIN_VALUE;
  static final long THROWS_STATE = Long.MIN_VALUE + 1;

  private static final int[] CODES = {-1, -2, -3, -4, -11, -12, -13, -14, -15};

  static final class Person {
    int home;
    int passport;
    boolean joined;
  }

  static final class Mark {
    int kind;
    int number;
    Person person;
    int from;
    int to;
    int lands;
    boolean dropped;

    boolean tells(int day) {
      return from <= day && day <= to;
    }
  }

  static final class Law {
    int kind;
    int land;
    int n;
    int w;
  }

  static final class Row {
    boolean shorts;
    long[] cells;
  }

  final List<Person> people = new ArrayList<>();
  final List<Mark> marks = new ArrayList<>();
  final List<Law> laws = new ArrayList<>();
  final int[] claim = {51, 51, 51, 51, 51, 51, 51, 51};
  final Integer[][] treaties = new Integer[8][8];
  final Object[] shelves = new Object[8];

  /** The first code of the document's order whose reason holds, or 0. */
  private static int refusal(Object... codesAndReasons) {
    for (int code : CODES) {
      for (int i = 0; i < codesAndReasons.length; i += 2) {
        if ((Integer) codesAndReasons[i] == code && (Boolean) codesAndReasons[i + 1]) {
          return code;
        }
      }
    }
    return 0;
  }

  private static boolean in(int number, int least, int most) {
    return number >= least && number <= most;
  }

  private static boolean days(int from, int to) {
    return in(from, 0, 399) && in(to, 0, 399) && from <= to;
  }

  private boolean isPerson(int person) {
    return in(person, 0, people.size() - 1);
  }

  int canOf(Person person, int day) {
    boolean told = false;
    for (Mark mark : marks) {
      told |= mark.person == person && !mark.dropped && mark.kind != 3 && mark.tells(day);
    }
    int lands = 255;
    for (Mark mark : marks) {
      boolean counts = !mark.dropped && (mark.kind != 3 || !told);
      if (counts && mark.person == person && mark.tells(day)) {
        lands &= mark.lands;
      }
    }
    return lands;
  }

  int[] row(Person person) {
    int[] row = new int[400];
    for (int day = 0; day < 400; day++) {
      row[day] = canOf(person, day);
    }
    return row;
  }

  private boolean someNightEmpty(Person person) {
    for (int day = 0; day < 400; day++) {
      if (canOf(person, day) == 0) {
        return true;
      }
    }
    return false;
  }

  static int least(int[] row, int land, int from, int to) {
    int nights = 0;
    for (int day = Math.max(0, from); day <= to; day++) {
      nights += row[day] == 1 << land ? 1 : 0;
    }
    return nights;
  }

  static int most(int[] row, int land, int from, int to) {
    int nights = 0;
    for (int day = Math.max(0, from); day <= to; day++) {
      nights += (row[day] & 1 << land) != 0 ? 1 : 0;
    }
    return nights;
  }

  int person(int home, int passport) {
    int no = refusal(-1, !in(home, 0, 7) || !in(passport, 0, 7), -2, people.size() == 6);
    if (no != 0) {
      return no;
    }
    Person person = new Person();
    person.home = home;
    person.passport = passport;
    people.add(person);
    return people.size() - 1;
  }

  private int newMark(int kind, boolean right, int person, int from, int to, int lands) {
    if (!isPerson(person) || !right) {
      return -1;
    }
    Mark mark = new Mark();
    mark.kind = kind;
    mark.number = marks.size();
    mark.person = people.get(person);
    mark.from = from;
    mark.to = to;
    mark.lands = lands;
    int no = refusal(-2, marks.size() == 80, -3, mark.person.joined);
    if (no != 0) {
      return no;
    }
    marks.add(mark);
    if (someNightEmpty(mark.person)) {
      marks.remove(mark.number);
      return -4;
    }
    return mark.number;
  }

  int span(int person, int from, int to, int lands) {
    return newMark(0, days(from, to) && in(lands, 1, 255), person, from, to, lands);
  }

  int slept(int person, int day, int land, boolean word) {
    return newMark(word ? 3 : 1, days(day, day) && in(land, 0, 7), person, day, day, 1 << land);
  }

  int stamp(int person, int from, int to, int land) {
    return newMark(2, days(from, to) && in(land, 0, 7), person, from, to, 255 - (1 << (land & 7)));
  }

  int drop(int number, boolean is) {
    if (!in(number, 0, marks.size() - 1)) {
      return -1;
    }
    Mark mark = marks.get(number);
    if (mark.dropped == is) {
      return 0;
    }
    mark.dropped = is;
    if (someNightEmpty(mark.person)) {
      mark.dropped = !is;
      return -4;
    }
    return 1;
  }

  int mark(int number, int what) {
    if (!in(number, 0, marks.size() - 1) || !in(what, 0, 5)) {
      return -1;
    }
    Mark mark = marks.get(number);
    int[] all = {mark.kind, people.indexOf(mark.person), mark.from, mark.to, mark.lands, mark.dropped ? 1 : 0};
    return all[what];
  }

  int can(int person, int day) {
    return isPerson(person) && in(day, 0, 399) ? canOf(people.get(person), day) : -1;
  }

  int nights(int person, int land, int from, int to, boolean most) {
    if (!isPerson(person) || !in(land, 0, 7) || !days(from, to)) {
      return -1;
    }
    int[] row = row(people.get(person));
    return most ? most(row, land, from, to) : least(row, land, from, to);
  }

  int sure(int person, int from, int to) {
    if (!isPerson(person) || !days(from, to)) {
      return -1;
    }
    int[] row = row(people.get(person));
    int nights = 0;
    for (int land = 0; land < 8; land++) {
      nights += least(row, land, from, to);
    }
    return nights;
  }

  int join(int first, int second) {
    if (!isPerson(first) || !isPerson(second) || first == second) {
      return -1;
    }
    Person person = people.get(first);
    Person other = people.get(second);
    if (person.joined || other.joined) {
      return -3;
    }
    List<Mark> came = new ArrayList<>();
    for (Mark mark : marks) {
      if (mark.person == other) {
        came.add(mark);
        mark.person = person;
      }
    }
    if (someNightEmpty(person)) {
      for (Mark mark : came) {
        mark.person = other;
      }
      return -4;
    }
    other.joined = true;
    return came.size();
  }

  int law(int told, int n, int w) {
    int kind = told / 10;
    int land = told % 10;
    boolean right = in(told, 0, 37) && in(land, 0, 7) && in(n, 0, 200) && (kind % 2 == 1 || in(w, 1, 200));
    int no = refusal(-1, !right, -2, laws.size() == 12);
    if (no != 0) {
      return no;
    }
    Law law = new Law();
    law.kind = kind;
    law.land = land;
    law.n = n;
    law.w = w;
    laws.add(law);
    return laws.size() - 1;
  }

  static int keptOn(Law law, int[] row, int day) {
    boolean inRow = law.kind % 2 == 1;
    int from = inRow ? day - law.n : day - law.w + 1;
    int least = least(row, law.land, from, day);
    int most = most(row, law.land, from, day);
    if (inRow && day < law.n) {
      return 2;
    }
    switch (law.kind) {
      case 0:
        return most <= law.n ? 2 : least > law.n ? 0 : 1;
      case 1:
        return least == law.n + 1 ? 0 : most <= law.n ? 2 : 1;
      case 2:
        return least >= law.n ? 2 : most < law.n ? 0 : 1;
      default:
        return most == 0 ? 0 : least >= 1 ? 2 : 1;
    }
  }

  int kept(int law, int person, int day) {
    if (!in(law, 0, laws.size() - 1) || !isPerson(person) || !in(day, 0, 399)) {
      return -1;
    }
    return keptOn(laws.get(law), row(people.get(person)), day);
  }

  int first(int law, int person, int day, boolean sure) {
    if (!in(law, 0, laws.size() - 1) || !isPerson(person) || !in(day, 0, 399)) {
      return -1;
    }
    int[] row = row(people.get(person));
    for (int d = day; d < 400; d++) {
      int kept = keptOn(laws.get(law), row, d);
      if (sure ? kept == 0 : kept != 2) {
        return d;
      }
    }
    return -2;
  }

  int broken(int person) {
    if (!isPerson(person)) {
      return -1;
    }
    int bits = 0;
    for (int law = 0; law < laws.size(); law++) {
      bits |= first(law, person, 0, true) >= 0 ? 1 << law : 0;
    }
    return bits;
  }

  private List<Integer> travel(Person person, int land, int a, int b) {
    int rest = 0;
    while (rest == land) {
      rest++;
    }
    if (person.passport != land) {
      rest = person.passport;
    }
    if (person.home != land) {
      rest = person.home;
    }
    int[] row = row(person);
    for (int day = a; day <= b; day++) {
      row[day] = 1 << rest;
    }
    List<Integer> taken = new ArrayList<>();
    for (int day = a; day <= b; day++) {
      row[day] = 1 << land;
      boolean kept = true;
      for (int later = day; later <= b && kept; later++) {
        for (Law law : laws) {
          kept &= law.kind == 2 || keptOn(law, row, later) == 2;
        }
      }
      if (kept) {
        taken.add(day);
      } else {
        row[day] = 1 << rest;
      }
    }
    return taken;
  }

  int free(int person, int land, int a, int b) {
    if (!isPerson(person) || !in(land, 0, 7) || !days(a, b)) {
      return -1;
    }
    return travel(people.get(person), land, a, b).size();
  }

  int trip(int person, int land, int a, int b, int i) {
    if (!isPerson(person) || !in(land, 0, 7) || !days(a, b) || i < 0) {
      return -1;
    }
    List<Integer> taken = travel(people.get(person), land, a, b);
    return i < taken.size() ? taken.get(i) : -2;
  }

  int claim(int land, int n) {
    if (!in(land, 0, 7) || !in(n, 1, 100)) {
      return -1;
    }
    int before = claim[land];
    claim[land] = n;
    return before;
  }

  int claims(int land, int person, int year) {
    if (!in(land, 0, 7) || !isPerson(person) || !in(year, 0, 3)) {
      return -1;
    }
    int[] row = row(people.get(person));
    int from = 100 * year;
    if (least(row, land, from, from + 99) >= claim[land]) {
      return 2;
    }
    return most(row, land, from, from + 99) >= claim[land] ? 1 : 0;
  }

  int treaty(int land, int other, int tests) {
    boolean right = in(land, 0, 7) && in(other, 0, 7) && land != other && isRowOfTests(tests);
    if (!right) {
      return -1;
    }
    boolean had = treaties[land][other] != null;
    treaties[land][other] = tests;
    treaties[other][land] = tests;
    return had ? 1 : 0;
  }

  /** All rows that there are, written out. */
  private static boolean isRowOfTests(int tests) {
    int[] rows = {
      0, 1, 2, 3,
      1 + 4 * 2, 1 + 4 * 3, 2 + 4 * 1, 2 + 4 * 3, 3 + 4 * 1, 3 + 4 * 2,
      1 + 4 * 2 + 16 * 3, 1 + 4 * 3 + 16 * 2, 2 + 4 * 1 + 16 * 3,
      2 + 4 * 3 + 16 * 1, 3 + 4 * 1 + 16 * 2, 3 + 4 * 2 + 16 * 1,
    };
    for (int row : rows) {
      if (row == tests) {
        return true;
      }
    }
    return false;
  }

  int decides(int land, int other, int person, int year) {
    if (!in(land, 0, 7) || !in(other, 0, 7) || land == other || !isPerson(person) || !in(year, 0, 3)) {
      return -1;
    }
    if (treaties[land][other] == null) {
      return -2;
    }
    Person who = people.get(person);
    int[] row = row(who);
    int from = 100 * year;
    for (int tests = treaties[land][other]; tests != 0; tests /= 4) {
      int[] two = {land, other};
      for (int i = 0; i < 2; i++) {
        int one = two[i];
        int against = two[1 - i];
        boolean nights = least(row, one, from, from + 99) > most(row, against, from, from + 99);
        boolean[] wins = {false, who.home == one, nights, who.passport == one};
        if (wins[tests % 4]) {
          return one;
        }
      }
    }
    return -2;
  }

  int taxed(int person, int year) {
    if (!isPerson(person) || !in(year, 0, 3)) {
      return -1;
    }
    List<Integer> claimants = new ArrayList<>();
    for (int land = 0; land < 8; land++) {
      if (claims(land, person, year) == 2) {
        claimants.add(land);
      }
    }
    for (int land : claimants) {
      boolean all = true;
      for (int other : claimants) {
        all &= other == land || decides(land, other, person, year) == land;
      }
      if (all) {
        return land;
      }
    }
    return claimants.isEmpty() ? -2 : -3;
  }

  int quarrels() {
    int quarrels = 0;
    for (int person = 0; person < people.size(); person++) {
      for (int year = 0; year < 4; year++) {
        quarrels += taxed(person, year) == -3 ? 1 : 0;
      }
    }
    return quarrels;
  }

  int count(int what) {
    int pairs = 0;
    for (int land = 0; land < 8; land++) {
      for (int other = land + 1; other < 8; other++) {
        pairs += treaties[land][other] != null ? 1 : 0;
      }
    }
    int dropped = 0;
    for (Mark mark : marks) {
      dropped += mark.dropped ? 1 : 0;
    }
    int joined = 0;
    for (Person person : people) {
      joined += person.joined ? 1 : 0;
    }
    int[] counts = {people.size(), marks.size(), laws.size(), pairs, dropped, joined};
    return in(what, 0, 5) ? counts[what] : -1;
  }

  int keep(int d, int what, int k) {
    int[] sizes = {Integer.MAX_VALUE, laws.size(), marks.size(), people.size(), people.size()};
    if (!in(d, 0, 7) || !in(what, 0, 4) || (what != 0 && !in(k, 0, sizes[what] - 1))) {
      return -1;
    }
    Row row = new Row();
    row.shorts = what == 4;
    row.cells = new long[what == 4 ? 8 : 400];
    if (what >= 3) {
      int[] cans = row(people.get(k));
      for (int i = 0; i < row.cells.length; i++) {
        row.cells[i] = what == 4 ? most(cans, i, 0, 399) : cans[i] > 127 ? cans[i] - 256 : cans[i];
      }
    }
    shelves[d] = what == 0 ? null : what == 1 ? laws.get(k) : what == 2 ? marks.get(k) : row;
    return 0;
  }

  int make(int d, int what, int n) {
    int no = refusal(-1, !in(d, 0, 7) || !in(what, 3, 4) || n > 60, -14, n < 0);
    if (no != 0) {
      return no;
    }
    Row row = new Row();
    row.shorts = what == 4;
    row.cells = new long[n];
    shelves[d] = row;
    return 0;
  }

  long element(int d, int i) {
    if (!in(d, 0, 7)) {
      return THROWS_ARGUMENT;
    }
    return shelves[d] instanceof Row row && in(i, 0, row.cells.length - 1) ? row.cells[i] : THROWS_STATE;
  }

  int copy(int d, int i, int e, int j, int n) {
    if (!in(d, 0, 7) || !in(e, 0, 7)) {
      return -1;
    }
    if (shelves[d] == null || shelves[e] == null) {
      return -11;
    }
    if (!(shelves[d] instanceof Row) || !(shelves[e] instanceof Row)) {
      return -12;
    }
    Row from = (Row) shelves[d];
    Row to = (Row) shelves[e];
    if (from.shorts != to.shorts) {
      return -12;
    }
    if (n < 0 || i < 0 || j < 0 || (long) i + n > from.cells.length || (long) j + n > to.cells.length) {
      return -13;
    }
    long[] before = from.cells.clone();
    for (int k = 0; k < n; k++) {
      to.cells[j + k] = before[i + k];
    }
    return n;
  }

  int weight(int d) {
    if (!in(d, 0, 7)) {
      return -1;
    }
    if (shelves[d] instanceof Law law) {
      int base = 10 + law.kind + law.n;
      int[] weights = {base, base + 100, base + law.w, 2 * (base + 100)};
      return weights[law.kind];
    }
    if (shelves[d] instanceof Mark mark) {
      int base = 1 + mark.to - mark.from + 1;
      int[] weights = {base, base + 50, base + 70, 2 * (base + 50)};
      return weights[mark.kind];
    }
    return shelves[d] == null ? -11 : -12;
  }

  int toss(int d) {
    if (!in(d, 0, 7)) {
      return -1;
    }
    if (shelves[d] instanceof Law law) {
      return law.kind == 2 ? -15 : law.land;
    }
    if (shelves[d] instanceof Mark mark) {
      return mark.kind == 3 ? -15 : 100 + mark.number;
    }
    return shelves[d] == null ? -11 : -12;
  }
}
