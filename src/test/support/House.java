/** The calls of a house, so that one run of calls can be made on two kinds of it. */
interface House {
    int people(int n);

    int put(int person, int other);

    int remove(int person, int i);

    int move(int person, int i, int j);

    int at(int person, int i);

    int place(int person, int other);

    int pair(int one, int other);

    int partner(int person);

    int blocking();

    int satisfy();

    int matchings();

    int matched(int person);

    int extreme(int person, boolean worst);

    int together(int one, int other);

    int party(int person);

    int next(int person);

    int parties(boolean three);

    int size();

    int astray();
}
