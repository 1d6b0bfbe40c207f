/** The program itself as a house among others. */
final class ProgramHouse implements House {
    private final RoommateHouse house = new RoommateHouse();

    @Override
    public int people(int n) {
        return house.people(n);
    }

    @Override
    public int put(int person, int other) {
        return house.put(person, other);
    }

    @Override
    public int remove(int person, int i) {
        return house.remove(person, i);
    }

    @Override
    public int move(int person, int i, int j) {
        return house.move(person, i, j);
    }

    @Override
    public int at(int person, int i) {
        return house.at(person, i);
    }

    @Override
    public int place(int person, int other) {
        return house.place(person, other);
    }

    @Override
    public int pair(int one, int other) {
        return house.pair(one, other);
    }

    @Override
    public int partner(int person) {
        return house.partner(person);
    }

    @Override
    public int blocking() {
        return house.blocking();
    }

    @Override
    public int satisfy() {
        return house.satisfy();
    }

    @Override
    public int matchings() {
        return house.matchings();
    }

    @Override
    public int matched(int person) {
        return house.matched(person);
    }

    @Override
    public int extreme(int person, boolean worst) {
        return house.extreme(person, worst);
    }

    @Override
    public int together(int one, int other) {
        return house.together(one, other);
    }

    @Override
    public int party(int person) {
        return house.party(person);
    }

    @Override
    public int next(int person) {
        return house.next(person);
    }

    @Override
    public int parties(boolean three) {
        return house.parties(three);
    }

    @Override
    public int size() {
        return house.size();
    }

    @Override
    public int astray() {
        return house.astray();
    }
}
