/** A TestVersions and a Model that get the same calls; each answer of the one is due from the other. */
final class Pair {
    final TestVersions real = new TestVersions();
    final Model model = new Model();
    private final String name;
    private int calls = 0;

    Pair(String name) {
        this.name = name;
    }

    int calls() {
        return calls;
    }

    private String told(String method, int... arguments) {
        StringBuilder text = new StringBuilder(name).append(", call ").append(++calls).append(": ").append(method);
        String before = "(";
        for (int argument : arguments) {
            text.append(before).append(argument);
            before = ", ";
        }
        return text.append(arguments.length == 0 ? "()" : ")").toString();
    }

    long add(int height, int choices, int right, int keeps, int group) {
        long due = model.add(height, choices, right, keeps, group);
        Check.due(told("add", height, choices, right, keeps, group),
                real.add(height, choices, right, keeps, group), due);
        return due;
    }

    void remove(int question) {
        Check.due(told("remove", question), real.remove(question), model.remove(question));
    }

    void change(int question, int what, int value) {
        Check.due(told("change", question, what, value),
                real.change(question, what, value), model.change(question, what, value));
    }

    void question(int question, int what) {
        Check.due(told("question", question, what), real.question(question, what), model.question(question, what));
    }

    void questions() {
        Check.due(told("questions"), real.questions(), model.questions());
    }

    void version(int seed) {
        Check.due(told("version", seed), real.version(seed), model.version(seed));
    }

    void drop() {
        Check.due(told("drop"), real.drop(), model.drop());
    }

    void versions() {
        Check.due(told("versions"), real.versions(), model.versions());
    }

    void at(int version, int place, int what) {
        Check.due(told("at", version, place, what), real.at(version, place, what), model.at(version, place, what));
    }

    void where(int version, int question) {
        Check.due(told("where", version, question), real.where(version, question), model.where(version, question));
    }

    void choice(int version, int place, int k) {
        Check.due(told("choice", version, place, k), real.choice(version, place, k), model.choice(version, place, k));
    }

    void alike(int v, int w, int what) {
        Check.due(told("alike", v, w, what), real.alike(v, w, what), model.alike(v, w, what));
    }

    void unlike(int from, int many) {
        Check.due(told("unlike", from, many), real.unlike(from, many), model.unlike(from, many));
    }

    void setLines(int lines) {
        Check.due(told("setLines", lines), real.setLines(lines), model.setLines(lines));
    }

    void pages(int version) {
        Check.due(told("pages", version), real.pages(version), model.pages(version));
    }

    void page(int version, int page, int what) {
        Check.due(told("page", version, page, what), real.page(version, page, what), model.page(version, page, what));
    }

    void type(int c) {
        Check.due(told("type", c), real.type(c), model.type(c));
    }

    void clear() {
        Check.due(told("clear"), real.clear(), model.clear());
    }

    void sheet(int version) {
        Check.due(told("sheet", version), real.sheet(version), model.sheet(version));
    }

    void guess(int version, int seed, int skill) {
        Check.due(told("guess", version, seed, skill), real.guess(version, seed, skill), model.guess(version, seed, skill));
    }

    void forget() {
        Check.due(told("forget"), real.forget(), model.forget());
    }

    void result(int sheet, int what) {
        Check.due(told("result", sheet, what), real.result(sheet, what), model.result(sheet, what));
    }

    void answer(int sheet, int question) {
        Check.due(told("answer", sheet, question), real.answer(sheet, question), model.answer(sheet, question));
    }

    void about(int question, int what) {
        Check.due(told("about", question, what), real.about(question, what), model.about(question, what));
    }

    void parting(int question) {
        Check.dueFloat(told("parting", question), real.parting(question), model.parting(question));
    }

    void mean() {
        Check.dueFloat(told("mean"), real.mean(), model.mean());
    }

    void sameWrong(int s, int t) {
        Check.due(told("sameWrong", s, t), real.sameWrong(s, t), model.sameWrong(s, t));
    }

    void suspects() {
        Check.due(told("suspects"), real.suspects(), model.suspects());
    }

    void mistaken(int sheet, int version) {
        Check.due(told("mistaken", sheet, version), real.mistaken(sheet, version), model.mistaken(sheet, version));
    }

    void undo() {
        Check.due(told("undo"), real.undo(), model.undo());
    }

    void fingerprint() {
        Check.due(told("fingerprint"), real.fingerprint(), model.fingerprint());
    }
}
