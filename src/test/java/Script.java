/** Calls on one object, in their order. */
interface Script {
    void on(RegattaOffice office);
}
