/** A command, or several, sent to a card; answers the last status. */
interface Command {
    int sendTo(Terminal t);
}
