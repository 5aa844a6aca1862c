/-! Tables of the program: classes and their fields, methods, calls; by program (wip/whole/gen/names.py) out of the words of tables_1 -/
def tm_F0 : u_T := fun k => match k with
  | 0 => ("SealedHouse$Device", "prekeys", "[LSealedHouse$Prekey;", true)
  | 1 => ("SealedHouse$Device", "once", "[I", true)
  | 2 => ("SealedHouse$Device", "onceNumbers", "[I", true)
  | 3 => ("SealedHouse$Device", "sessionCount", "[I", true)
  | 4 => ("SealedHouse$Device", "sessions", "[LSealedHouse$Session;", true)
  | 5 => ("SealedHouse$Device", "memberships", "[LSealedHouse$Membership;", true)
  | 6 => ("SealedHouse$Device", "identity", "I", false)
  | 7 => ("SealedHouse$Device", "onceCount", "I", false)
  | _ => ("SealedHouse$Device", "lastNumber", "I", false)
def tm_F1 : u_T := fun k => match k with
  | 0 => ("SealedHouse$Given", "inbound", "LSealedHouse$Inbound;", true)
  | 1 => ("SealedHouse$Given", "generation", "I", false)
  | _ => ("SealedHouse$Given", "oneTime", "Z", false)
def tm_F2 : u_T := fun k => match k with
  | 0 => ("SealedHouse$Inbound", "left", "[I", true)
  | 1 => ("SealedHouse$Inbound", "leftCount", "I", false)
  | 2 => ("SealedHouse$Inbound", "theirs", "I", false)
  | 3 => ("SealedHouse$Inbound", "chain", "I", false)
  | _ => ("SealedHouse$Inbound", "next", "I", false)
def tm_F3 : u_T := fun k => match k with
  | 0 => ("SealedHouse$Knowledge", "terms", "LSealedHouse$Terms;", true)
  | 1 => ("SealedHouse$Knowledge", "cells", "[I", false)
  | 2 => ("SealedHouse$Knowledge", "learned", "[I", false)
  | 3 => ("SealedHouse$Knowledge", "learnedCount", "I", false)
  | 4 => ("SealedHouse$Knowledge", "spreadCount", "I", false)
  | _ => ("SealedHouse$Knowledge", "linkedCount", "I", false)
def tm_F4 : u_T := fun k => match k with
  | 0 => ("SealedHouse$Ledger", "cells", "[I", true)
  | 1 => ("SealedHouse$Ledger", "byDraw", "[I", true)
  | 2 => ("SealedHouse$Ledger", "lastLook", "[I", true)
  | 3 => ("SealedHouse$Ledger", "takenCount", "[I", true)
  | 4 => ("SealedHouse$Ledger", "takenLetter", "[I", true)
  | 5 => ("SealedHouse$Ledger", "takenFrom", "[I", true)
  | 6 => ("SealedHouse$Ledger", "takenGroup", "[I", true)
  | 7 => ("SealedHouse$Ledger", "cameFrom", "I", false)
  | 8 => ("SealedHouse$Ledger", "cameByGroup", "I", false)
  | 9 => ("SealedHouse$Ledger", "cameTerm", "I", false)
  | 10 => ("SealedHouse$Ledger", "cameByOneTime", "Z", false)
  | 11 => ("SealedHouse$Ledger", "letters", "I", false)
  | 12 => ("SealedHouse$Ledger", "lookedInto", "I", false)
  | 13 => ("SealedHouse$Ledger", "forgedCount", "I", false)
  | _ => ("SealedHouse$Ledger", "doubledCount", "I", false)
def tm_F5 : u_T := fun k => match k with
  | 0 => ("SealedHouse$Membership", "givenCount", "[I", true)
  | 1 => ("SealedHouse$Membership", "given", "[LSealedHouse$Given;", true)
  | 2 => ("SealedHouse$Membership", "version", "I", false)
  | 3 => ("SealedHouse$Membership", "mask", "I", false)
  | 4 => ("SealedHouse$Membership", "gone", "I", false)
  | 5 => ("SealedHouse$Membership", "generation", "I", false)
  | 6 => ("SealedHouse$Membership", "chain", "I", false)
  | 7 => ("SealedHouse$Membership", "signer", "I", false)
  | 8 => ("SealedHouse$Membership", "index", "I", false)
  | 9 => ("SealedHouse$Membership", "gave", "I", false)
  | _ => ("SealedHouse$Membership", "stale", "Z", false)
def tm_F6 : u_T := fun k => match k with
  | 0 => ("SealedHouse$Prekey", "bases", "[I", true)
  | 1 => ("SealedHouse$Prekey", "baseCount", "I", false)
  | 2 => ("SealedHouse$Prekey", "secret", "I", false)
  | _ => ("SealedHouse$Prekey", "number", "I", false)
def tm_F7 : u_T := fun k => match k with
  | 0 => ("SealedHouse$Session", "inbound", "LSealedHouse$Inbound;", true)
  | 1 => ("SealedHouse$Session", "base", "I", false)
  | 2 => ("SealedHouse$Session", "root", "I", false)
  | 3 => ("SealedHouse$Session", "mine", "I", false)
  | 4 => ("SealedHouse$Session", "sending", "I", false)
  | 5 => ("SealedHouse$Session", "sent", "I", false)
  | 6 => ("SealedHouse$Session", "before", "I", false)
  | 7 => ("SealedHouse$Session", "bears", "Z", false)
  | 8 => ("SealedHouse$Session", "bornePrekey", "I", false)
  | 9 => ("SealedHouse$Session", "borneOnce", "I", false)
  | _ => ("SealedHouse$Session", "oneTime", "Z", false)
def tm_F8 : u_T := fun k => match k with
  | 0 => ("SealedHouse$Store", "halves", "[[I", true)
  | 1 => ("SealedHouse$Store", "from", "[I", true)
  | 2 => ("SealedHouse$Store", "to", "[I", true)
  | 3 => ("SealedHouse$Store", "written", "I", false)
  | 4 => ("SealedHouse$Store", "present", "I", false)
  | 5 => ("SealedHouse$Store", "cut", "I", false)
  | _ => ("SealedHouse$Store", "down", "Z", false)
def tm_F9 : u_T := fun k => match k with
  | 0 => ("SealedHouse$Terms", "cells", "[I", false)
  | 1 => ("SealedHouse$Terms", "buckets", "[I", true)
  | 2 => ("SealedHouse$Terms", "draft", "[I", true)
  | 3 => ("SealedHouse$Terms", "room", "I", false)
  | 4 => ("SealedHouse$Terms", "size", "I", false)
  | _ => ("SealedHouse$Terms", "draws", "I", false)
def tm_F10 : u_T := fun k => match k with
  | 0 => ("SealedHouse$Wires", "termOf", "[I", true)
  | 1 => ("SealedHouse$Wires", "letterOf", "[I", true)
  | 2 => ("SealedHouse$Wires", "total", "I", false)
  | _ => ("SealedHouse$Wires", "waiting", "I", false)
def tm_F11 : u_T := fun k => match k with
  | 0 => ("SealedHouse", "terms", "LSealedHouse$Terms;", true)
  | 1 => ("SealedHouse", "attacker", "LSealedHouse$Knowledge;", true)
  | 2 => ("SealedHouse", "wires", "LSealedHouse$Wires;", true)
  | 3 => ("SealedHouse", "ledger", "LSealedHouse$Ledger;", true)
  | 4 => ("SealedHouse", "devices", "[LSealedHouse$Device;", true)
  | 5 => ("SealedHouse", "stores", "[LSealedHouse$Store;", true)
  | 6 => ("SealedHouse", "identities", "[I", true)
  | 7 => ("SealedHouse", "directory", "[I", true)
  | 8 => ("SealedHouse", "registers", "[I", true)
  | 9 => ("SealedHouse", "seen", "[I", true)
  | 10 => ("SealedHouse", "seenCount", "I", false)
  | _ => ("SealedHouse", "work", "LSealedHouse$Device;", false)
def tm_F12 : u_T := fun k => match k with
  | 0 => ("SealedHouseModel", "terms", "I", false)
  | 1 => ("SealedHouseModel", "what", "[I", false)
  | 2 => ("SealedHouseModel", "one", "[I", false)
  | 3 => ("SealedHouseModel", "two", "[I", false)
  | 4 => ("SealedHouseModel", "three", "[I", false)
  | 5 => ("SealedHouseModel", "given", "[Z", false)
  | 6 => ("SealedHouseModel", "known", "[Z", false)
  | 7 => ("SealedHouseModel", "rows", "I", false)
  | 8 => ("SealedHouseModel", "cells", "[I", false)
  | 9 => ("SealedHouseModel", "table", "[I", false)
  | 10 => ("SealedHouseModel", "row", "[I", true)
  | 11 => ("SealedHouseModel", "draws", "I", false)
  | 12 => ("SealedHouseModel", "drawTime", "[I", true)
  | 13 => ("SealedHouseModel", "drawnBy", "[I", true)
  | 14 => ("SealedHouseModel", "isRatchet", "[Z", true)
  | 15 => ("SealedHouseModel", "letterOf", "[I", true)
  | 16 => ("SealedHouseModel", "isStale", "Z", false)
  | 17 => ("SealedHouseModel", "all", "[I", true)
  | 18 => ("SealedHouseModel", "work", "[I", true)
  | 19 => ("SealedHouseModel", "identity", "[I", true)
  | 20 => ("SealedHouseModel", "directory", "[I", true)
  | 21 => ("SealedHouseModel", "clock", "I", false)
  | 22 => ("SealedHouseModel", "store", "[I", true)
  | 23 => ("SealedHouseModel", "there", "[Z", true)
  | 24 => ("SealedHouseModel", "stored", "[I", true)
  | 25 => ("SealedHouseModel", "half", "[I", true)
  | 26 => ("SealedHouseModel", "isDown", "[Z", true)
  | 27 => ("SealedHouseModel", "cut", "[I", true)
  | 28 => ("SealedHouseModel", "firstLook", "[I", true)
  | 29 => ("SealedHouseModel", "lastLook", "[I", true)
  | 30 => ("SealedHouseModel", "newWires", "I", false)
  | 31 => ("SealedHouseModel", "newTerm", "[I", true)
  | 32 => ("SealedHouseModel", "newLetter", "I", false)
  | 33 => ("SealedHouseModel", "newTo", "I", false)
  | 34 => ("SealedHouseModel", "newOnce", "Z", false)
  | 35 => ("SealedHouseModel", "newMine", "I", false)
  | 36 => ("SealedHouseModel", "newTheirs", "I", false)
  | 37 => ("SealedHouseModel", "newMask", "I", false)
  | 38 => ("SealedHouseModel", "entries", "I", false)
  | 39 => ("SealedHouseModel", "entry", "[I", true)
  | 40 => ("SealedHouseModel", "wires", "I", false)
  | 41 => ("SealedHouseModel", "wire", "[I", true)
  | 42 => ("SealedHouseModel", "wireLetter", "[I", true)
  | 43 => ("SealedHouseModel", "letters", "I", false)
  | 44 => ("SealedHouseModel", "letterSecret", "[I", true)
  | 45 => ("SealedHouseModel", "letterFrom", "[I", true)
  | 46 => ("SealedHouseModel", "letterTo", "[I", true)
  | 47 => ("SealedHouseModel", "letterOnce", "[Z", true)
  | 48 => ("SealedHouseModel", "letterMine", "[I", true)
  | 49 => ("SealedHouseModel", "letterTheirs", "[I", true)
  | 50 => ("SealedHouseModel", "letterMask", "[I", true)
  | 51 => ("SealedHouseModel", "letterTaken", "[I", true)
  | 52 => ("SealedHouseModel", "letterGift", "[I", true)
  | 53 => ("SealedHouseModel", "forgeries", "I", false)
  | 54 => ("SealedHouseModel", "doubles", "I", false)
  | 55 => ("SealedHouseModel", "tookLetter", "[I", true)
  | 56 => ("SealedHouseModel", "tookFrom", "[I", true)
  | 57 => ("SealedHouseModel", "tookGroup", "[I", true)
  | 58 => ("SealedHouseModel", "tookMany", "[I", true)
  | 59 => ("SealedHouseModel", "session", "[I", true)
  | 60 => ("SealedHouseModel", "mail", "[I", true)
  | 61 => ("SealedHouseModel", "found", "I", false)
  | 62 => ("SealedHouseModel", "register", "[I", true)
  | 63 => ("SealedHouseModel", "looked", "I", false)
  | _ => ("SealedHouseModel", "lookTerms", "[I", true)
def tm_cl : List vw_C := [("SealedHouse$Device", tm_F0, 9), ("SealedHouse$Given", tm_F1, 3), ("SealedHouse$Inbound", tm_F2, 5), ("SealedHouse$Knowledge", tm_F3, 6), ("SealedHouse$Ledger", tm_F4, 15), ("SealedHouse$Membership", tm_F5, 11), ("SealedHouse$Prekey", tm_F6, 4), ("SealedHouse$Session", tm_F7, 11), ("SealedHouse$Store", tm_F8, 7), ("SealedHouse$Terms", tm_F9, 6), ("SealedHouse$Wires", tm_F10, 4), ("SealedHouse", tm_F11, 12), ("SealedHouseModel", tm_F12, 65)]
def tm_own : List String := ["SealedHouse$Device", "SealedHouse$Given", "SealedHouse$Inbound", "SealedHouse$Knowledge", "SealedHouse$Ledger", "SealedHouse$Membership", "SealedHouse$Prekey", "SealedHouse$Session", "SealedHouse$Store", "SealedHouse$Terms", "SealedHouse$Wires", "SealedHouse", "SealedHouseModel", "SealedHouseLaw", "java/util/Arrays", "java/lang/Math"]
def tm_fty : List (List FieldType) := [[.array (.object "SealedHouse$Prekey"), .array (.int), .array (.int), .array (.int), .array (.object "SealedHouse$Session"), .array (.object "SealedHouse$Membership"), .int, .int, .int],
  [.object "SealedHouse$Inbound", .int, .boolean],
  [.array (.int), .int, .int, .int, .int],
  [.object "SealedHouse$Terms", .array (.int), .array (.int), .int, .int, .int],
  [.array (.int), .array (.int), .array (.int), .array (.int), .array (.int), .array (.int), .array (.int), .int, .int, .int, .boolean, .int, .int, .int, .int],
  [.array (.int), .array (.object "SealedHouse$Given"), .int, .int, .int, .int, .int, .int, .int, .int, .boolean],
  [.array (.int), .int, .int, .int],
  [.object "SealedHouse$Inbound", .int, .int, .int, .int, .int, .int, .boolean, .int, .int, .boolean],
  [.array (.array (.int)), .array (.int), .array (.int), .int, .int, .int, .boolean],
  [.array (.int), .array (.int), .array (.int), .int, .int, .int],
  [.array (.int), .array (.int), .int, .int],
  [.object "SealedHouse$Terms", .object "SealedHouse$Knowledge", .object "SealedHouse$Wires", .object "SealedHouse$Ledger", .array (.object "SealedHouse$Device"), .array (.object "SealedHouse$Store"), .array (.int), .array (.int), .array (.int), .array (.int), .int, .object "SealedHouse$Device"],
  [.int, .array (.int), .array (.int), .array (.int), .array (.int), .array (.boolean), .array (.boolean), .int, .array (.int), .array (.int), .array (.int), .int, .array (.int), .array (.int), .array (.boolean), .array (.int), .boolean, .array (.int), .array (.int), .array (.int), .array (.int), .int, .array (.int), .array (.boolean), .array (.int), .array (.int), .array (.boolean), .array (.int), .array (.int), .array (.int), .int, .array (.int), .int, .int, .boolean, .int, .int, .int, .int, .array (.int), .int, .array (.int), .array (.int), .int, .array (.int), .array (.int), .array (.int), .array (.boolean), .array (.int), .array (.int), .array (.int), .array (.int), .array (.int), .int, .int, .array (.int), .array (.int), .array (.int), .array (.int), .array (.int), .array (.int), .int, .array (.int), .int, .array (.int)]]
def tm_lay : List (List Nat) := [[469, 471, 473, 475, 477, 479, 481, 483, 485], [407, 409, 411], [333, 335, 337, 339, 341], [175, 177, 179, 181, 183, 185], [237, 239, 241, 243, 245, 247, 249, 251, 253, 255, 257, 259, 261, 263, 265], [429, 431, 433, 435, 437, 439, 441, 443, 445, 447, 449], [293, 295, 297, 299], [362, 364, 366, 368, 370, 372, 374, 376, 378, 380, 382], [580, 582, 584, 586, 588, 590, 592], [149, 151, 153, 155, 157, 159], [201, 203, 205, 207], [607, 609, 611, 613, 615, 617, 619, 621, 623, 625, 627, 629], [1422, 1424, 1426, 1428, 1430, 1432, 1434, 1436, 1438, 1440, 1442, 1444, 1446, 1448, 1450, 1452, 1454, 1456, 1458, 1460, 1462, 1464, 1466, 1468, 1470, 1472, 1474, 1476, 1478, 1480, 1482, 1484, 1486, 1488, 1490, 1492, 1494, 1496, 1498, 1500, 1502, 1504, 1506, 1508, 1510, 1512, 1514, 1516, 1518, 1520, 1522, 1524, 1526, 1528, 1530, 1532, 1534, 1536, 1538, 1540, 1542, 1544, 1546, 1548, 1550]]
/-- own class, entry, class made, places of classLink, instantiable, initialized -/
def tm_news : List (Nat × Nat × Nat × Nat × Nat × Nat) := [(13, 7, 11, 126, 127, 110), (11, 9, 9, 134, 135, 111), (11, 16, 3, 163, 164, 112), (11, 25, 10, 188, 189, 113), (11, 32, 4, 210, 211, 114), (11, 39, 0, 268, 272, 116), (11, 45, 8, 270, 563, 124), (0, 9, 6, 277, 279, 117), (0, 28, 7, 302, 306, 118), (0, 34, 5, 304, 385, 120), (7, 9, 2, 311, 312, 119), (5, 15, 1, 390, 392, 121), (1, 9, 2, 397, 312, 119), (13, 10, 12, 1275, 1276, 125)]
def tm_tys : List FieldType := [.int, .boolean, .object "SealedHouse$Device", .object "SealedHouse$Store", .object "SealedHouse$Prekey", .object "SealedHouse$Session", .object "SealedHouse$Membership", .object "SealedHouse$Given", .array .int]
/-- where arrayClass (of the first two) and arrayOver (of the others) stand -/
def tm_apos : List Nat := [162, 1553, 269, 271, 278, 303, 305, 391, 569]
/-- own class, entry, class, field, whether it is a nest mate's, place of the link -/
def tm_flds : List (Nat × Nat × Nat × Nat × Nat × Nat) := [(9, 11, 9, 0, 0, 140), (9, 15, 9, 1, 0, 141), (9, 18, 9, 2, 0, 142), (3, 19, 9, 3, 1, 143), (9, 21, 9, 3, 0, 144), (9, 25, 9, 4, 0, 145),
  (3, 56, 9, 4, 1, 146), (9, 39, 9, 5, 0, 147), (11, 272, 9, 5, 1, 148), (3, 15, 3, 0, 0, 169), (3, 24, 3, 1, 0, 170), (3, 28, 3, 2, 0, 171),
  (3, 41, 3, 3, 0, 172), (3, 38, 3, 4, 0, 173), (3, 11, 3, 5, 0, 174), (10, 9, 10, 0, 0, 194), (11, 208, 10, 0, 1, 195), (10, 15, 10, 1, 0, 196),
  (11, 291, 10, 1, 1, 197), (10, 18, 10, 2, 0, 198), (11, 320, 10, 2, 1, 199), (10, 22, 10, 3, 0, 200), (4, 11, 4, 0, 0, 219), (4, 15, 4, 1, 0, 220),
  (4, 18, 4, 2, 0, 221), (4, 21, 4, 3, 0, 222), (4, 24, 4, 4, 0, 223), (4, 27, 4, 5, 0, 224), (4, 30, 4, 6, 0, 225), (4, 93, 4, 7, 0, 226),
  (4, 96, 4, 8, 0, 227), (4, 99, 4, 9, 0, 228), (4, 102, 4, 10, 0, 229), (4, 39, 4, 11, 0, 230), (11, 323, 4, 11, 1, 231), (4, 78, 4, 12, 0, 232),
  (4, 116, 4, 13, 0, 233), (11, 326, 4, 13, 1, 234), (4, 119, 4, 14, 0, 235), (11, 329, 4, 14, 1, 236), (6, 9, 6, 0, 0, 284), (6, 22, 6, 1, 0, 285),
  (11, 300, 6, 1, 1, 286), (6, 15, 6, 2, 0, 287), (0, 81, 6, 2, 1, 288), (11, 356, 6, 2, 1, 289), (6, 19, 6, 3, 0, 290), (11, 112, 6, 3, 1, 291),
  (0, 78, 6, 3, 1, 292), (2, 11, 2, 0, 0, 317), (2, 25, 2, 1, 0, 318), (1, 42, 2, 1, 1, 319), (7, 119, 2, 1, 1, 320), (5, 132, 2, 1, 1, 321),
  (2, 15, 2, 2, 0, 322), (1, 33, 2, 2, 1, 323), (7, 68, 2, 2, 1, 324), (4, 68, 2, 2, 1, 325), (11, 472, 2, 2, 1, 326), (2, 19, 2, 3, 0, 327),
  (1, 30, 2, 3, 1, 328), (7, 95, 2, 3, 1, 329), (2, 22, 2, 4, 0, 330), (7, 98, 2, 4, 1, 331), (5, 129, 2, 4, 1, 332), (7, 12, 7, 0, 0, 344),
  (4, 64, 7, 0, 1, 345), (11, 419, 7, 0, 1, 346), (7, 22, 7, 1, 0, 347), (0, 87, 7, 1, 1, 348), (7, 26, 7, 2, 0, 349), (7, 29, 7, 3, 0, 350),
  (4, 61, 7, 3, 1, 351), (7, 32, 7, 4, 0, 352), (7, 35, 7, 5, 0, 353), (7, 38, 7, 6, 0, 354), (7, 41, 7, 7, 0, 355), (11, 434, 7, 7, 1, 356),
  (7, 45, 7, 8, 0, 357), (7, 48, 7, 9, 0, 358), (7, 51, 7, 10, 0, 359), (4, 55, 7, 10, 1, 360), (11, 441, 7, 10, 1, 361), (1, 12, 1, 0, 0, 399),
  (5, 94, 1, 0, 1, 400), (11, 469, 1, 0, 1, 401), (1, 22, 1, 1, 0, 402), (5, 90, 1, 1, 1, 403), (1, 26, 1, 2, 0, 404), (5, 91, 1, 2, 1, 405),
  (11, 475, 1, 2, 1, 406), (5, 9, 5, 0, 0, 414), (5, 17, 5, 1, 0, 415), (5, 22, 5, 2, 0, 416), (11, 170, 5, 2, 1, 417), (5, 26, 5, 3, 0, 418),
  (11, 198, 5, 3, 1, 419), (5, 29, 5, 4, 0, 420), (11, 165, 5, 4, 1, 421), (5, 32, 5, 5, 0, 422), (5, 35, 5, 6, 0, 423), (5, 38, 5, 7, 0, 424),
  (5, 41, 5, 8, 0, 425), (5, 44, 5, 9, 0, 426), (11, 395, 5, 9, 1, 427), (5, 47, 5, 10, 0, 428), (0, 12, 0, 0, 0, 452), (11, 108, 0, 0, 1, 453),
  (0, 18, 0, 1, 0, 454), (11, 368, 0, 1, 1, 455), (0, 22, 0, 2, 0, 456), (11, 365, 0, 2, 1, 457), (0, 25, 0, 3, 0, 458), (11, 125, 0, 3, 1, 459),
  (0, 30, 0, 4, 0, 460), (11, 313, 0, 4, 1, 461), (0, 36, 0, 5, 0, 462), (11, 161, 0, 5, 1, 463), (11, 81, 0, 6, 1, 464), (0, 42, 0, 6, 0, 465),
  (0, 53, 0, 7, 0, 466), (11, 297, 0, 7, 1, 467), (0, 46, 0, 8, 0, 468), (8, 11, 8, 0, 0, 570), (8, 16, 8, 1, 0, 571), (8, 20, 8, 2, 0, 572),
  (8, 27, 8, 3, 0, 573), (8, 30, 8, 4, 0, 574), (11, 310, 8, 4, 1, 575), (8, 23, 8, 5, 0, 576), (11, 221, 8, 5, 1, 577), (8, 47, 8, 6, 0, 578),
  (11, 217, 8, 6, 1, 579), (11, 12, 11, 0, 0, 595), (11, 21, 11, 1, 0, 596), (11, 28, 11, 2, 0, 597), (11, 35, 11, 3, 0, 598), (11, 41, 11, 4, 0, 599),
  (11, 47, 11, 5, 0, 600), (11, 51, 11, 6, 0, 601), (11, 55, 11, 7, 0, 602), (11, 58, 11, 8, 0, 603), (11, 61, 11, 9, 0, 604), (11, 269, 11, 10, 0, 605),
  (11, 65, 11, 11, 0, 606), (12, 31, 12, 0, 0, 1357), (12, 2, 12, 1, 0, 1358), (12, 8, 12, 2, 0, 1359), (12, 15, 12, 3, 0, 1360), (12, 18, 12, 4, 0, 1361),
  (12, 39, 12, 5, 0, 1362), (12, 47, 12, 6, 0, 1363), (12, 50, 12, 7, 0, 1364), (12, 21, 12, 8, 0, 1365), (12, 28, 12, 9, 0, 1366), (12, 56, 12, 10, 0, 1367),
  (12, 70, 12, 11, 0, 1368), (12, 67, 12, 12, 0, 1369), (12, 76, 12, 13, 0, 1370), (12, 79, 12, 14, 0, 1371), (12, 82, 12, 15, 0, 1372), (12, 107, 12, 16, 0, 1373),
  (12, 135, 12, 17, 0, 1374), (12, 132, 12, 18, 0, 1375), (12, 158, 12, 19, 0, 1376), (12, 273, 12, 20, 0, 1377), (12, 73, 12, 21, 0, 1378), (12, 186, 12, 22, 0, 1379),
  (12, 177, 12, 23, 0, 1380), (12, 174, 12, 24, 0, 1381), (12, 180, 12, 25, 0, 1382), (12, 204, 12, 26, 0, 1383), (12, 192, 12, 27, 0, 1384), (12, 276, 12, 28, 0, 1385),
  (12, 279, 12, 29, 0, 1386), (12, 138, 12, 30, 0, 1387), (12, 213, 12, 31, 0, 1388), (12, 141, 12, 32, 0, 1389), (12, 234, 12, 33, 0, 1390), (12, 240, 12, 34, 0, 1391),
  (12, 246, 12, 35, 0, 1392), (12, 252, 12, 36, 0, 1393), (12, 258, 12, 37, 0, 1394), (12, 147, 12, 38, 0, 1395), (12, 144, 12, 39, 0, 1396), (12, 210, 12, 40, 0, 1397),
  (12, 207, 12, 41, 0, 1398), (12, 216, 12, 42, 0, 1399), (12, 222, 12, 43, 0, 1400), (12, 225, 12, 44, 0, 1401), (12, 228, 12, 45, 0, 1402), (12, 231, 12, 46, 0, 1403),
  (12, 237, 12, 47, 0, 1404), (12, 243, 12, 48, 0, 1405), (12, 249, 12, 49, 0, 1406), (12, 255, 12, 50, 0, 1407), (12, 264, 12, 51, 0, 1408), (12, 261, 12, 52, 0, 1409),
  (12, 423, 12, 53, 0, 1410), (12, 426, 12, 54, 0, 1411), (12, 282, 12, 55, 0, 1412), (12, 285, 12, 56, 0, 1413), (12, 288, 12, 57, 0, 1414), (12, 291, 12, 58, 0, 1415),
  (12, 294, 12, 59, 0, 1416), (12, 297, 12, 60, 0, 1417), (12, 371, 12, 61, 0, 1418), (12, 300, 12, 62, 0, 1419), (12, 444, 12, 63, 0, 1420), (12, 303, 12, 64, 0, 1421)]
abbrev tm_MT : Type := MethodName × ByteArray × Nat × Option FieldType × Nat
def tm_Ms0 : List tm_MT := [(⟨"SealedHouse", "<init>", "()V"⟩, prog_1_method_1_code, 2, (none), 11),
  (⟨"java/lang/Object", "<init>", "()V"⟩, object_method_1_code, 1, (none), 99),
  (⟨"SealedHouse$Terms", "<init>", "()V"⟩, prog_11_method_1_code, 1, (none), 9),
  (⟨"SealedHouse$Knowledge", "<init>", "(LSealedHouse$Terms;)V"⟩, prog_5_method_1_code, 2, (none), 3),
  (⟨"SealedHouse$Wires", "<init>", "()V"⟩, prog_12_method_1_code, 1, (none), 10),
  (⟨"SealedHouse$Ledger", "<init>", "()V"⟩, prog_6_method_1_code, 1, (none), 4),
  (⟨"java/util/Arrays", "fill", "([II)V"⟩, prog_18_method_103_code, 4, (none), 14),
  (⟨"SealedHouse$Device", "<init>", "()V"⟩, prog_2_method_1_code, 2, (none), 0),
  (⟨"SealedHouse$Prekey", "<init>", "()V"⟩, prog_8_method_1_code, 1, (none), 6),
  (⟨"SealedHouse$Session", "<init>", "()V"⟩, prog_9_method_1_code, 1, (none), 7),
  (⟨"SealedHouse$Inbound", "<init>", "()V"⟩, prog_4_method_1_code, 1, (none), 2),
  (⟨"SealedHouse$Membership", "<init>", "()V"⟩, prog_7_method_1_code, 2, (none), 5),
  (⟨"SealedHouse$Given", "<init>", "()V"⟩, prog_3_method_1_code, 1, (none), 1),
  (⟨"SealedHouse$Terms", "secret", "(II)I"⟩, prog_11_method_9_code, 4, (some .int), 9),
  (⟨"SealedHouse$Terms", "startDraft", "(II)V"⟩, prog_11_method_21_code, 3, (none), 9),
  (⟨"SealedHouse$Terms", "intern", "()I"⟩, prog_11_method_22_code, 6, (some .int), 9),
  (⟨"SealedHouse$Terms", "publicOf", "(I)I"⟩, prog_11_method_10_code, 2, (some .int), 9),
  (⟨"SealedHouse$Terms", "kindOf", "(I)I"⟩, prog_11_method_3_code, 2, (some .int), 9),
  (⟨"SealedHouse$Knowledge", "give", "(I)V"⟩, prog_5_method_3_code, 2, (none), 3),
  (⟨"SealedHouse$Knowledge", "linkNewTerms", "()V"⟩, prog_5_method_4_code, 2, (none), 3),
  (⟨"java/util/Arrays", "copyOf", "([II)[I"⟩, prog_18_method_123_code, 3, (some (.array .int)), 14),
  (⟨"java/lang/Math", "min", "(II)I"⟩, prog_16_method_69_code, 2, (some .int), 15),
  (⟨"SealedHouse$Knowledge", "link", "(II)V"⟩, prog_5_method_5_code, 4, (none), 3),
  (⟨"SealedHouse$Terms", "partOf", "(II)I"⟩, prog_11_method_6_code, 4, (some .int), 9)]
def tm_Ms1 : List tm_MT := [(⟨"SealedHouse$Knowledge", "canBeMade", "(I)Z"⟩, prog_5_method_9_code, 7, (some .boolean), 3),
  (⟨"SealedHouse$Knowledge", "isKnown", "(I)Z"⟩, prog_5_method_2_code, 2, (some .boolean), 3),
  (⟨"SealedHouse$Knowledge", "learn", "(I)V"⟩, prog_5_method_6_code, 2, (none), 3),
  (⟨"SealedHouse$Knowledge", "openUp", "(I)V"⟩, prog_5_method_7_code, 4, (none), 3),
  (⟨"SealedHouse$Knowledge", "tryUses", "(I)V"⟩, prog_5_method_8_code, 5, (none), 3),
  (⟨"SealedHouse$Store", "<init>", "(I)V"⟩, prog_10_method_1_code, 2, (none), 8),
  (⟨"SealedHouse", "publish", "(I)I"⟩, prog_1_method_2_code, 3, (some .int), 11),
  (⟨"SealedHouse", "isDevice", "(I)Z"⟩, prog_1_method_33_code, 1, (some .boolean), 11),
  (⟨"SealedHouse", "refusal", "(ZI)I"⟩, prog_1_method_39_code, 3, (some .int), 11),
  (⟨"SealedHouse", "isFull", "()Z"⟩, prog_1_method_38_code, 1, (some .boolean), 11),
  (⟨"SealedHouse$Terms", "hasRoom", "()Z"⟩, prog_11_method_2_code, 1, (some .boolean), 9),
  (⟨"SealedHouse", "startWork", "(I)V"⟩, prog_1_method_44_code, 2, (none), 11),
  (⟨"SealedHouse$Device", "copyFrom", "(LSealedHouse$Device;)V"⟩, prog_2_method_2_code, 5, (none), 0),
  (⟨"SealedHouse$Prekey", "copyFrom", "(LSealedHouse$Prekey;)V"⟩, prog_8_method_2_code, 2, (none), 6),
  (⟨"SealedHouse$Session", "copyFrom", "(LSealedHouse$Session;)V"⟩, prog_9_method_2_code, 2, (none), 7),
  (⟨"SealedHouse$Inbound", "copyFrom", "(LSealedHouse$Inbound;)V"⟩, prog_4_method_2_code, 2, (none), 2),
  (⟨"SealedHouse$Membership", "copyFrom", "(LSealedHouse$Membership;)V"⟩, prog_7_method_2_code, 4, (none), 5),
  (⟨"SealedHouse$Given", "copyFrom", "(LSealedHouse$Given;)V"⟩, prog_3_method_2_code, 2, (none), 1),
  (⟨"SealedHouse$Wires", "startCall", "()V"⟩, prog_12_method_3_code, 1, (none), 10),
  (⟨"SealedHouse$Device", "renewKeys", "(LSealedHouse$Terms;I)V"⟩, prog_2_method_3_code, 4, (none), 0),
  (⟨"SealedHouse$Prekey", "start", "(II)V"⟩, prog_8_method_3_code, 3, (none), 6),
  (⟨"SealedHouse", "finish", "(I)Z"⟩, prog_1_method_45_code, 4, (some .boolean), 11),
  (⟨"SealedHouse$Device", "writeEntries", "(LSealedHouse$Store;)V"⟩, prog_2_method_10_code, 4, (none), 0),
  (⟨"SealedHouse$Store", "startEntries", "()V"⟩, prog_10_method_2_code, 1, (none), 8)]
def tm_Ms2 : List tm_MT := [(⟨"SealedHouse$Store", "put", "(II)V"⟩, prog_10_method_3_code, 3, (none), 8),
  (⟨"SealedHouse$Prekey", "writeEntries", "(LSealedHouse$Store;)V"⟩, prog_8_method_5_code, 3, (none), 6),
  (⟨"SealedHouse$Session", "writeEntries", "(LSealedHouse$Store;)V"⟩, prog_9_method_9_code, 3, (none), 7),
  (⟨"SealedHouse$Store", "putIfAny", "(I)V"⟩, prog_10_method_4_code, 2, (none), 8),
  (⟨"SealedHouse$Inbound", "leftKey", "(I)I"⟩, prog_4_method_5_code, 2, (some .int), 2),
  (⟨"SealedHouse$Inbound", "leftPublic", "(I)I"⟩, prog_4_method_4_code, 2, (some .int), 2),
  (⟨"SealedHouse$Membership", "writeEntries", "(LSealedHouse$Store;)V"⟩, prog_7_method_9_code, 4, (none), 5),
  (⟨"SealedHouse$Given", "writeEntries", "(LSealedHouse$Store;)V"⟩, prog_3_method_3_code, 3, (none), 1),
  (⟨"SealedHouse$Store", "commit", "()I"⟩, prog_10_method_6_code, 6, (some .int), 8),
  (⟨"SealedHouse$Store", "blocks", "(I)I"⟩, prog_10_method_5_code, 1, (some .int), 8),
  (⟨"SealedHouse", "announceKeys", "(I)V"⟩, prog_1_method_47_code, 5, (none), 11),
  (⟨"SealedHouse", "keyRow", "(IIII)I"⟩, prog_1_method_49_code, 5, (some .int), 11),
  (⟨"SealedHouse$Terms", "startRow", "(IIIII)V"⟩, prog_11_method_15_code, 6, (none), 9),
  (⟨"SealedHouse$Terms", "endRow", "(IIII)I"⟩, prog_11_method_16_code, 5, (some .int), 9),
  (⟨"SealedHouse$Terms", "signed", "(II)I"⟩, prog_11_method_14_code, 3, (some .int), 9),
  (⟨"SealedHouse", "announce", "(III)V"⟩, prog_1_method_48_code, 4, (none), 11),
  (⟨"SealedHouse", "begin", "(II)I"⟩, prog_1_method_3_code, 4, (some .int), 11),
  (⟨"SealedHouse", "areTwo", "(II)Z"⟩, prog_1_method_34_code, 2, (some .boolean), 11),
  (⟨"SealedHouse", "openSession", "(II)LSealedHouse$Session;"⟩, prog_1_method_50_code, 12, (some (.object "SealedHouse$Session")), 11),
  (⟨"SealedHouse", "announcedPrekey", "(I)I"⟩, prog_1_method_51_code, 5, (some .int), 11),
  (⟨"SealedHouse$Terms", "isGood", "(II)Z"⟩, prog_11_method_23_code, 3, (some .boolean), 9),
  (⟨"SealedHouse$Terms", "markOf", "(I)I"⟩, prog_11_method_4_code, 2, (some .int), 9),
  (⟨"SealedHouse$Terms", "hasGoodNumbers", "(II)Z"⟩, prog_11_method_24_code, 7, (some .boolean), 9),
  (⟨"SealedHouse$Terms", "numberOf", "(II)I"⟩, prog_11_method_5_code, 4, (some .int), 9)]
def tm_Ms3 : List tm_MT := [(⟨"SealedHouse$Terms", "isIndex", "(I)Z"⟩, prog_11_method_26_code, 1, (some .boolean), 9),
  (⟨"SealedHouse", "isGroup", "(I)Z"⟩, prog_1_method_35_code, 1, (some .boolean), 11),
  (⟨"SealedHouse$Terms", "hasGoodParts", "(II)Z"⟩, prog_11_method_25_code, 9, (some .boolean), 9),
  (⟨"SealedHouse", "takeAnnouncedOnce", "(I)I"⟩, prog_1_method_52_code, 5, (some .int), 11),
  (⟨"SealedHouse$Terms", "shared", "(II)I"⟩, prog_11_method_11_code, 6, (some .int), 9),
  (⟨"java/lang/Math", "max", "(II)I"⟩, prog_16_method_65_code, 2, (some .int), 15),
  (⟨"SealedHouse$Terms", "mix", "(III)I"⟩, prog_11_method_12_code, 4, (some .int), 9),
  (⟨"SealedHouse$Device", "addSession", "(I)LSealedHouse$Session;"⟩, prog_2_method_8_code, 3, (some (.object "SealedHouse$Session")), 0),
  (⟨"SealedHouse$Device", "putFirst", "(ILSealedHouse$Session;)V"⟩, prog_2_method_9_code, 4, (none), 0),
  (⟨"SealedHouse$Session", "start", "(IIIZ)V"⟩, prog_9_method_3_code, 5, (none), 7),
  (⟨"SealedHouse$Inbound", "start", "(III)V"⟩, prog_4_method_3_code, 4, (none), 2),
  (⟨"SealedHouse$Session", "bear", "(LSealedHouse$Terms;II)V"⟩, prog_9_method_4_code, 5, (none), 7),
  (⟨"SealedHouse", "send", "(II)I"⟩, prog_1_method_4_code, 6, (some .int), 11),
  (⟨"SealedHouse$Device", "firstSession", "(I)LSealedHouse$Session;"⟩, prog_2_method_6_code, 2, (some (.object "SealedHouse$Session")), 0),
  (⟨"SealedHouse$Session", "turnToSend", "(LSealedHouse$Terms;I)V"⟩, prog_9_method_5_code, 4, (none), 7),
  (⟨"SealedHouse", "letterRow", "(I)I"⟩, prog_1_method_46_code, 2, (some .int), 11),
  (⟨"SealedHouse$Session", "nextWire", "(LSealedHouse$Terms;III)I"⟩, prog_9_method_6_code, 9, (some .int), 7),
  (⟨"SealedHouse$Terms", "sealed", "(III)I"⟩, prog_11_method_13_code, 4, (some .int), 9),
  (⟨"SealedHouse$Wires", "add", "(I)V"⟩, prog_12_method_4_code, 2, (none), 10),
  (⟨"SealedHouse$Ledger", "addSent", "(LSealedHouse$Terms;IIILSealedHouse$Session;)I"⟩, prog_6_method_5_code, 7, (some .int), 4),
  (⟨"SealedHouse$Ledger", "addLetter", "(LSealedHouse$Terms;III)I"⟩, prog_6_method_7_code, 7, (some .int), 4),
  (⟨"SealedHouse$Wires", "tell", "(LSealedHouse$Knowledge;I)I"⟩, prog_12_method_5_code, 3, (some .int), 10),
  (⟨"SealedHouse", "list", "(II)I"⟩, prog_1_method_5_code, 6, (some .int), 11),
  (⟨"SealedHouse", "hasBit", "(II)Z"⟩, prog_1_method_37_code, 2, (some .boolean), 11)]
def tm_Ms4 : List tm_MT := [(⟨"SealedHouse$Membership", "adopt", "(II)V"⟩, prog_7_method_3_code, 5, (none), 5),
  (⟨"SealedHouse", "post", "(II)I"⟩, prog_1_method_6_code, 6, (some .int), 11),
  (⟨"SealedHouse$Membership", "renewChain", "(LSealedHouse$Terms;I)V"⟩, prog_7_method_4_code, 3, (none), 5),
  (⟨"SealedHouse", "handOut", "(IILSealedHouse$Membership;)V"⟩, prog_1_method_53_code, 7, (none), 11),
  (⟨"SealedHouse$Membership", "giftRow", "(LSealedHouse$Terms;I)I"⟩, prog_7_method_5_code, 3, (some .int), 5),
  (⟨"SealedHouse$Membership", "nextPost", "(LSealedHouse$Terms;III)I"⟩, prog_7_method_6_code, 7, (some .int), 5),
  (⟨"SealedHouse$Ledger", "addPosted", "(LSealedHouse$Terms;IIII)I"⟩, prog_6_method_6_code, 7, (some .int), 4),
  (⟨"SealedHouse", "deliver", "(II)I"⟩, prog_1_method_7_code, 3, (some .int), 11),
  (⟨"SealedHouse$Wires", "has", "(I)Z"⟩, prog_12_method_2_code, 2, (some .boolean), 10),
  (⟨"SealedHouse", "arrive", "(II)I"⟩, prog_1_method_54_code, 4, (some .int), 11),
  (⟨"SealedHouse", "formOf", "(I)I"⟩, prog_1_method_55_code, 5, (some .int), 11),
  (⟨"SealedHouse", "takeSealed", "(II)I"⟩, prog_1_method_56_code, 8, (some .int), 11),
  (⟨"SealedHouse$Device", "findSession", "(II)LSealedHouse$Session;"⟩, prog_2_method_7_code, 4, (some (.object "SealedHouse$Session")), 0),
  (⟨"SealedHouse", "answerSession", "(II)LSealedHouse$Session;"⟩, prog_1_method_58_code, 13, (some (.object "SealedHouse$Session")), 11),
  (⟨"SealedHouse$Device", "findPrekey", "(LSealedHouse$Terms;I)LSealedHouse$Prekey;"⟩, prog_2_method_4_code, 4, (some (.object "SealedHouse$Prekey")), 0),
  (⟨"SealedHouse$Device", "takeOnce", "(LSealedHouse$Terms;I)I"⟩, prog_2_method_5_code, 6, (some .int), 0),
  (⟨"SealedHouse$Prekey", "addBase", "(I)Z"⟩, prog_8_method_4_code, 3, (some .boolean), 6),
  (⟨"SealedHouse$Inbound", "takeLeft", "(II)I"⟩, prog_4_method_6_code, 5, (some .int), 2),
  (⟨"SealedHouse$Inbound", "removeLeft", "(I)V"⟩, prog_4_method_7_code, 2, (none), 2),
  (⟨"SealedHouse$Session", "follow", "(LSealedHouse$Terms;I)Z"⟩, prog_9_method_7_code, 6, (some .boolean), 7),
  (⟨"SealedHouse$Inbound", "skipTo", "(LSealedHouse$Terms;I)Z"⟩, prog_4_method_8_code, 4, (some .boolean), 2),
  (⟨"SealedHouse$Session", "turnToReceive", "(LSealedHouse$Terms;I)V"⟩, prog_9_method_8_code, 4, (none), 7),
  (⟨"SealedHouse$Inbound", "nextKey", "(LSealedHouse$Terms;I)I"⟩, prog_4_method_9_code, 4, (some .int), 2),
  (⟨"SealedHouse", "takeBody", "(IIZ)I"⟩, prog_1_method_57_code, 4, (some .int), 11)]
def tm_Ms5 : List tm_MT := [(⟨"SealedHouse$Ledger", "expect", "(IIIZ)V"⟩, prog_6_method_10_code, 5, (none), 4),
  (⟨"SealedHouse$Membership", "accept", "(LSealedHouse$Terms;IIZ)V"⟩, prog_7_method_7_code, 8, (none), 5),
  (⟨"SealedHouse", "takeList", "(II)I"⟩, prog_1_method_59_code, 9, (some .int), 11),
  (⟨"SealedHouse", "takePost", "(II)I"⟩, prog_1_method_60_code, 12, (some .int), 11),
  (⟨"SealedHouse$Membership", "find", "(II)LSealedHouse$Given;"⟩, prog_7_method_8_code, 4, (some (.object "SealedHouse$Given")), 5),
  (⟨"SealedHouse$Ledger", "noteTaken", "(LSealedHouse$Terms;I)V"⟩, prog_6_method_11_code, 5, (none), 4),
  (⟨"SealedHouse$Ledger", "letterWith", "(LSealedHouse$Terms;I)I"⟩, prog_6_method_8_code, 4, (some .int), 4),
  (⟨"SealedHouse$Ledger", "isSentSo", "(II)Z"⟩, prog_6_method_12_code, 3, (some .boolean), 4),
  (⟨"SealedHouse$Ledger", "has", "(I)Z"⟩, prog_6_method_2_code, 2, (some .boolean), 4),
  (⟨"SealedHouse$Ledger", "of", "(II)I"⟩, prog_6_method_3_code, 3, (some .int), 4),
  (⟨"SealedHouse", "inject", "(II)I"⟩, prog_1_method_8_code, 4, (some .int), 11),
  (⟨"SealedHouse", "held", "(I)I"⟩, prog_1_method_40_code, 2, (some .int), 11),
  (⟨"SealedHouse", "isRegister", "(I)Z"⟩, prog_1_method_36_code, 1, (some .boolean), 11),
  (⟨"SealedHouse", "crash", "(II)I"⟩, prog_1_method_9_code, 3, (some .int), 11),
  (⟨"SealedHouse", "up", "(I)I"⟩, prog_1_method_10_code, 2, (some .int), 11),
  (⟨"SealedHouse$Store", "comeUp", "()Z"⟩, prog_10_method_7_code, 2, (some .boolean), 8),
  (⟨"SealedHouse", "draw", "(I)I"⟩, prog_1_method_11_code, 3, (some .int), 11),
  (⟨"SealedHouse", "keep", "(II)I"⟩, prog_1_method_41_code, 3, (some .int), 11),
  (⟨"SealedHouse", "take", "(III)I"⟩, prog_1_method_12_code, 4, (some .int), 11),
  (⟨"SealedHouse", "onOffer", "(II)I"⟩, prog_1_method_42_code, 3, (some .int), 11),
  (⟨"SealedHouse", "part", "(III)I"⟩, prog_1_method_13_code, 6, (some .int), 11),
  (⟨"SealedHouse", "unseal", "(III)I"⟩, prog_1_method_14_code, 6, (some .int), 11),
  (⟨"SealedHouse", "make", "(IIII)I"⟩, prog_1_method_15_code, 5, (some .int), 11),
  (⟨"SealedHouse", "composed", "(III)I"⟩, prog_1_method_43_code, 5, (some .int), 11)]
def tm_Ms6 : List tm_MT := [(⟨"SealedHouse", "seal", "(IIII)I"⟩, prog_1_method_16_code, 8, (some .int), 11),
  (⟨"SealedHouse", "alter", "(IIII)I"⟩, prog_1_method_17_code, 6, (some .int), 11),
  (⟨"SealedHouse$Terms", "withKind", "(II)I"⟩, prog_11_method_17_code, 3, (some .int), 9),
  (⟨"SealedHouse$Terms", "changed", "(III)I"⟩, prog_11_method_20_code, 4, (some .int), 9),
  (⟨"SealedHouse$Terms", "withNumber", "(III)I"⟩, prog_11_method_18_code, 4, (some .int), 9),
  (⟨"SealedHouse", "swap", "(IIII)I"⟩, prog_1_method_18_code, 7, (some .int), 11),
  (⟨"SealedHouse$Terms", "withPart", "(III)I"⟩, prog_11_method_19_code, 4, (some .int), 9),
  (⟨"SealedHouse", "plant", "(III)I"⟩, prog_1_method_19_code, 5, (some .int), 11),
  (⟨"SealedHouse", "look", "(I)I"⟩, prog_1_method_20_code, 3, (some .int), 11),
  (⟨"SealedHouse$Store", "copyTerms", "([I)I"⟩, prog_10_method_10_code, 5, (some .int), 8),
  (⟨"SealedHouse$Ledger", "noteLook", "(II)V"⟩, prog_6_method_9_code, 3, (none), 4),
  (⟨"SealedHouse", "same", "(II)I"⟩, prog_1_method_21_code, 5, (some .int), 11),
  (⟨"SealedHouse", "about", "(II)I"⟩, prog_1_method_22_code, 5, (some .int), 11),
  (⟨"SealedHouse", "derived", "(I)I"⟩, prog_1_method_23_code, 2, (some .int), 11),
  (⟨"SealedHouse$Ledger", "secretOf", "(I)I"⟩, prog_6_method_4_code, 2, (some .int), 4),
  (⟨"SealedHouse", "letter", "(I)I"⟩, prog_1_method_24_code, 2, (some .int), 11),
  (⟨"SealedHouse", "taken", "(II)I"⟩, prog_1_method_25_code, 3, (some .int), 11),
  (⟨"SealedHouse$Ledger", "lastTaken", "(II)I"⟩, prog_6_method_13_code, 3, (some .int), 4),
  (⟨"SealedHouse", "device", "(II)I"⟩, prog_1_method_26_code, 5, (some .int), 11),
  (⟨"SealedHouse$Store", "entries", "()I"⟩, prog_10_method_8_code, 1, (some .int), 8),
  (⟨"SealedHouse$Store", "termsLying", "()I"⟩, prog_10_method_9_code, 4, (some .int), 8),
  (⟨"SealedHouse", "session", "(IIII)I"⟩, prog_1_method_27_code, 5, (some .int), 11),
  (⟨"SealedHouse$Session", "tell", "(I)I"⟩, prog_9_method_10_code, 2, (some .int), 7),
  (⟨"SealedHouse", "group", "(III)I"⟩, prog_1_method_28_code, 4, (some .int), 11)]
def tm_Ms7 : List tm_MT := [(⟨"SealedHouse$Membership", "tell", "(I)I"⟩, prog_7_method_10_code, 2, (some .int), 5),
  (⟨"SealedHouse$Membership", "tellGiven", "(II)I"⟩, prog_7_method_11_code, 4, (some .int), 5),
  (⟨"SealedHouse", "count", "(I)I"⟩, prog_1_method_29_code, 2, (some .int), 11),
  (⟨"SealedHouse", "forged", "()I"⟩, prog_1_method_30_code, 1, (some .int), 11),
  (⟨"SealedHouse", "doubled", "()I"⟩, prog_1_method_31_code, 1, (some .int), 11),
  (⟨"SealedHouse", "leaked", "()I"⟩, prog_1_method_32_code, 3, (some .int), 11),
  (⟨"SealedHouse$Ledger", "isSheltered", "(LSealedHouse$Terms;I)Z"⟩, prog_6_method_14_code, 5, (some .boolean), 4),
  (⟨"SealedHouse$Ledger", "hasFreshKeys", "(LSealedHouse$Terms;I)Z"⟩, prog_6_method_15_code, 7, (some .boolean), 4),
  (⟨"SealedHouse$Terms", "drawnFor", "(I)I"⟩, prog_11_method_8_code, 2, (some .int), 9),
  (⟨"SealedHouse$Terms", "drawnBy", "(I)I"⟩, prog_11_method_7_code, 2, (some .int), 9),
  (⟨"SealedHouseModel", "<init>", "()V"⟩, prog_14_method_44_code, 3, (none), 12),
  (⟨"SealedHouseModel", "drawn", "(IZ)I"⟩, prog_14_method_10_code, 3, (some .int), 12),
  (⟨"SealedHouseModel", "term", "(IIII)I"⟩, prog_14_method_8_code, 9, (some .int), 12),
  (⟨"SealedHouseModel", "grow", "()V"⟩, prog_14_method_6_code, 2, (none), 12),
  (⟨"SealedHouseModel", "longer", "([I)[I"⟩, prog_14_method_1_code, 3, (some (.array .int)), 12),
  (⟨"SealedHouseModel", "longerOnes", "([Z)[Z"⟩, prog_14_method_2_code, 3, (some (.array .boolean)), 12),
  (⟨"SealedHouseModel", "slot", "(I)I"⟩, prog_14_method_5_code, 3, (some .int), 12),
  (⟨"SealedHouseModel", "hashOf", "(I)I"⟩, prog_14_method_4_code, 4, (some .int), 12),
  (⟨"SealedHouseModel", "mixed", "(II)I"⟩, prog_14_method_3_code, 3, (some .int), 12),
  (⟨"SealedHouseModel", "alike", "(IIIII)Z"⟩, prog_14_method_7_code, 8, (some .boolean), 12),
  (⟨"SealedHouseModel", "publicOf", "(I)I"⟩, prog_14_method_11_code, 2, (some .int), 12),
  (⟨"SealedHouseModel", "give", "(I)V"⟩, prog_14_method_21_code, 2, (none), 12),
  (⟨"SealedHouseModel", "load", "(I)V"⟩, prog_14_method_32_code, 3, (none), 12),
  (⟨"SealedHouseModel", "list", "(I)V"⟩, prog_14_method_38_code, 4, (none), 12)]
def tm_Ms8 : List tm_MT := [(⟨"SealedHouseModel", "enter", "(II)V"⟩, prog_14_method_34_code, 3, (none), 12),
  (⟨"SealedHouseModel", "enterPrekey", "(I)V"⟩, prog_14_method_35_code, 3, (none), 12),
  (⟨"SealedHouseModel", "sessionAt", "(II)I"⟩, prog_14_method_29_code, 2, (some .int), 12),
  (⟨"SealedHouseModel", "enterSession", "(I)V"⟩, prog_14_method_36_code, 3, (none), 12),
  (⟨"SealedHouseModel", "enterGroup", "(I)V"⟩, prog_14_method_37_code, 7, (none), 12),
  (⟨"SealedHouseModel", "groupAt", "(I)I"⟩, prog_14_method_30_code, 1, (some .int), 12),
  (⟨"SealedHouseModel", "givenAt", "(III)I"⟩, prog_14_method_31_code, 3, (some .int), 12),
  (⟨"SealedHouseModel", "publish", "(I)I"⟩, prog_14_method_55_code, 4, (some .int), 12),
  (⟨"SealedHouseModel", "isDevice", "(I)Z"⟩, prog_14_method_45_code, 1, (some .boolean), 12),
  (⟨"SealedHouseModel", "refused", "(ZZI)I"⟩, prog_14_method_47_code, 4, (some .int), 12),
  (⟨"SealedHouseModel", "isFull", "()Z"⟩, prog_14_method_46_code, 1, (some .boolean), 12),
  (⟨"SealedHouseModel", "commits", "(I)Z"⟩, prog_14_method_42_code, 4, (some .boolean), 12),
  (⟨"SealedHouseModel", "blocksOf", "(I)I"⟩, prog_14_method_39_code, 1, (some .int), 12),
  (⟨"SealedHouseModel", "write", "(II)Z"⟩, prog_14_method_41_code, 9, (some .boolean), 12),
  (⟨"SealedHouseModel", "keep", "(I)V"⟩, prog_14_method_33_code, 3, (none), 12),
  (⟨"SealedHouseModel", "tell", "(I)V"⟩, prog_14_method_43_code, 3, (none), 12),
  (⟨"SealedHouseModel", "rowOf", "(IIIIIII)I"⟩, prog_14_method_14_code, 8, (some .int), 12),
  (⟨"SealedHouseModel", "put", "(II)V"⟩, prog_14_method_56_code, 3, (none), 12),
  (⟨"SealedHouseModel", "begin", "(II)I"⟩, prog_14_method_57_code, 4, (some .int), 12),
  (⟨"SealedHouseModel", "begins", "(II)Z"⟩, prog_14_method_52_code, 11, (some .boolean), 12),
  (⟨"SealedHouseModel", "isGood", "(II)Z"⟩, prog_14_method_20_code, 7, (some .boolean), 12),
  (⟨"SealedHouseModel", "isRow", "(II)Z"⟩, prog_14_method_16_code, 3, (some .boolean), 12),
  (⟨"SealedHouseModel", "cell", "(II)I"⟩, prog_14_method_15_code, 3, (some .int), 12),
  (⟨"SealedHouseModel", "within", "(III)Z"⟩, prog_14_method_18_code, 3, (some .boolean), 12)]
def tm_Ms9 : List tm_MT := [(⟨"SealedHouseModel", "isBare", "(III)Z"⟩, prog_14_method_19_code, 6, (some .boolean), 12),
  (⟨"SealedHouseModel", "isPublic", "(I)Z"⟩, prog_14_method_17_code, 2, (some .boolean), 12),
  (⟨"SealedHouseModel", "shared", "(II)I"⟩, prog_14_method_12_code, 3, (some .int), 12),
  (⟨"SealedHouseModel", "agreed", "(IIII)I"⟩, prog_14_method_51_code, 7, (some .int), 12),
  (⟨"SealedHouseModel", "mix", "(III)I"⟩, prog_14_method_13_code, 4, (some .int), 12),
  (⟨"SealedHouseModel", "newSession", "(I)I"⟩, prog_14_method_50_code, 2, (some .int), 12),
  (⟨"SealedHouseModel", "front", "(II)V"⟩, prog_14_method_48_code, 4, (none), 12),
  (⟨"SealedHouseModel", "send", "(II)I"⟩, prog_14_method_58_code, 5, (some .int), 12),
  (⟨"SealedHouseModel", "chain", "(II)V"⟩, prog_14_method_53_code, 4, (none), 12),
  (⟨"SealedHouseModel", "sends", "(III)V"⟩, prog_14_method_54_code, 7, (none), 12),
  (⟨"SealedHouseModel", "list", "(II)I"⟩, prog_14_method_60_code, 5, (some .int), 12),
  (⟨"SealedHouseModel", "listed", "(III)V"⟩, prog_14_method_59_code, 7, (none), 12),
  (⟨"SealedHouseModel", "post", "(II)I"⟩, prog_14_method_61_code, 7, (some .int), 12),
  (⟨"SealedHouseModel", "deliver", "(II)I"⟩, prog_14_method_78_code, 4, (some .int), 12),
  (⟨"SealedHouseModel", "comes", "(II)I"⟩, prog_14_method_76_code, 6, (some .int), 12),
  (⟨"SealedHouseModel", "isSealed", "(II)Z"⟩, prog_14_method_75_code, 3, (some .boolean), 12),
  (⟨"SealedHouseModel", "takeSealed", "(II)I"⟩, prog_14_method_69_code, 10, (some .int), 12),
  (⟨"SealedHouseModel", "makes", "(III)Z"⟩, prog_14_method_67_code, 11, (some .boolean), 12),
  (⟨"SealedHouseModel", "prekeyAt", "(I)I"⟩, prog_14_method_65_code, 2, (some .int), 12),
  (⟨"SealedHouseModel", "onceOf", "(I)I"⟩, prog_14_method_66_code, 3, (some .int), 12),
  (⟨"SealedHouseModel", "keyOf", "(III)I"⟩, prog_14_method_64_code, 7, (some .int), 12),
  (⟨"SealedHouseModel", "skipSession", "(I)Z"⟩, prog_14_method_63_code, 3, (some .boolean), 12),
  (⟨"SealedHouseModel", "stepSession", "()V"⟩, prog_14_method_62_code, 1, (none), 12),
  (⟨"SealedHouseModel", "useUp", "(I)V"⟩, prog_14_method_68_code, 5, (none), 12)]
def tm_Ms10 : List tm_MT := [(⟨"SealedHouseModel", "exchange", "(II)V"⟩, prog_14_method_49_code, 5, (none), 12),
  (⟨"SealedHouseModel", "gift", "(II)I"⟩, prog_14_method_70_code, 7, (some .int), 12),
  (⟨"SealedHouseModel", "takeList", "(II)I"⟩, prog_14_method_71_code, 8, (some .int), 12),
  (⟨"SealedHouseModel", "takePost", "(II)I"⟩, prog_14_method_74_code, 12, (some .int), 12),
  (⟨"SealedHouseModel", "mailKey", "(I)I"⟩, prog_14_method_73_code, 5, (some .int), 12),
  (⟨"SealedHouseModel", "stepMail", "()V"⟩, prog_14_method_72_code, 1, (none), 12),
  (⟨"SealedHouseModel", "forget", "(I)V"⟩, prog_14_method_9_code, 2, (none), 12),
  (⟨"SealedHouseModel", "tells", "(IIZ)V"⟩, prog_14_method_77_code, 10, (none), 12),
  (⟨"SealedHouseModel", "inject", "(II)I"⟩, prog_14_method_79_code, 4, (some .int), 12),
  (⟨"SealedHouseModel", "isHeld", "(I)Z"⟩, prog_14_method_83_code, 2, (some .boolean), 12),
  (⟨"SealedHouseModel", "isRegister", "(I)Z"⟩, prog_14_method_82_code, 1, (some .boolean), 12),
  (⟨"SealedHouseModel", "crash", "(II)I"⟩, prog_14_method_80_code, 4, (some .int), 12),
  (⟨"SealedHouseModel", "up", "(I)I"⟩, prog_14_method_81_code, 2, (some .int), 12),
  (⟨"SealedHouseModel", "empty", "(II)V"⟩, prog_14_method_40_code, 4, (none), 12),
  (⟨"SealedHouseModel", "draw", "(I)I"⟩, prog_14_method_85_code, 3, (some .int), 12),
  (⟨"SealedHouseModel", "set", "(II)I"⟩, prog_14_method_84_code, 3, (some .int), 12),
  (⟨"SealedHouseModel", "take", "(III)I"⟩, prog_14_method_86_code, 4, (some .int), 12),
  (⟨"SealedHouseModel", "part", "(III)I"⟩, prog_14_method_87_code, 5, (some .int), 12),
  (⟨"SealedHouseModel", "unseal", "(III)I"⟩, prog_14_method_88_code, 4, (some .int), 12),
  (⟨"SealedHouseModel", "make", "(IIII)I"⟩, prog_14_method_89_code, 7, (some .int), 12),
  (⟨"SealedHouseModel", "seal", "(IIII)I"⟩, prog_14_method_90_code, 5, (some .int), 12),
  (⟨"SealedHouseModel", "alter", "(IIII)I"⟩, prog_14_method_92_code, 5, (some .int), 12),
  (⟨"SealedHouseModel", "copies", "(IIII)Z"⟩, prog_14_method_91_code, 6, (some .boolean), 12),
  (⟨"SealedHouseModel", "swap", "(IIII)I"⟩, prog_14_method_93_code, 5, (some .int), 12)]
def tm_Ms11 : List tm_MT := [(⟨"SealedHouseModel", "plant", "(III)I"⟩, prog_14_method_94_code, 4, (some .int), 12),
  (⟨"SealedHouseModel", "look", "(I)I"⟩, prog_14_method_96_code, 2, (some .int), 12),
  (⟨"SealedHouseModel", "lying", "(IZ)I"⟩, prog_14_method_95_code, 9, (some .int), 12),
  (⟨"SealedHouseModel", "same", "(II)I"⟩, prog_14_method_97_code, 3, (some .int), 12),
  (⟨"SealedHouseModel", "about", "(II)I"⟩, prog_14_method_98_code, 4, (some .int), 12),
  (⟨"SealedHouseModel", "derived", "(I)I"⟩, prog_14_method_99_code, 2, (some .int), 12),
  (⟨"SealedHouseModel", "derive", "()V"⟩, prog_14_method_28_code, 3, (none), 12),
  (⟨"SealedHouseModel", "canMake", "(I)Z"⟩, prog_14_method_25_code, 2, (some .boolean), 12),
  (⟨"SealedHouseModel", "hasPublic", "(I)Z"⟩, prog_14_method_23_code, 3, (some .boolean), 12),
  (⟨"SealedHouseModel", "findPublic", "(I)I"⟩, prog_14_method_24_code, 4, (some .int), 12),
  (⟨"SealedHouseModel", "has", "(I)Z"⟩, prog_14_method_22_code, 2, (some .boolean), 12),
  (⟨"SealedHouseModel", "learn", "(I)Z"⟩, prog_14_method_26_code, 2, (some .boolean), 12),
  (⟨"SealedHouseModel", "open", "(I)Z"⟩, prog_14_method_27_code, 4, (some .boolean), 12),
  (⟨"SealedHouseModel", "letter", "(I)I"⟩, prog_14_method_100_code, 2, (some .int), 12),
  (⟨"SealedHouseModel", "taken", "(II)I"⟩, prog_14_method_101_code, 3, (some .int), 12),
  (⟨"SealedHouseModel", "device", "(II)I"⟩, prog_14_method_102_code, 3, (some .int), 12),
  (⟨"SealedHouseModel", "session", "(IIII)I"⟩, prog_14_method_103_code, 6, (some .int), 12),
  (⟨"SealedHouseModel", "group", "(III)I"⟩, prog_14_method_104_code, 9, (some .int), 12),
  (⟨"SealedHouseModel", "count", "(I)I"⟩, prog_14_method_105_code, 2, (some .int), 12),
  (⟨"SealedHouseModel", "forged", "()I"⟩, prog_14_method_106_code, 1, (some .int), 12),
  (⟨"SealedHouseModel", "doubled", "()I"⟩, prog_14_method_107_code, 1, (some .int), 12),
  (⟨"SealedHouseModel", "leaked", "()I"⟩, prog_14_method_109_code, 3, (some .int), 12),
  (⟨"SealedHouseModel", "isSafe", "(I)Z"⟩, prog_14_method_108_code, 6, (some .boolean), 12)]
/-- all methods; the last one is the law -/
def tm_Ms : List tm_MT := tm_Ms0 ++ (tm_Ms1 ++ (tm_Ms2 ++ (tm_Ms3 ++ (tm_Ms4 ++ (tm_Ms5 ++ (tm_Ms6 ++ (tm_Ms7 ++ (tm_Ms8 ++ (tm_Ms9 ++ (tm_Ms10 ++ (tm_Ms11 ++ ([(x, code, maxLocals, ret, 13)] : List tm_MT))))))))))))
def tm_Mp : List Nat := [130, 133, 138, 167, 192, 214, 218, 275, 282, 309, 315, 388, 395, 491, 495, 500, 507, 511, 515, 519, 522, 532, 537, 541, 545, 549, 554, 558, 562, 566, 635, 638, 642, 646, 650, 656, 660, 664, 670, 674, 679, 683, 688, 692, 697, 701, 705, 709, 713, 717, 722, 727, 732, 736, 740, 745, 751, 754, 759, 763, 767, 771, 775, 779, 783, 786, 790, 794, 800, 804, 808, 812, 816, 819, 823, 829, 833, 837, 841, 845, 849, 854, 858, 862, 868, 872, 876, 881, 885, 892, 896, 900, 904, 911, 916, 920, 924, 929, 933, 938, 942, 949, 956, 960, 964, 968, 972, 976, 980, 984, 988, 993, 997, 1001, 1007, 1011, 1017, 1022, 1026, 1032, 1036, 1040, 1048, 1052, 1056, 1060, 1064, 1069, 1073, 1077, 1082, 1086, 1089, 1093, 1097, 1101, 1105, 1109, 1113, 1117, 1121, 1125, 1129, 1133, 1137, 1142, 1146, 1150, 1154, 1158, 1162, 1166, 1170, 1174, 1178, 1182, 1186, 1191, 1196, 1201, 1205, 1209, 1213, 1217, 1221, 1225, 1229, 1233, 1237, 1241, 1246, 1250, 1254, 1258, 1262, 1266, 1270, 1274, 1279, 1284, 1288, 1292, 1295, 1298, 1302, 1306, 1309, 1314, 1318, 1322, 1327, 1331, 1335, 1339, 1342, 1346, 1350, 1353, 1356, 1557, 1560, 1564, 1568, 1572, 1575, 1579, 1583, 1587, 1591, 1595, 1599, 1603, 1607, 1611, 1615, 1618, 1622, 1626, 1630, 1634, 1638, 1642, 1646, 1650, 1654, 1658, 1662, 1666, 1670, 1674, 1678, 1682, 1686, 1690, 1694, 1698, 1702, 1706, 1710, 1714, 1718, 1722, 1726, 1730, 1734, 1738, 1742, 1746, 1750, 1754, 1757, 1761, 1765, 1769, 1773, 1777, 1781, 1785, 1789, 1793, 1797, 1801, 1805, 1809, 1813, 1817, 1821, 1825, 1829, 1833, 1837, 1841, 1845, 1849, 1853, 1857, 1861, 1865, 1869, 1873, 1877, 1881, 1885, 1889, 1893, 1897, 1901]
/-- own class, entry, kind (0 virtual, 1 constructor, 2 static, 3 Object's constructor, 4 arraycopy, 5 Math.min, 6 Math.max), method, arguments; places of: link (next: is it a nest mate's), instanceMethod or static, selects, native or code, initialized -/
abbrev tm_CT : Type := Nat × Nat × Nat × Nat × Nat × Nat × Nat × Nat × Nat × Nat
def tm_calls0 : List tm_CT := [(13, 9, 1, 0, 0, 128, 0, 129, 0, 110), (11, 3, 3, 1, 0, 131, 0, 132, 0, 0), (11, 11, 1, 2, 0, 136, 1, 137, 0, 111), (9, 3, 3, 1, 0, 139, 0, 132, 0, 0),
  (11, 18, 1, 3, 1, 165, 0, 166, 0, 112), (3, 5, 3, 1, 0, 168, 0, 132, 0, 0), (11, 27, 1, 4, 0, 190, 1, 191, 0, 113), (10, 3, 3, 1, 0, 193, 0, 132, 0, 0),
  (11, 34, 1, 5, 0, 212, 0, 213, 0, 114), (4, 3, 3, 1, 0, 215, 0, 132, 0, 0), (4, 33, 2, 6, 2, 216, 0, 217, 0, 115), (11, 64, 1, 7, 0, 273, 0, 274, 0, 116),
  (0, 3, 3, 1, 0, 276, 0, 132, 0, 0), (0, 11, 1, 8, 0, 280, 1, 281, 0, 117), (6, 3, 3, 1, 0, 283, 0, 132, 0, 0), (0, 40, 1, 9, 0, 307, 1, 308, 0, 118),
  (7, 3, 3, 1, 0, 310, 0, 132, 0, 0), (7, 11, 1, 10, 0, 313, 1, 314, 0, 119), (2, 3, 3, 1, 0, 316, 0, 132, 0, 0), (0, 41, 1, 11, 0, 386, 0, 387, 0, 120),
  (5, 3, 3, 1, 0, 389, 0, 132, 0, 0), (5, 21, 1, 12, 0, 393, 1, 394, 0, 121), (1, 3, 3, 1, 0, 396, 0, 132, 0, 0), (1, 11, 1, 10, 0, 398, 1, 314, 0, 119),
  (11, 69, 0, 13, 2, 488, 0, 489, 490, 111), (9, 42, 0, 14, 2, 492, 0, 494, 0, 111), (9, 75, 2, 6, 2, 496, 0, 217, 0, 115), (9, 46, 0, 15, 0, 497, 0, 499, 1, 111),
  (9, 69, 4, 0, 5, 501, 0, 502, 503, 122), (11, 73, 0, 16, 1, 504, 0, 505, 506, 111), (9, 50, 0, 17, 1, 508, 0, 509, 510, 111), (11, 77, 0, 18, 1, 512, 0, 513, 514, 112),
  (3, 31, 0, 19, 0, 516, 0, 518, 2, 112), (3, 50, 2, 20, 2, 520, 0, 521, 0, 115), (14, 304, 5, 0, 2, 530, 0, 531, 532, 123), (14, 150, 4, 0, 5, 533, 0, 502, 503, 122),
  (3, 59, 0, 22, 2, 534, 0, 536, 3, 112), (3, 67, 0, 23, 2, 538, 0, 539, 540, 111), (3, 63, 0, 24, 1, 542, 0, 544, 4, 112), (3, 75, 0, 25, 1, 546, 0, 547, 548, 112),
  (3, 71, 0, 17, 1, 550, 0, 509, 510, 111), (3, 34, 0, 26, 1, 551, 0, 553, 5, 112), (3, 44, 0, 27, 1, 555, 0, 557, 6, 112), (3, 47, 0, 28, 1, 559, 0, 561, 7, 112),
  (11, 85, 1, 29, 1, 564, 0, 565, 0, 124), (8, 3, 3, 1, 0, 567, 0, 132, 0, 0), (13, 13, 0, 30, 1, 632, 0, 633, 634, 110), (11, 87, 2, 31, 1, 636, 0, 637, 0, 110),
  (11, 91, 0, 32, 2, 639, 0, 641, 8, 110), (11, 231, 0, 33, 0, 643, 0, 645, 9, 110), (11, 246, 0, 34, 0, 647, 0, 648, 649, 111), (9, 29, 2, 20, 2, 652, 0, 521, 0, 115),
  (11, 95, 0, 35, 1, 653, 0, 655, 10, 110), (11, 342, 0, 36, 1, 657, 0, 658, 659, 116), (0, 49, 0, 37, 1, 661, 0, 662, 663, 117), (6, 25, 4, 0, 5, 665, 0, 502, 503, 122),
  (0, 56, 4, 0, 5, 666, 0, 502, 503, 122), (0, 62, 0, 38, 1, 667, 0, 668, 669, 118), (7, 18, 0, 39, 1, 671, 0, 672, 673, 119), (2, 28, 4, 0, 5, 675, 0, 502, 503, 122)]
def tm_calls1 : List tm_CT := [(0, 65, 0, 40, 1, 676, 0, 677, 678, 120), (5, 51, 0, 41, 1, 680, 0, 681, 682, 121), (1, 18, 0, 39, 1, 684, 0, 672, 673, 119), (11, 346, 0, 42, 0, 685, 0, 686, 687, 113),
  (11, 98, 0, 43, 2, 689, 0, 690, 691, 116), (0, 68, 0, 13, 2, 693, 0, 489, 490, 111), (0, 74, 0, 44, 2, 694, 0, 695, 696, 117), (11, 102, 0, 45, 1, 698, 0, 700, 11, 110),
  (11, 349, 0, 46, 1, 702, 0, 703, 704, 116), (0, 99, 0, 47, 0, 706, 0, 707, 708, 124), (0, 104, 0, 48, 2, 710, 0, 711, 712, 124), (0, 107, 0, 49, 1, 714, 0, 715, 716, 117),
  (6, 31, 0, 48, 2, 718, 0, 711, 712, 124), (0, 111, 0, 50, 1, 719, 0, 720, 721, 118), (7, 109, 0, 48, 2, 723, 0, 711, 712, 124), (7, 115, 0, 51, 1, 724, 0, 725, 726, 124),
  (8, 33, 0, 48, 2, 728, 0, 711, 712, 124), (7, 122, 0, 52, 1, 729, 0, 730, 731, 119), (7, 125, 0, 53, 1, 733, 0, 734, 735, 119), (0, 112, 0, 54, 1, 737, 0, 738, 739, 120),
  (5, 112, 0, 48, 2, 741, 0, 711, 712, 124), (5, 118, 0, 55, 1, 742, 0, 743, 744, 121), (1, 36, 0, 48, 2, 746, 0, 711, 712, 124), (1, 45, 0, 52, 1, 747, 0, 730, 731, 119),
  (11, 353, 0, 56, 0, 748, 0, 749, 750, 124), (8, 37, 2, 57, 1, 752, 0, 753, 0, 124), (8, 41, 5, 0, 2, 755, 0, 531, 532, 123), (11, 105, 0, 58, 1, 756, 0, 758, 12, 110),
  (11, 358, 0, 59, 4, 760, 0, 762, 13, 110), (11, 177, 0, 60, 5, 764, 0, 765, 766, 111), (11, 181, 0, 61, 4, 768, 0, 769, 770, 111), (11, 185, 0, 62, 2, 772, 0, 773, 774, 111),
  (11, 361, 0, 63, 3, 776, 0, 778, 14, 110), (13, 18, 0, 64, 2, 780, 0, 781, 782, 110), (11, 117, 2, 65, 2, 784, 0, 785, 0, 110), (11, 121, 0, 66, 2, 787, 0, 789, 15, 110),
  (11, 371, 0, 67, 1, 791, 0, 793, 16, 110), (11, 243, 0, 23, 2, 795, 0, 539, 540, 111), (11, 240, 0, 17, 1, 796, 0, 509, 510, 111), (11, 388, 0, 68, 2, 797, 0, 798, 799, 111),
  (9, 79, 0, 69, 1, 801, 0, 802, 803, 111), (9, 82, 0, 70, 2, 805, 0, 807, 17, 111), (9, 35, 0, 71, 2, 809, 0, 810, 811, 111), (9, 89, 2, 31, 1, 813, 1, 637, 0, 110),
  (9, 93, 2, 72, 1, 814, 0, 815, 0, 111), (9, 96, 2, 73, 1, 817, 1, 818, 0, 110), (9, 86, 0, 74, 2, 820, 0, 822, 18, 111), (9, 54, 0, 23, 2, 824, 0, 539, 540, 111),
  (11, 281, 0, 71, 2, 825, 0, 810, 811, 111), (11, 374, 0, 75, 1, 826, 0, 828, 19, 110), (11, 339, 0, 76, 2, 830, 0, 831, 832, 111), (9, 57, 5, 0, 2, 834, 0, 531, 532, 123),
  (9, 62, 6, 0, 2, 835, 0, 836, 837, 123), (11, 336, 0, 78, 3, 838, 0, 839, 840, 111), (11, 377, 0, 79, 1, 842, 0, 843, 844, 116), (0, 90, 0, 80, 2, 846, 0, 847, 848, 116),
  (0, 94, 5, 0, 2, 850, 0, 531, 532, 123), (11, 380, 0, 81, 4, 851, 0, 852, 853, 118), (7, 54, 0, 82, 3, 855, 0, 856, 857, 119), (11, 384, 0, 83, 3, 859, 0, 860, 861, 118)]
def tm_calls2 : List tm_CT := [(7, 58, 0, 76, 2, 863, 0, 831, 832, 111), (7, 64, 0, 78, 3, 864, 0, 839, 840, 111), (13, 23, 0, 84, 2, 865, 0, 866, 867, 110), (11, 128, 0, 85, 1, 869, 0, 870, 871, 116),
  (11, 132, 0, 86, 2, 873, 0, 874, 875, 118), (7, 71, 0, 13, 2, 877, 0, 489, 490, 111), (11, 137, 0, 87, 1, 878, 0, 880, 20, 110), (11, 140, 0, 88, 4, 882, 0, 883, 884, 118),
  (7, 74, 0, 60, 5, 886, 0, 765, 766, 111), (7, 78, 0, 16, 1, 887, 0, 505, 506, 111), (7, 82, 0, 61, 4, 888, 0, 769, 770, 111), (7, 86, 0, 89, 3, 889, 0, 890, 891, 111),
  (11, 144, 0, 90, 1, 893, 0, 894, 895, 113), (11, 147, 0, 91, 5, 897, 0, 898, 899, 114), (4, 51, 0, 92, 4, 901, 0, 903, 21, 114), (4, 81, 5, 0, 2, 905, 0, 531, 532, 123),
  (4, 86, 0, 69, 1, 906, 0, 802, 803, 111), (4, 73, 0, 23, 2, 907, 0, 539, 540, 111), (11, 151, 0, 93, 2, 908, 0, 909, 910, 113), (10, 25, 0, 18, 1, 912, 0, 513, 514, 112),
  (13, 27, 0, 94, 2, 913, 0, 914, 915, 110), (11, 155, 2, 73, 1, 917, 0, 818, 0, 110), (11, 158, 2, 95, 2, 918, 0, 919, 0, 110), (11, 173, 0, 96, 2, 921, 0, 922, 923, 120),
  (5, 55, 2, 95, 2, 925, 1, 919, 0, 110), (13, 31, 0, 97, 2, 926, 0, 927, 928, 110), (11, 188, 0, 98, 2, 930, 0, 931, 932, 120), (5, 59, 0, 13, 2, 934, 0, 489, 490, 111),
  (11, 191, 0, 99, 3, 935, 0, 937, 22, 110), (11, 391, 0, 100, 2, 939, 0, 940, 941, 120), (5, 65, 0, 60, 5, 943, 0, 765, 766, 111), (5, 69, 0, 16, 1, 944, 0, 505, 506, 111),
  (5, 73, 0, 61, 4, 945, 0, 769, 770, 111), (11, 195, 0, 101, 4, 946, 0, 947, 948, 120), (5, 77, 0, 78, 3, 950, 0, 839, 840, 111), (5, 81, 0, 89, 3, 951, 0, 890, 891, 111),
  (5, 84, 0, 62, 2, 952, 0, 773, 774, 111), (11, 201, 0, 102, 5, 953, 0, 954, 955, 114), (13, 35, 0, 103, 2, 957, 0, 958, 959, 110), (11, 205, 0, 104, 1, 961, 0, 962, 963, 113),
  (11, 211, 0, 105, 2, 965, 0, 967, 23, 110), (11, 398, 0, 106, 1, 969, 0, 971, 24, 110), (11, 401, 0, 107, 2, 973, 0, 975, 25, 110), (11, 413, 0, 108, 2, 977, 0, 978, 979, 116),
  (11, 416, 0, 109, 2, 981, 0, 983, 26, 110), (11, 455, 0, 110, 2, 985, 0, 986, 987, 116), (0, 83, 0, 16, 1, 989, 0, 505, 506, 111), (11, 459, 0, 111, 2, 990, 0, 991, 992, 116),
  (11, 462, 0, 112, 1, 994, 0, 995, 996, 117), (11, 423, 0, 113, 2, 998, 0, 999, 1000, 119), (2, 34, 0, 53, 1, 1002, 0, 734, 735, 119), (2, 38, 0, 52, 1, 1003, 0, 730, 731, 119),
  (2, 41, 0, 114, 1, 1004, 0, 1006, 27, 119), (11, 428, 0, 115, 2, 1008, 0, 1009, 1010, 118), (7, 89, 0, 23, 2, 1012, 0, 539, 540, 111), (7, 92, 0, 71, 2, 1013, 0, 810, 811, 111),
  (7, 101, 0, 116, 2, 1014, 0, 1015, 1016, 119), (2, 45, 0, 78, 3, 1018, 0, 839, 840, 111), (7, 105, 0, 117, 2, 1019, 0, 1021, 28, 118), (11, 431, 0, 118, 2, 1023, 0, 1024, 1025, 119)]
def tm_calls3 : List tm_CT := [(2, 51, 0, 116, 2, 1027, 0, 1015, 1016, 119), (11, 437, 0, 80, 2, 1028, 0, 847, 848, 116), (11, 444, 0, 119, 3, 1029, 0, 1031, 29, 110), (11, 448, 0, 120, 4, 1033, 0, 1034, 1035, 114),
  (11, 451, 0, 121, 4, 1037, 0, 1038, 1039, 120), (5, 87, 0, 71, 2, 1041, 0, 810, 811, 111), (5, 98, 0, 23, 2, 1042, 0, 539, 540, 111), (5, 101, 0, 82, 3, 1043, 0, 856, 857, 119),
  (5, 107, 5, 0, 2, 1044, 0, 531, 532, 123), (11, 404, 0, 122, 2, 1045, 0, 1047, 30, 110), (11, 407, 0, 123, 2, 1049, 0, 1051, 31, 110), (11, 465, 0, 124, 2, 1053, 0, 1054, 1055, 120),
  (11, 410, 0, 125, 2, 1057, 0, 1058, 1059, 114), (4, 105, 0, 126, 2, 1061, 0, 1063, 32, 114), (4, 90, 0, 17, 1, 1065, 0, 509, 510, 111), (4, 109, 0, 127, 2, 1066, 0, 1068, 33, 114),
  (4, 43, 0, 128, 1, 1070, 0, 1071, 1072, 114), (4, 47, 0, 129, 2, 1074, 0, 1076, 34, 114), (4, 113, 2, 95, 2, 1078, 1, 919, 0, 110), (13, 39, 0, 130, 2, 1079, 0, 1080, 1081, 110),
  (11, 214, 0, 131, 1, 1083, 0, 1085, 35, 110), (11, 228, 2, 132, 1, 1087, 0, 1088, 0, 110), (13, 43, 0, 133, 2, 1090, 0, 1091, 1092, 110), (13, 47, 0, 134, 1, 1094, 0, 1095, 1096, 110),
  (11, 224, 0, 135, 0, 1098, 0, 1099, 1100, 124), (13, 51, 0, 136, 1, 1102, 0, 1103, 1104, 110), (11, 234, 0, 137, 2, 1106, 0, 1108, 36, 110), (13, 55, 0, 138, 3, 1110, 0, 1111, 1112, 110),
  (11, 237, 0, 139, 2, 1114, 0, 1116, 37, 110), (13, 60, 0, 140, 3, 1118, 0, 1119, 1120, 110), (13, 64, 0, 141, 3, 1122, 0, 1123, 1124, 110), (13, 68, 0, 142, 4, 1126, 0, 1127, 1128, 110),
  (11, 249, 0, 143, 3, 1130, 0, 1132, 38, 110), (13, 73, 0, 144, 4, 1134, 0, 1135, 1136, 110), (11, 253, 0, 89, 3, 1138, 0, 890, 891, 111), (13, 77, 0, 145, 4, 1139, 0, 1140, 1141, 110),
  (11, 256, 0, 146, 2, 1143, 0, 1144, 1145, 111), (9, 65, 0, 147, 3, 1147, 0, 1149, 39, 111), (11, 259, 0, 148, 3, 1151, 0, 1152, 1153, 111), (13, 81, 0, 149, 4, 1155, 0, 1156, 1157, 110),
  (11, 262, 0, 150, 3, 1159, 0, 1160, 1161, 111), (13, 85, 0, 151, 3, 1163, 0, 1164, 1165, 110), (13, 89, 0, 152, 1, 1167, 0, 1168, 1169, 110), (11, 265, 0, 153, 1, 1171, 0, 1172, 1173, 124),
  (11, 275, 0, 154, 2, 1175, 0, 1176, 1177, 114), (13, 93, 0, 155, 2, 1179, 0, 1180, 1181, 110), (13, 97, 0, 156, 2, 1183, 0, 1184, 1185, 110), (11, 278, 0, 69, 1, 1187, 0, 802, 803, 111),
  (13, 101, 0, 157, 1, 1188, 0, 1189, 1190, 110), (11, 284, 0, 128, 1, 1192, 0, 1071, 1072, 114), (11, 285, 0, 158, 1, 1193, 0, 1194, 1195, 114), (11, 288, 0, 25, 1, 1197, 0, 547, 548, 112),
  (13, 105, 0, 159, 1, 1198, 0, 1199, 1200, 110), (13, 109, 0, 160, 2, 1202, 0, 1203, 1204, 110), (11, 294, 0, 161, 2, 1206, 0, 1207, 1208, 114), (13, 113, 0, 162, 2, 1210, 0, 1211, 1212, 110),
  (11, 303, 0, 163, 0, 1214, 0, 1215, 1216, 124), (11, 307, 0, 164, 0, 1218, 0, 1219, 1220, 124), (13, 117, 0, 165, 4, 1222, 0, 1223, 1224, 110), (11, 317, 0, 166, 1, 1226, 0, 1227, 1228, 118)]
def tm_calls4 : List tm_CT := [(13, 121, 0, 167, 3, 1230, 0, 1231, 1232, 110), (11, 319, 0, 168, 1, 1234, 0, 1235, 1236, 120), (5, 122, 0, 169, 2, 1238, 0, 1240, 40, 120), (5, 125, 2, 31, 1, 1242, 1, 637, 0, 110),
  (13, 125, 0, 170, 1, 1243, 0, 1244, 1245, 110), (13, 129, 0, 171, 0, 1247, 0, 1248, 1249, 110), (13, 134, 0, 172, 0, 1251, 0, 1252, 1253, 110), (13, 138, 0, 173, 0, 1255, 0, 1256, 1257, 110),
  (11, 332, 0, 174, 2, 1259, 0, 1260, 1261, 114), (4, 122, 0, 175, 2, 1263, 0, 1265, 41, 114), (4, 126, 0, 176, 1, 1267, 0, 1268, 1269, 111), (4, 129, 0, 177, 1, 1271, 0, 1272, 1273, 111),
  (13, 12, 1, 178, 0, 1277, 0, 1278, 0, 125), (12, 268, 3, 1, 0, 1280, 0, 132, 0, 0), (12, 306, 0, 179, 2, 1281, 0, 1283, 42, 125), (12, 85, 0, 180, 4, 1285, 0, 1287, 43, 125),
  (12, 59, 0, 181, 0, 1289, 0, 1291, 44, 125), (12, 35, 2, 182, 1, 1293, 0, 1294, 0, 125), (12, 43, 2, 183, 1, 1296, 0, 1297, 0, 125), (12, 53, 0, 184, 1, 1299, 0, 1301, 45, 125),
  (12, 24, 0, 185, 1, 1303, 0, 1305, 46, 125), (12, 11, 2, 186, 2, 1307, 0, 1308, 0, 125), (12, 63, 0, 187, 5, 1311, 0, 1313, 47, 125), (12, 310, 0, 188, 1, 1315, 0, 1317, 48, 125),
  (12, 219, 0, 189, 1, 1319, 0, 1321, 49, 125), (12, 313, 0, 190, 1, 1324, 0, 1326, 50, 125), (12, 189, 0, 191, 1, 1328, 0, 1330, 51, 125), (12, 150, 0, 192, 2, 1332, 0, 1334, 52, 125),
  (12, 161, 0, 193, 1, 1336, 0, 1338, 53, 125), (12, 165, 2, 194, 2, 1340, 0, 1341, 0, 125), (12, 168, 0, 195, 1, 1343, 0, 1345, 54, 125), (12, 171, 0, 196, 1, 1347, 0, 1349, 55, 125),
  (12, 129, 2, 197, 1, 1351, 0, 1352, 0, 125), (12, 154, 2, 198, 3, 1354, 0, 1355, 0, 125), (13, 17, 0, 199, 1, 1554, 0, 1555, 1556, 125), (12, 338, 2, 200, 1, 1558, 0, 1559, 0, 125),
  (12, 341, 0, 201, 3, 1561, 0, 1563, 56, 125), (12, 316, 0, 202, 0, 1565, 0, 1567, 57, 125), (12, 345, 0, 203, 1, 1569, 0, 1571, 58, 125), (12, 183, 2, 204, 1, 1573, 0, 1574, 0, 125),
  (12, 195, 0, 205, 2, 1576, 0, 1578, 59, 125), (12, 198, 0, 206, 1, 1580, 0, 1582, 60, 125), (12, 201, 0, 207, 1, 1584, 0, 1586, 61, 125), (12, 348, 0, 208, 7, 1588, 0, 1590, 62, 125),
  (12, 352, 0, 209, 2, 1592, 0, 1594, 63, 125), (13, 22, 0, 210, 2, 1596, 0, 1597, 1598, 125), (12, 355, 0, 211, 2, 1600, 0, 1602, 64, 125), (12, 326, 0, 212, 2, 1604, 0, 1606, 65, 125),
  (12, 92, 0, 213, 2, 1608, 0, 1610, 66, 125), (12, 89, 0, 214, 2, 1612, 0, 1614, 67, 125), (12, 96, 2, 215, 3, 1616, 0, 1617, 0, 125), (12, 100, 0, 216, 3, 1619, 0, 1621, 68, 125),
  (12, 103, 0, 217, 1, 1623, 0, 1625, 69, 125), (12, 329, 0, 218, 2, 1627, 0, 1629, 70, 125), (12, 332, 0, 219, 4, 1631, 0, 1633, 71, 125), (12, 323, 0, 220, 3, 1635, 0, 1637, 72, 125),
  (12, 335, 0, 221, 1, 1639, 0, 1641, 73, 125), (12, 320, 0, 222, 2, 1643, 0, 1645, 74, 125), (13, 26, 0, 223, 2, 1647, 0, 1648, 1649, 125), (12, 358, 0, 224, 2, 1651, 0, 1653, 75, 125)]
def tm_calls5 : List tm_CT := [(12, 361, 0, 225, 3, 1655, 0, 1657, 76, 125), (13, 30, 0, 226, 2, 1659, 0, 1660, 1661, 125), (12, 365, 0, 227, 3, 1663, 0, 1665, 77, 125), (13, 34, 0, 228, 2, 1667, 0, 1668, 1669, 125),
  (13, 38, 0, 229, 2, 1671, 0, 1672, 1673, 125), (12, 429, 0, 230, 2, 1675, 0, 1677, 78, 125), (12, 404, 0, 231, 2, 1679, 0, 1681, 79, 125), (12, 407, 0, 232, 2, 1683, 0, 1685, 80, 125),
  (12, 383, 0, 233, 3, 1687, 0, 1689, 81, 125), (12, 377, 0, 234, 1, 1691, 0, 1693, 82, 125), (12, 380, 0, 235, 1, 1695, 0, 1697, 83, 125), (12, 386, 0, 236, 3, 1699, 0, 1701, 84, 125),
  (12, 374, 0, 237, 1, 1703, 0, 1705, 85, 125), (12, 368, 0, 238, 0, 1707, 0, 1709, 86, 125), (12, 389, 0, 239, 1, 1711, 0, 1713, 87, 125), (12, 392, 0, 240, 2, 1715, 0, 1717, 88, 125),
  (12, 395, 0, 241, 2, 1719, 0, 1721, 89, 125), (12, 410, 0, 242, 2, 1723, 0, 1725, 90, 125), (12, 413, 0, 243, 2, 1727, 0, 1729, 91, 125), (12, 401, 0, 244, 1, 1731, 0, 1733, 92, 125),
  (12, 398, 0, 245, 0, 1735, 0, 1737, 93, 125), (12, 416, 0, 246, 1, 1739, 0, 1741, 94, 125), (12, 419, 0, 247, 3, 1743, 0, 1745, 95, 125), (13, 42, 0, 248, 2, 1747, 0, 1748, 1749, 125),
  (12, 432, 0, 249, 1, 1751, 0, 1753, 96, 125), (12, 438, 2, 250, 1, 1755, 0, 1756, 0, 125), (13, 46, 0, 251, 2, 1758, 0, 1759, 1760, 125), (13, 50, 0, 252, 1, 1762, 0, 1763, 1764, 125),
  (12, 435, 0, 253, 2, 1766, 0, 1768, 97, 125), (13, 54, 0, 254, 1, 1770, 0, 1771, 1772, 125), (12, 441, 0, 255, 2, 1774, 0, 1776, 98, 125), (13, 59, 0, 256, 3, 1778, 0, 1779, 1780, 125),
  (13, 63, 0, 257, 3, 1782, 0, 1783, 1784, 125), (13, 67, 0, 258, 3, 1786, 0, 1787, 1788, 125), (13, 72, 0, 259, 4, 1790, 0, 1791, 1792, 125), (13, 76, 0, 260, 4, 1794, 0, 1795, 1796, 125),
  (13, 80, 0, 261, 4, 1798, 0, 1799, 1800, 125), (12, 447, 0, 262, 4, 1802, 0, 1804, 99, 125), (13, 84, 0, 263, 4, 1806, 0, 1807, 1808, 125), (13, 88, 0, 264, 3, 1810, 0, 1811, 1812, 125),
  (13, 92, 0, 265, 1, 1814, 0, 1815, 1816, 125), (12, 451, 0, 266, 2, 1818, 0, 1820, 100, 125), (13, 96, 0, 267, 2, 1822, 0, 1823, 1824, 125), (13, 100, 0, 268, 2, 1826, 0, 1827, 1828, 125),
  (13, 104, 0, 269, 1, 1830, 0, 1831, 1832, 125), (12, 454, 0, 270, 0, 1834, 0, 1836, 101, 125), (12, 123, 0, 271, 1, 1838, 0, 1840, 102, 125), (12, 114, 0, 272, 1, 1842, 0, 1844, 103, 125),
  (12, 111, 0, 273, 1, 1846, 0, 1848, 104, 125), (12, 117, 0, 274, 1, 1850, 0, 1852, 105, 125), (12, 120, 0, 275, 1, 1854, 0, 1856, 106, 125), (12, 126, 0, 276, 1, 1858, 0, 1860, 107, 125),
  (13, 108, 0, 277, 1, 1862, 0, 1863, 1864, 125), (13, 112, 0, 278, 2, 1866, 0, 1867, 1868, 125), (13, 116, 0, 279, 2, 1870, 0, 1871, 1872, 125), (13, 120, 0, 280, 4, 1874, 0, 1875, 1876, 125),
  (13, 124, 0, 281, 3, 1878, 0, 1879, 1880, 125), (13, 128, 0, 282, 1, 1882, 0, 1883, 1884, 125), (13, 133, 0, 283, 0, 1886, 0, 1887, 1888, 125), (13, 137, 0, 284, 0, 1890, 0, 1891, 1892, 125)]
def tm_calls6 : List tm_CT := [(13, 141, 0, 285, 0, 1894, 0, 1895, 1896, 125), (12, 457, 0, 286, 1, 1898, 0, 1900, 108, 125)]
def tm_calls : List tm_CT := tm_calls0 ++ (tm_calls1 ++ (tm_calls2 ++ (tm_calls3 ++ (tm_calls4 ++ (tm_calls5 ++ (tm_calls6))))))
/-- own class, entry, value, place -/
def tm_csts : List (Nat × Nat × Int32 × Nat) := [(9, 28, 65536, 651), (12, 1, -1640531535, 1310), (12, 267, 2147483647, 1323)]
