/-! the class's places but for DAY, tape, number of BLANKS, and the rows that are told: DEEDS, BLANKS as written -/
def isW (a : Nat) : Bool := (Nat.ble 61 a && Nat.ble a 76) || (Nat.ble 5 a && Nat.ble a 59 && (a % 7 == 5 || a % 7 == 6))
