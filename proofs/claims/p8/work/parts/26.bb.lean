/-- the bounds of the memory -/
def BB (a i : Nat) : Int × Int := match a with
  | 0 => match i with
    | 2 => (0, 8)
    | 7 => (0, 999)
    | 8 => (0, 65535)
    | _ => ((-2147483648), 2147483647)
  | 1 => match i with
    | 1 => (0, 200)
    | _ => ((-2147483648), 2147483647)
  | 2 => (0, 255)
  | 5 => match i with
    | 1 => (0, 40)
    | _ => ((-2147483648), 2147483647)
  | 7 => match i with
    | 1 => (0, 40)
    | _ => ((-2147483648), 2147483647)
  | 10 => (0, 1)
  | 12 => match i with
    | 1 => (0, 40)
    | _ => ((-2147483648), 2147483647)
  | 14 => match i with
    | 1 => (0, 40)
    | _ => ((-2147483648), 2147483647)
  | 17 => (0, 1)
  | 19 => match i with
    | 1 => (0, 40)
    | _ => ((-2147483648), 2147483647)
  | 21 => match i with
    | 1 => (0, 40)
    | _ => ((-2147483648), 2147483647)
  | 24 => (0, 1)
  | 26 => match i with
    | 1 => (0, 40)
    | _ => ((-2147483648), 2147483647)
  | 28 => match i with
    | 1 => (0, 40)
    | _ => ((-2147483648), 2147483647)
  | 31 => (0, 1)
  | 33 => match i with
    | 1 => (0, 40)
    | _ => ((-2147483648), 2147483647)
  | 35 => match i with
    | 1 => (0, 40)
    | _ => ((-2147483648), 2147483647)
  | 38 => (0, 1)
  | 40 => match i with
    | 1 => (0, 40)
    | _ => ((-2147483648), 2147483647)
  | 42 => match i with
    | 1 => (0, 40)
    | _ => ((-2147483648), 2147483647)
  | 45 => (0, 1)
  | 47 => match i with
    | 1 => (0, 40)
    | _ => ((-2147483648), 2147483647)
  | 49 => match i with
    | 1 => (0, 40)
    | _ => ((-2147483648), 2147483647)
  | 52 => (0, 1)
  | 54 => match i with
    | 1 => (0, 40)
    | _ => ((-2147483648), 2147483647)
  | 56 => match i with
    | 1 => (0, 40)
    | _ => ((-2147483648), 2147483647)
  | 59 => (0, 1)
  | 61 => match i with
    | 1 => (0, 16)
    | _ => ((-2147483648), 2147483647)
  | 63 => match i with
    | 1 => (0, 16)
    | _ => ((-2147483648), 2147483647)
  | 65 => match i with
    | 1 => (0, 16)
    | _ => ((-2147483648), 2147483647)
  | 67 => match i with
    | 1 => (0, 16)
    | _ => ((-2147483648), 2147483647)
  | 69 => match i with
    | 1 => (0, 16)
    | _ => ((-2147483648), 2147483647)
  | 71 => match i with
    | 1 => (0, 16)
    | _ => ((-2147483648), 2147483647)
  | 73 => match i with
    | 1 => (0, 16)
    | _ => ((-2147483648), 2147483647)
  | 75 => match i with
    | 1 => (0, 16)
    | _ => ((-2147483648), 2147483647)
  | 77 => match i with
    | 2 => (0, 160)
    | 7 => (0, 12)
    | 10 => (0, 32)
    | 11 => (0, 1)
    | _ => ((-2147483648), 2147483647)
  | 79 => ((-1), 99999)
  | 81 => (0, 160)
  | 82 => (0, 160)
  | 83 => (0, 160)
  | 86 => match i with
    | 2 => (0, 160)
    | 3 => (0, 160)
    | _ => ((-2147483648), 2147483647)
  | 88 => match i with
    | 2 => (0, 160)
    | 7 => (0, 12)
    | 10 => (0, 32)
    | 11 => (0, 1)
    | _ => ((-2147483648), 2147483647)
  | 90 => ((-1), 99999)
  | 92 => (0, 160)
  | 93 => (0, 160)
  | 94 => (0, 160)
  | 97 => match i with
    | 6 => (0, 60)
    | _ => ((-2147483648), 2147483647)
  | 102 => (0, 9)
  | 108 => (0, 1)
  | 110 => (0, 39)
  | 113 => match i with
    | 1 => (0, 16)
    | _ => ((-2147483648), 2147483647)
  | 121 => (0, 8)
  | 123 => match i with
    | 0 => (0, 8)
    | 1 => (0, 999)
    | 2 => (0, 65535)
    | 3 => (0, 60)
    | 4 => (0, 255)
    | 11 => (0, 200)
    | 12 => (0, 160)
    | 13 => (0, 160)
    | 16 => (0, 180)
    | 17 => (0, 180)
    | 18 => (0, 12)
    | 19 => (0, 99999)
    | 20 => (0, 12)
    | 40 => (0, 40)
    | 41 => (0, 16)
    | 50 => (0, 4)
    | _ => ((-2147483648), 2147483647)
  | 124 => (0, 40)
  | 125 => (0, 25)
  | 126 => (0, 16)
  | 127 => (0, 25)
  | 128 => (0, 1)
  | 129 => ((-128), 127)
  | 130 => (0, 13631487)
  | 131 => (0, 15728639)
  | 133 => (0, 180)
  | 134 => (0, 180)
  | 135 => (0, 180)
  | 136 => (0, 13631487)
  | 138 => (0, 180)
  | 139 => (0, 180)
  | 140 => (0, 180)
  | 143 => (0, 7)
  | 147 => (0, 9)
  | 148 => (0, 39)
  | 149 => (0, 25)
  | 150 => (0, 25)
  | 152 => (0, 1999999998)
  | 153 => (0, 1999999998)
  | 154 => (0, 39)
  | 155 => (0, 1999999998)
  | 157 => (0, 7)
  | 158 => (0, 16)
  | 159 => (0, 17)
  | 161 => (0, 16)
  | 163 => (0, 1000000000)
  | 165 => (0, 1)
  | 167 => (0, 1)
  | 169 => match i with
    | 4 => (0, 4)
    | _ => ((-2147483648), 2147483647)
  | 170 => match i with
    | 1 => (0, 48)
    | _ => ((-2147483648), 2147483647)
  | 173 => match i with
    | 1 => (0, 0)
    | _ => ((-2147483648), 2147483647)
  | 175 => ((-1), 12)
  | 176 => (0, 28561)
  | _ => ((-2147483648), 2147483647)
theorem iv_nb {v : Int32} (h1 : -128 ≤ v.toInt) (h2 : v.toInt ≤ 127) : vp_nar .byte v = v := by
  have h3 : v.toInt8.toInt32 = v := by
    apply Int32.toInt_inj.mp
    rw [Int8.toInt_toInt32, Int32.toInt_toInt8, Int.bmod_eq_of_le (by omega) (by omega)]
  show (match narrow .byte (.int v) with | .int y => y | _ => 0) = v
  exact h3
/-- a row of LETTERS -/
def RowAt (T : List mv_T) (a rm : Nat) : Prop := T[a]? = some (.inr (8, [some (.inl (a + 1)), none])) ∧ T[a + 1]? = some (.inl (0, rm)) ∧ BB a 1 = (0, (rm : Int)) ∧ (∀ j, BB (a + 1) j = ((-2147483648), 2147483647)) ∧ rm ≤ 48 ∧ 3 ≤ a ∧ (a ≤ 75 ∨ a = 113 ∨ 169 ≤ a)
/-- a BLANK -/
def BlankAt (T : List mv_T) (a : Nat) : Prop := T[a]? = some (.inr (0, [some (.inl (a + 1)), some (.inl (a + 3)), some (.inl (a + 5)), some (.inl (a + 6))])) ∧ RowAt T (a + 1) 40 ∧ RowAt T (a + 3) 40 ∧ T[a + 5]? = some (.inl (0, 40)) ∧ (∀ j, BB (a + 5) j = ((-2147483648), 2147483647)) ∧ T[a + 6]? = some (.inl (1, 40)) ∧ (∀ j, BB (a + 6) j = (0, 1)) ∧ 3 ≤ a ∧ a ≤ 53
def LawAt (T : List mv_T) (a : Nat) : Prop := (a = 77 ∨ a = 88) ∧ T[a]? = some (.inr (6, [some (.inl (a + 1)), some (.inl (a + 2)), none, some (.inl (a + 3)), some (.inl (a + 4)), some (.inl (a + 5)), some (.inl (a + 6)), none, some (.inl (a + 7)), some (.inl (a + 8)), none, none])) ∧ TX T
def ArrS (T : List mv_T) (a ln : Nat) (lb hb : Int) : Prop := T[a]? = some (.inl (0, ln)) ∧ (∀ j, BB a j = (lb, hb)) ∧ ln ≤ 30000
/-- the references that the office holds -/
def RX (T : List mv_T) (r : Nat → Value) (la lb : Nat) : Prop := (∀ b, b < 8 → r (3000 + b) = .ref (4 + 7 * b)) ∧ (∀ i, i < 8 → r (60000 + i) = .ref (61 + 2 * i)) ∧ r 1 = .ref la ∧ r 3 = .ref lb ∧ LawAt T la ∧ LawAt T lb
theorem law77 {T : List mv_T} (hT : TX T) : LawAt T 77 := ⟨Or.inl rfl, tl77 hT, hT⟩
theorem law88 {T : List mv_T} (hT : TX T) : LawAt T 88 := ⟨Or.inr rfl, tl88 hT, hT⟩
theorem law_b2 {T : List mv_T} {a : Nat} (h : LawAt T a) : BB a 2 = (0, 160) := by rcases h.1 with rfl | rfl <;> rfl
theorem law_b7 {T : List mv_T} {a : Nat} (h : LawAt T a) : BB a 7 = (0, 12) := by rcases h.1 with rfl | rfl <;> rfl
theorem law_b10 {T : List mv_T} {a : Nat} (h : LawAt T a) : BB a 10 = (0, 32) := by rcases h.1 with rfl | rfl <;> rfl
theorem law_b11 {T : List mv_T} {a : Nat} (h : LawAt T a) : BB a 11 = (0, 1) := by rcases h.1 with rfl | rfl <;> rfl
theorem law_a1 {T : List mv_T} {a : Nat} (h : LawAt T a) : T[a + 1]? = some (.inl (0, 160)) := by
  have hT := h.2.2
  rcases h.1 with rfl | rfl
  · exact tl78 hT
  · exact tl89 hT
theorem law_c1 {T : List mv_T} {a : Nat} (h : LawAt T a) : ∀ i, BB (a + 1) i = ((-2147483648), 2147483647) := by rcases h.1 with rfl | rfl <;> exact fun _ => rfl
theorem law_a2 {T : List mv_T} {a : Nat} (h : LawAt T a) : T[a + 2]? = some (.inl (0, 160)) := by
  have hT := h.2.2
  rcases h.1 with rfl | rfl
  · exact tl79 hT
  · exact tl90 hT
theorem law_c2 {T : List mv_T} {a : Nat} (h : LawAt T a) : ∀ i, BB (a + 2) i = ((-1), 99999) := by rcases h.1 with rfl | rfl <;> exact fun _ => rfl
theorem law_a3 {T : List mv_T} {a : Nat} (h : LawAt T a) : T[a + 3]? = some (.inl (0, 12)) := by
  have hT := h.2.2
  rcases h.1 with rfl | rfl
  · exact tl80 hT
  · exact tl91 hT
theorem law_c3 {T : List mv_T} {a : Nat} (h : LawAt T a) : ∀ i, BB (a + 3) i = ((-2147483648), 2147483647) := by rcases h.1 with rfl | rfl <;> exact fun _ => rfl
theorem law_a4 {T : List mv_T} {a : Nat} (h : LawAt T a) : T[a + 4]? = some (.inl (0, 12)) := by
  have hT := h.2.2
  rcases h.1 with rfl | rfl
  · exact tl81 hT
  · exact tl92 hT
theorem law_c4 {T : List mv_T} {a : Nat} (h : LawAt T a) : ∀ i, BB (a + 4) i = (0, 160) := by rcases h.1 with rfl | rfl <;> exact fun _ => rfl
theorem law_a5 {T : List mv_T} {a : Nat} (h : LawAt T a) : T[a + 5]? = some (.inl (0, 12)) := by
  have hT := h.2.2
  rcases h.1 with rfl | rfl
  · exact tl82 hT
  · exact tl93 hT
theorem law_c5 {T : List mv_T} {a : Nat} (h : LawAt T a) : ∀ i, BB (a + 5) i = (0, 160) := by rcases h.1 with rfl | rfl <;> exact fun _ => rfl
theorem law_a6 {T : List mv_T} {a : Nat} (h : LawAt T a) : T[a + 6]? = some (.inl (0, 12)) := by
  have hT := h.2.2
  rcases h.1 with rfl | rfl
  · exact tl83 hT
  · exact tl94 hT
theorem law_c6 {T : List mv_T} {a : Nat} (h : LawAt T a) : ∀ i, BB (a + 6) i = (0, 160) := by rcases h.1 with rfl | rfl <;> exact fun _ => rfl
theorem law_a7 {T : List mv_T} {a : Nat} (h : LawAt T a) : T[a + 7]? = some (.inl (0, 10)) := by
  have hT := h.2.2
  rcases h.1 with rfl | rfl
  · exact tl84 hT
  · exact tl95 hT
theorem law_c7 {T : List mv_T} {a : Nat} (h : LawAt T a) : ∀ i, BB (a + 7) i = ((-2147483648), 2147483647) := by rcases h.1 with rfl | rfl <;> exact fun _ => rfl
theorem law_a8 {T : List mv_T} {a : Nat} (h : LawAt T a) : T[a + 8]? = some (.inl (0, 32)) := by
  have hT := h.2.2
  rcases h.1 with rfl | rfl
  · exact tl85 hT
  · exact tl96 hT
theorem law_c8 {T : List mv_T} {a : Nat} (h : LawAt T a) : ∀ i, BB (a + 8) i = ((-2147483648), 2147483647) := by rcases h.1 with rfl | rfl <;> exact fun _ => rfl
theorem row113 {T : List mv_T} (hT : TX T) : RowAt T 113 16 := ⟨tl113 hT, tl114 hT, rfl, fun _ => rfl, by decide, by decide, by decide⟩
theorem row61 {T : List mv_T} (hT : TX T) : RowAt T 61 16 := ⟨tl61 hT, tl62 hT, rfl, fun _ => rfl, by decide, by decide, by decide⟩
theorem row63 {T : List mv_T} (hT : TX T) : RowAt T 63 16 := ⟨tl63 hT, tl64 hT, rfl, fun _ => rfl, by decide, by decide, by decide⟩
theorem row65 {T : List mv_T} (hT : TX T) : RowAt T 65 16 := ⟨tl65 hT, tl66 hT, rfl, fun _ => rfl, by decide, by decide, by decide⟩
theorem row67 {T : List mv_T} (hT : TX T) : RowAt T 67 16 := ⟨tl67 hT, tl68 hT, rfl, fun _ => rfl, by decide, by decide, by decide⟩
theorem row69 {T : List mv_T} (hT : TX T) : RowAt T 69 16 := ⟨tl69 hT, tl70 hT, rfl, fun _ => rfl, by decide, by decide, by decide⟩
theorem row71 {T : List mv_T} (hT : TX T) : RowAt T 71 16 := ⟨tl71 hT, tl72 hT, rfl, fun _ => rfl, by decide, by decide, by decide⟩
theorem row73 {T : List mv_T} (hT : TX T) : RowAt T 73 16 := ⟨tl73 hT, tl74 hT, rfl, fun _ => rfl, by decide, by decide, by decide⟩
theorem row75 {T : List mv_T} (hT : TX T) : RowAt T 75 16 := ⟨tl75 hT, tl76 hT, rfl, fun _ => rfl, by decide, by decide, by decide⟩
theorem row5 {T : List mv_T} (hT : TX T) : RowAt T 5 40 := ⟨tl5 hT, tl6 hT, rfl, fun _ => rfl, by decide, by decide, by decide⟩
theorem row7 {T : List mv_T} (hT : TX T) : RowAt T 7 40 := ⟨tl7 hT, tl8 hT, rfl, fun _ => rfl, by decide, by decide, by decide⟩
theorem blank4 {T : List mv_T} (hT : TX T) : BlankAt T 4 := ⟨tl4 hT, row5 hT, row7 hT, tl9 hT, fun _ => rfl, tl10 hT, fun _ => rfl, by decide, by decide⟩
theorem row12 {T : List mv_T} (hT : TX T) : RowAt T 12 40 := ⟨tl12 hT, tl13 hT, rfl, fun _ => rfl, by decide, by decide, by decide⟩
theorem row14 {T : List mv_T} (hT : TX T) : RowAt T 14 40 := ⟨tl14 hT, tl15 hT, rfl, fun _ => rfl, by decide, by decide, by decide⟩
theorem blank11 {T : List mv_T} (hT : TX T) : BlankAt T 11 := ⟨tl11 hT, row12 hT, row14 hT, tl16 hT, fun _ => rfl, tl17 hT, fun _ => rfl, by decide, by decide⟩
theorem row19 {T : List mv_T} (hT : TX T) : RowAt T 19 40 := ⟨tl19 hT, tl20 hT, rfl, fun _ => rfl, by decide, by decide, by decide⟩
theorem row21 {T : List mv_T} (hT : TX T) : RowAt T 21 40 := ⟨tl21 hT, tl22 hT, rfl, fun _ => rfl, by decide, by decide, by decide⟩
theorem blank18 {T : List mv_T} (hT : TX T) : BlankAt T 18 := ⟨tl18 hT, row19 hT, row21 hT, tl23 hT, fun _ => rfl, tl24 hT, fun _ => rfl, by decide, by decide⟩
theorem row26 {T : List mv_T} (hT : TX T) : RowAt T 26 40 := ⟨tl26 hT, tl27 hT, rfl, fun _ => rfl, by decide, by decide, by decide⟩
theorem row28 {T : List mv_T} (hT : TX T) : RowAt T 28 40 := ⟨tl28 hT, tl29 hT, rfl, fun _ => rfl, by decide, by decide, by decide⟩
theorem blank25 {T : List mv_T} (hT : TX T) : BlankAt T 25 := ⟨tl25 hT, row26 hT, row28 hT, tl30 hT, fun _ => rfl, tl31 hT, fun _ => rfl, by decide, by decide⟩
theorem row33 {T : List mv_T} (hT : TX T) : RowAt T 33 40 := ⟨tl33 hT, tl34 hT, rfl, fun _ => rfl, by decide, by decide, by decide⟩
theorem row35 {T : List mv_T} (hT : TX T) : RowAt T 35 40 := ⟨tl35 hT, tl36 hT, rfl, fun _ => rfl, by decide, by decide, by decide⟩
theorem blank32 {T : List mv_T} (hT : TX T) : BlankAt T 32 := ⟨tl32 hT, row33 hT, row35 hT, tl37 hT, fun _ => rfl, tl38 hT, fun _ => rfl, by decide, by decide⟩
theorem row40 {T : List mv_T} (hT : TX T) : RowAt T 40 40 := ⟨tl40 hT, tl41 hT, rfl, fun _ => rfl, by decide, by decide, by decide⟩
theorem row42 {T : List mv_T} (hT : TX T) : RowAt T 42 40 := ⟨tl42 hT, tl43 hT, rfl, fun _ => rfl, by decide, by decide, by decide⟩
theorem blank39 {T : List mv_T} (hT : TX T) : BlankAt T 39 := ⟨tl39 hT, row40 hT, row42 hT, tl44 hT, fun _ => rfl, tl45 hT, fun _ => rfl, by decide, by decide⟩
theorem row47 {T : List mv_T} (hT : TX T) : RowAt T 47 40 := ⟨tl47 hT, tl48 hT, rfl, fun _ => rfl, by decide, by decide, by decide⟩
theorem row49 {T : List mv_T} (hT : TX T) : RowAt T 49 40 := ⟨tl49 hT, tl50 hT, rfl, fun _ => rfl, by decide, by decide, by decide⟩
theorem blank46 {T : List mv_T} (hT : TX T) : BlankAt T 46 := ⟨tl46 hT, row47 hT, row49 hT, tl51 hT, fun _ => rfl, tl52 hT, fun _ => rfl, by decide, by decide⟩
theorem row54 {T : List mv_T} (hT : TX T) : RowAt T 54 40 := ⟨tl54 hT, tl55 hT, rfl, fun _ => rfl, by decide, by decide, by decide⟩
theorem row56 {T : List mv_T} (hT : TX T) : RowAt T 56 40 := ⟨tl56 hT, tl57 hT, rfl, fun _ => rfl, by decide, by decide, by decide⟩
theorem blank53 {T : List mv_T} (hT : TX T) : BlankAt T 53 := ⟨tl53 hT, row54 hT, row56 hT, tl58 hT, fun _ => rfl, tl59 hT, fun _ => rfl, by decide, by decide⟩
theorem blankAt {T : List mv_T} (hT : TX T) {k b : Nat} (hk : k < 8) (e : b = 4 + 7 * k) : BlankAt T b := by
  subst e
  match k, hk with
  | 0, _ => exact blank4 hT
  | 1, _ => exact blank11 hT
  | 2, _ => exact blank18 hT
  | 3, _ => exact blank25 hT
  | 4, _ => exact blank32 hT
  | 5, _ => exact blank39 hT
  | 6, _ => exact blank46 hT
  | 7, _ => exact blank53 hT
theorem deedAt {T : List mv_T} (hT : TX T) {k b : Nat} (hk : k < 8) (e : b = 61 + 2 * k) : RowAt T b 16 := by
  subst e
  match k, hk with
  | 0, _ => exact row61 hT
  | 1, _ => exact row63 hT
  | 2, _ => exact row65 hT
  | 3, _ => exact row67 hT
  | 4, _ => exact row69 hT
  | 5, _ => exact row71 hT
  | 6, _ => exact row73 hT
  | 7, _ => exact row75 hT
section CLS
variable {sc : pv_S} {g : pv_G} {M : pv_M} {Q : Option Value → List pv_C → Prop} {dp kc ks pc : Nat} {lo st : List Value} {T : List mv_T} {m : Nat → Nat → Int32} {n : Nat → Nat → Int64} {r : Nat → Value} {la lb : Nat}
theorem mv_qald {a t k b : Nat} {i : Int32} {X : Int} {C : String} (hd : decode M.2.2.1 pc = .ok (.aaload, 1)) (ha : T[a]? = some (.inl (t, k))) (ht : t = 4 ∨ t = 5) (hk1 : k ≤ 1000) (hx : i.toInt = X) (h1 : 0 ≤ X) (h2 : X < k) (hr : r (1000 * a + X.toNat) = .ref b) (n0 : Nat) (hp : pc + 1 = n0) (kk : PV sc g M Q dp kc ks n0 lo (.ref b :: st) (mk T m n r)) : PV sc g M Q dp kc ks pc lo (.int i :: .ref a :: st) (mk T m n r) := by
  have hf : va_rf (mv_q r a i.toNatClampNeg) = .ref b := by
    rw [iv_cl hx]
    unfold mv_q
    rw [if_pos (by omega), hr]
    rfl
  rcases ht with rfl | rfl
  · exact pv_aald hd (mk_get ha) (fun _ => rfl) (iv_in hx h1 h2) hf n0 hp kk
  · exact pv_aald hd (mk_get ha) (fun _ => rfl) (iv_in hx h1 h2) hf n0 hp kk
theorem iv_qblank {i : Int32} {X : Int} (hd : decode M.2.2.1 pc = .ok (.aaload, 1)) (hT : TX T) (R : RX T r la lb) (hx : i.toInt = X) (h1 : 0 ≤ X) (h2 : X < 8) (n0 : Nat) (hp : pc + 1 = n0) (kk : ∀ b : Nat, b = 4 + 7 * X.toNat → BlankAt T b → PV sc g M Q dp kc ks n0 lo (.ref b :: st) (mk T m n r)) : PV sc g M Q dp kc ks pc lo (.int i :: .ref 3 :: st) (mk T m n r) :=
  mv_qald (C := RX0) hd (tl3 hT) (Or.inl rfl) (by decide) hx h1 (by omega) (R.1 X.toNat (by omega)) n0 hp (kk _ rfl (blankAt hT (k := X.toNat) (by omega) rfl))
theorem iv_qdeed {i : Int32} {X : Int} (hd : decode M.2.2.1 pc = .ok (.aaload, 1)) (hT : TX T) (R : RX T r la lb) (hx : i.toInt = X) (h1 : 0 ≤ X) (h2 : X < 8) (n0 : Nat) (hp : pc + 1 = n0) (kk : ∀ b : Nat, b = 61 + 2 * X.toNat → RowAt T b 16 → PV sc g M Q dp kc ks n0 lo (.ref b :: st) (mk T m n r)) : PV sc g M Q dp kc ks pc lo (.int i :: .ref 60 :: st) (mk T m n r) :=
  mv_qald (C := RX8) hd (tl60 hT) (Or.inr rfl) (by decide) hx h1 (by omega) (R.2.1 X.toNat (by omega)) n0 hp (kk _ rfl (deedAt hT (k := X.toNat) (by omega) rfl))
theorem iv_alen0 {a k : Nat} (hd : decode M.2.2.1 pc = .ok (.arraylength, 1)) (ha : T[a]? = some (.inl (0, k))) (hk : k ≤ 100000) (n0 : Nat) (hp : pc + 1 = n0) (kk : ∀ v : Int32, v.toInt = k → PV sc g M Q dp kc ks n0 lo (.int v :: st) (mk T m n r)) : PV sc g M Q dp kc ks pc lo (.ref a :: st) (mk T m n r) :=
  pv_alen hd (mk_get ha) (by omega) rfl n0 hp (kk _ (by show (Int32.ofNat k).toInt = _; rw [Int32.toInt_ofNat_of_lt (by omega)]))
theorem iv_alen2 {a k : Nat} (hd : decode M.2.2.1 pc = .ok (.arraylength, 1)) (ha : T[a]? = some (.inl (2, k))) (hk : k ≤ 100000) (n0 : Nat) (hp : pc + 1 = n0) (kk : ∀ v : Int32, v.toInt = k → PV sc g M Q dp kc ks n0 lo (.int v :: st) (mk T m n r)) : PV sc g M Q dp kc ks pc lo (.ref a :: st) (mk T m n r) :=
  pv_alen hd (mk_get ha) (by omega) rfl n0 hp (kk _ (by show (Int32.ofNat k).toInt = _; rw [Int32.toInt_ofNat_of_lt (by omega)]))
theorem rd2 {m : Nat → Nat → Int32} {a a2 k : Nat} {u v : Int32} (h1 : u = m a k) (h2 : v = m a2 k) (h : a = a2) : u = v := by rw [h1, h2, h]
theorem wr_out {a b c i : Nat} (h : c < a ∨ b < c) : wl [(a, b, none)] c i = false := by
  cases hc : wl [(a, b, none)] c i with
  | false => rfl
  | true =>
    simp only [wl, wl1, Bool.or_eq_true, Bool.and_eq_true, Nat.ble_eq] at hc
    rcases hc with hc | hc
    · omega
    · cases hc
def pow10 (k : Int) : Int := if k ≤ 0 then 1 else if k = 1 then 10 else if k = 2 then 100 else if k = 3 then 1000 else if k = 4 then 10000 else 100000
theorem mv_c_ma {m m' : Nat → Nat → Int32} {a k : Nat} : mv_c m n r a (.inl (0, k)) = pv_i k (m a) := rfl
theorem iv_copy {idx a0 a1 k0 k1 : Nat} {sp0 dp0 cn : Int32} {X Y Z l1 l2 u1 u2 : Int} (hd : decode M.2.2.1 pc = .ok (.invokestatic idx, 3)) (hl : Cond.methodLink M.1 idx arraycopyName ∈ pv_T) (hnat : Cond.native arraycopyName ∈ pv_T) (hst : Cond.static arraycopyName ∈ pv_T) (hin : Cond.initialized "java/lang/System" ∈ pv_T) (ha0 : T[a0]? = some (.inl (0, k0))) (ha1 : T[a1]? = some (.inl (0, k1))) (hx : sp0.toInt = X) (hy : dp0.toInt = Y) (hz : cn.toInt = Z) (h1 : 0 ≤ X) (h2 : 0 ≤ Y) (h3 : 0 ≤ Z) (h4 : X + Z ≤ k0) (h5 : Y + Z ≤ k1) (hw : (st.map fun v => v.category).sum ≤ 8) (hdp : 1 ≤ dp) (I : IV BB m) (hb0 : ∀ j, BB a0 j = (l1, l2)) (hb1 : ∀ j, BB a1 j = (u1, u2)) (h6 : u1 ≤ l1) (h7 : l2 ≤ u2) (n0 : Nat) (hp : pc + 3 = n0) (kk : ∀ m' : Nat → Nat → Int32, (∀ b, b ≠ a1 → m' b = m b) → IV BB m' → PV sc g M Q dp kc ks n0 lo st (mk T m' n r)) : PV sc g M Q dp kc ks pc lo (.int cn :: .int dp0 :: .ref a1 :: .int sp0 :: .ref a0 :: st) (mk T m n r) := by
  intro p e R s mm args below meth c Xx f1 f2 f3 f4 H locs cells slots ls hH hS g1 g2 hL T0 hT0 X0
  subst hp
  have hts := Xx.2.2.2.2.2.2.2.1
  have hn : ∀ {z : Int32} {Zz : Int}, z.toInt = Zz → 0 ≤ Zz → ¬ z < 0 := fun {z Zz} q1 q2 q3 => by
    have := Int32.lt_iff_toInt_lt.mp q3
    rw [Int32.toInt_zero] at this
    omega
  have cl0 : ∀ {z : Int32} {Zz : Int}, z.toInt = Zz → 0 ≤ Zz → z.toInt = (z.toNatClampNeg : Int) := fun {z Zz} q1 q2 => by rw [iv_cl q1]; omega
  have hC0 : H[g.2.2.2 + a0]? = some (vp_cell (g.2.2.1 0) (k0, .inl (m a0))) := hH.1 a0 _ (pv_W_get (mk_get (m := m) (n := n) (r := r) ha0))
  have hC1 : H[g.2.2.2 + a1]? = some (vp_cell (g.2.2.1 0) (k1, .inl (m a1))) := hH.1 a1 _ (pv_W_get (mk_get (m := m) (n := n) (r := r) ha1))
  obtain ⟨-, kx, hkx, cx, hkkx⟩ := (Xx.2.2.2.2.2.2.2.2.1.2 0 _ rfl).1 k0 (fun j => .int (m a0 j))
  obtain ⟨-, ky, hky, cy, hkky⟩ := (Xx.2.2.2.2.2.2.2.2.1.2 0 _ rfl).1 k1 (fun j => .int (m a1 j))
  have hq4 : sp0.toNatClampNeg + cn.toNatClampNeg ≤ k0 := by rw [iv_cl hx, iv_cl hz]; omega
  obtain ⟨vm', X', stp⟩ := X0.arraycopy Xx.1 Xx.2.2.2.2.1 (hts _ hl) (hts _ hnat) (hts _ hst) (hts _ hin) (src := g.2.2.2 + a0) (dst := g.2.2.2 + a1) (cs := vp_cell (g.2.2.1 0) (k0, .inl (m a0))) (cd := vp_cell (g.2.2.1 0) (k1, .inl (m a1))) (srcPos := sp0) (destPos := dp0) (n := cn)
    (by rw [hT0]; exact hC0) (by rw [hT0]; exact hC1) (fun _ q => by cases q) (fun _ q => by cases q) (fun q => by cases q) (fun q => by cases q) hkx hky hkkx hkky rfl (hn hx h1) (hn hy h2) (hn hz h3)
    (by rw [hx, hz]; show ¬ _ > ((arrV (g.2.2.1 0) k0 (fun j => .int (m a0 j))).slots.size : Int); rw [arrV_size]; omega)
    (by rw [hy, hz]; show ¬ _ > ((arrV (g.2.2.1 0) k1 (fun j => .int (m a1 j))).slots.size : Int); rw [arrV_size]; omega)
    (fun vm₁ _ i hi => by
      have ev : (vp_cell (g.2.2.1 0) (k0, .inl (m a0))).slots.getD (sp0.toNatClampNeg + i) .null = .int (m a0 (sp0.toNatClampNeg + i)) := by
        show (arrV (g.2.2.1 0) k0 (fun j => .int (m a0 j))).slots.getD _ _ = _
        rw [Array.getD_eq_getD_getElem?, arrV_read _ _ (by omega)]
        rfl
      rw [ev]
      exact ⟨rfl, trivial⟩)
    (g := F0 mm pc ls (.int cn :: .int dp0 :: .ref (g.2.2.2 + a1) :: .int sp0 :: .ref (g.2.2.2 + a0) :: st.map (pv_lf g.2.2.2))) rfl (by rw [Xx.2.2.2.1]; exact hL.1) (rest := st.map (pv_lf g.2.2.2)) rfl (by rw [Xx.2.1]; exact hd) (by omega) (by rw [pv_cats]; show 2 * 0 + _ + _ ≤ _; simp [nativeFrameWords]; omega)
  have ec : copied (vp_cell (g.2.2.1 0) (k0, .inl (m a0))) (vp_cell (g.2.2.1 0) (k1, .inl (m a1))) sp0 dp0 cn = vp_cell (g.2.2.1 0) (k1, .inl (va_cpy (m a0) (m a1) sp0.toNatClampNeg dp0.toNatClampNeg cn.toNatClampNeg)) := va_copied (fun z => .int z) (g.2.2.1 0) (g.2.2.1 0) (m a0) (m a1) hq4
  rw [ec] at X' stp
  let m' : Nat → Nat → Int32 := fun b j => if b = a1 then va_cpy (m a0) (m a1) sp0.toNatClampNeg dp0.toNatClampNeg cn.toNatClampNeg j else m b j
  have em : m' a1 = va_cpy (m a0) (m a1) sp0.toNatClampNeg dp0.toNatClampNeg cn.toNatClampNeg := by funext j; simp [m']
  have hoff : ∀ b, b ≠ a1 → m' b = m b := fun b hb => by funext j; simp [m', hb]
  have hset : (mk T m n r).set a1 (pv_i k1 (m' a1)) = mk T m' n r := mk_set ha1 rfl (fun b u _ hb => mv_c_m (hoff b hb))
  have hI : IV BB m' := by
    intro b j
    by_cases hb : b = a1
    · subst hb
      rw [hb1, em]
      simp only [va_cpy]
      split
      · have q := I a0 (sp0.toNatClampNeg + (j - dp0.toNatClampNeg)); rw [hb0] at q; exact ⟨Int.le_trans h6 q.1, Int.le_trans q.2 h7⟩
      · have q := I b j; rw [hb1] at q; exact q
    · rw [hoff b hb]; exact I b j
  have hlt : g.2.2.2 + a1 < H.size := (Array.getElem?_eq_some_iff.mp hC1).1
  have oq : ∀ q : Nat, q ≠ g.2.2.2 + a1 → (H.setIfInBounds (g.2.2.2 + a1) (vp_cell (g.2.2.1 0) (k1, .inl (m' a1))))[q]? = H[q]? := fun q hq => by simp [Array.getElem?_setIfInBounds, Ne.symm hq]
  have hat : (H.setIfInBounds (g.2.2.2 + a1) (vp_cell (g.2.2.1 0) (k1, .inl (m' a1))))[g.2.2.2 + a1]? = some (vp_cell (g.2.2.1 0) (k1, .inl (m' a1))) := by simp [Array.getElem?_setIfInBounds, hlt]
  have hP2 : va_P g.2.1 vwCl (pv_W g.2.2.1 g.2.2.2 (mk T m' n r)) (H.setIfInBounds (g.2.2.2 + a1) (vp_cell (g.2.2.1 0) (k1, .inl (m' a1)))) := by
    rw [← hset, ← pv_W_set]
    exact hH.1.set pv_D (pv_W_get (mk_get ha1)) hat oq
  have hsz : (H.setIfInBounds (g.2.2.2 + a1) (vp_cell (g.2.2.1 0) (k1, .inl (m' a1)))).size = g.2.2.2 + (mk T m' n r).length := by
    rw [Array.size_setIfInBounds, hH.2]
    simp [mk]
  rw [← em] at X' stp
  obtain ⟨t, t1, t2⟩ := kk m' hoff hI p e R s mm args below meth c Xx f1 f2 f3 f4 (H.setIfInBounds (g.2.2.2 + a1) (vp_cell (g.2.2.1 0) (k1, .inl (m' a1)))) _ cells slots ls ⟨hP2, hsz⟩ ⟨by rw [Array.size_setIfInBounds]; exact hS.1, fun q z1 z2 => by
      rw [oq q (fun e => z2 (by rw [e]; show g.2.2.2 ≤ g.2.2.2 + a1; omega))]
      exact hS.2.1 q z1 z2, fun q hq => by
      rcases List.mem_append.mp hq with w | w
      · exact hS.2.2 q w
      · obtain ⟨z, -, hz⟩ := List.mem_map.mp w
        rw [← hz]
        show g.2.2.2 ≤ g.2.2.2 + a1
        omega⟩ g1 g2 hL _ (by rw [← hT0]; rfl) X'
  exact ⟨t, stp t t1, t2⟩
theorem fr_off {W : Nat → Nat → Bool} {m m' : Nat → Nat → Int32} {a : Nat} (h : ∀ b, b ≠ a → m' b = m b) (hw : ∀ j, W a j = true) : fr W m m' := by
  intro b j q
  by_cases hb : b = a
  · subst hb; rw [hw j] at q; cases q
  · rw [h b hb]
end CLS
theorem Wnat : Cond.native arraycopyName ∈ pv_T := wd518
theorem Wcst : Cond.static arraycopyName ∈ pv_T := wd517
