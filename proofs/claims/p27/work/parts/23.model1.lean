/-- how many of the first k are so -/
def cnt (p : Nat → Bool) : Nat → Nat
  | 0 => 0
  | k + 1 => cnt p k + (if p k then 1 else 0)
theorem cnt_yes {p : Nat → Bool} {k : Nat} (h : p k = true) : cnt p k + 1 = cnt p (k + 1) := by simp [cnt, h]
theorem cnt_no {p : Nat → Bool} {k : Nat} (h : p k = false) : cnt p k + 0 = cnt p (k + 1) := by simp [cnt, h]
theorem cnt_le (p : Nat → Bool) : ∀ k, cnt p k ≤ k
  | 0 => Nat.le_refl 0
  | k + 1 => by have := cnt_le p k; simp only [cnt]; split <;> omega
theorem cnt_mono (p : Nat → Bool) (k j : Nat) : cnt p k ≤ cnt p (k + j) := by
  induction j with
  | zero => exact Nat.le_refl _
  | succ j ih => rw [← Nat.add_assoc]; simp only [cnt]; omega
/-- LETTER w of BLANK b is LEFT, in the reference's memory -/
def mfree (m : Nat → Nat → Int32) (b w : Nat) : Bool := decide (m 128 (40 * b + w) = 0)

set_option maxRecDepth 20000 in
theorem lp_leftMany (g : pv_G) {T : List mv_T} {m : Nat → Nat → Int32} {n : Nat → Nat → Int64} {r : Nat → Value} (hT : TX T) {b bl : Nat} (hb : b < 8) (hbl : m 124 b = nI bl) (hb4 : bl ≤ 40) : ∀ (fuel w : Nat), w ≤ bl → bl - w < fuel → PV none g mX12_leftMany (pv_is (some (.int (nI (cnt (mfree m b) bl)))) (mk T m n r)) 1 0 0 4 [.ref 123, .int (nI b), .int (nI (cnt (mfree m b) w)), .int (nI w)] [] (mk T m n r) := by
  intro fuel
  induction fuel with
  | zero => intro w h1 h2; omega
  | succ fuel ih =>
    intro w h1 h2
    refine pv_iload_n (M := mX12_leftMany) 3 dX12_leftMany_4 5 rfl rfl rfl ?_
    refine pv_aload_n (M := mX12_leftMany) 0 dX12_leftMany_5 6 rfl rfl rfl ?_
    refine mv_get (M := mX12_leftMany) (v := .ref 124) dX12_leftMany_6 FX12 5 wd1178 (by decide) (tl123 hT) rfl rfl 9 rfl ?_
    refine pv_iload_n (M := mX12_leftMany) 1 dX12_leftMany_9 10 rfl rfl rfl ?_
    refine mv_iald (M := mX12_leftMany) (v := nI bl) dX12_leftMany_10 (tl124 hT) (vp_in_nI (by omega) (by decide)) (by rw [nI_clamp (by omega)] <;> exact (hbl)) 11 rfl ?_
    refine pv_icmp_ge (M := mX12_leftMany) (tgt := 42) dX12_leftMany_11 14 rfl (by decide) (fun c1 => ?_) (fun c1 => ?_)
    · have c1 := (nI_leI (a := bl) (b := w) (by omega) (by omega)).mp c1
      refine pv_iload_n (M := mX12_leftMany) 2 dX12_leftMany_42 43 rfl rfl rfl ?_
      exact pv_iret (M := mX12_leftMany) dX12_leftMany_43 rfl rfl ⟨by rw [show w = bl by omega], rfl⟩
    · have c1 := mt (nI_leI (a := bl) (b := w) (by omega) (by omega)).mpr c1
      refine pv_iload_n (M := mX12_leftMany) 2 dX12_leftMany_14 15 rfl rfl rfl ?_
      refine pv_aload_n (M := mX12_leftMany) 0 dX12_leftMany_15 16 rfl rfl rfl ?_
      refine mv_get (M := mX12_leftMany) (v := .ref 128) dX12_leftMany_16 FX12 9 wd1182 (by decide) (tl123 hT) rfl rfl 19 rfl ?_
      refine pv_bipush (M := mX12_leftMany) (v := 40) dX12_leftMany_19 21 rfl (by decide) ?_
      refine pv_iload_n (M := mX12_leftMany) 1 dX12_leftMany_21 22 rfl rfl rfl ?_
      refine pv_imul (M := mX12_leftMany) (v := nI (40 * b)) dX12_leftMany_22 23 rfl (pk_mul 40 b) ?_
      refine pv_iload_n (M := mX12_leftMany) 3 dX12_leftMany_23 24 rfl rfl rfl ?_
      refine pv_iadd (M := mX12_leftMany) (v := nI (40 * b + w)) dX12_leftMany_24 25 rfl (nI_add (40 * b) w) ?_
      refine mv_zald (M := mX12_leftMany) (v := m 128 (40 * b + w)) dX12_leftMany_25 (tl128 hT) (vp_in_nI (by omega) (by decide)) (by rw [nI_clamp (by omega)] <;> exact (rfl)) 26 rfl ?_
      refine pv_if_eq (M := mX12_leftMany) (tgt := 33) dX12_leftMany_26 29 rfl (by decide) (fun c2 => ?_) (fun c2 => ?_)
      · skip
        refine pv_iconst (M := mX12_leftMany) (v := 1) dX12_leftMany_33 34 rfl (by decide) ?_
        refine pv_iadd (M := mX12_leftMany) (v := nI (cnt (mfree m b) w + 1)) dX12_leftMany_34 35 rfl (nI_add (cnt (mfree m b) w) 1) ?_
        refine pv_istore_n (M := mX12_leftMany) 2 (lo2 := [.ref 123, .int (nI b), .int (nI (cnt (mfree m b) w + 1)), .int (nI w)]) dX12_leftMany_35 36 rfl rfl (by decide) rfl rfl ?_
        refine pv_iinc (M := mX12_leftMany) (v := nI (w + 1)) (lo2 := [.ref 123, .int (nI b), .int (nI (cnt (mfree m b) w + 1)), .int (nI (w + 1))]) dX12_leftMany_36 39 rfl rfl (nI_add w 1) (by decide) rfl rfl ?_
        refine pv_goto (M := mX12_leftMany) (tgt := 4) dX12_leftMany_39 (by decide) ?_
        rw [cnt_yes (p := mfree m b) (decide_eq_true c2)]
        exact ih (w + 1) (by omega) (by omega)
      · skip
        refine pv_iconst (M := mX12_leftMany) (v := 0) dX12_leftMany_29 30 rfl (by decide) ?_
        refine pv_goto (M := mX12_leftMany) (tgt := 34) dX12_leftMany_30 (by decide) ?_
        refine pv_iadd (M := mX12_leftMany) (v := nI (cnt (mfree m b) w + 0)) dX12_leftMany_34 35 rfl (nI_add (cnt (mfree m b) w) 0) ?_
        refine pv_istore_n (M := mX12_leftMany) 2 (lo2 := [.ref 123, .int (nI b), .int (nI (cnt (mfree m b) w + 0)), .int (nI w)]) dX12_leftMany_35 36 rfl rfl (by decide) rfl rfl ?_
        refine pv_iinc (M := mX12_leftMany) (v := nI (w + 1)) (lo2 := [.ref 123, .int (nI b), .int (nI (cnt (mfree m b) w + 0)), .int (nI (w + 1))]) dX12_leftMany_36 39 rfl rfl (nI_add w 1) (by decide) rfl rfl ?_
        refine pv_goto (M := mX12_leftMany) (tgt := 4) dX12_leftMany_39 (by decide) ?_
        rw [cnt_no (p := mfree m b) (decide_eq_false c2)]
        exact ih (w + 1) (by omega) (by omega)

theorem c_leftMany (g : pv_G) {T : List mv_T} {m : Nat → Nat → Int32} {n : Nat → Nat → Int64} {r : Nat → Value} (hT : TX T) {b bl : Nat} (hb : b < 8) (hbl : m 124 b = nI bl) (hb4 : bl ≤ 40) : PM g mX12_leftMany yX12_leftMany (pv_is (some (.int (nI (cnt (mfree m b) bl)))) (mk T m n r)) 1 0 0 [.ref 123, .int (nI b)] (mk T m n r) := by
  refine PM.of 2 (lo := [.ref 123, .int (nI b), pv_U, pv_U]) rfl (by decide) rfl rfl (Nat.le_of_ble_eq_true rfl) ?_
  refine pv_iconst (M := mX12_leftMany) (v := 0) dX12_leftMany_0 1 rfl (by decide) ?_
  refine pv_istore_n (M := mX12_leftMany) 2 (lo2 := [.ref 123, .int (nI b), .int 0, pv_U]) dX12_leftMany_1 2 rfl rfl (by decide) rfl rfl ?_
  refine pv_iconst (M := mX12_leftMany) (v := 0) dX12_leftMany_2 3 rfl (by decide) ?_
  refine pv_istore_n (M := mX12_leftMany) 3 (lo2 := [.ref 123, .int (nI b), .int 0, .int 0]) dX12_leftMany_3 4 rfl rfl (by decide) rfl rfl ?_
  exact lp_leftMany g hT hb hbl hb4 (bl + 1) 0 (by omega) (by omega)
