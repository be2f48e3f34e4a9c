set_option maxHeartbeats 2000000 in
set_option maxRecDepth 20000 in
theorem s_X12_hasOpenSum (g : pv_G) {T : List mv_T} {m : Nat → Nat → Int32} {n : Nat → Nat → Int64} {r : Nat → Value} (hT : TX T) (I : IV BB m) (x0 : Int32) (hl0 : 0 ≤ x0.toInt) (hh0 : x0.toInt ≤ 180) : PM g mX12_hasOpenSum yX12_hasOpenSum (sqP (mk T m n r) 0 1 (fun v => (v.toInt = 1 ∧ ∃ j : Nat, x0.toInt ≤ j ∧ (j : Int) < (m 123 17).toInt ∧ opv (m 131 j) = 14) ∨ (v.toInt = 0 ∧ ∀ j : Nat, x0.toInt ≤ j → (j : Int) < (m 123 17).toInt → opv (m 131 j) ≠ 14))) 1 0 0 [.ref 123, .int x0] (mk T m n r) := by
  have Kp : fr (wl []) m m := fr.rf
  have z26 : 0 ≤ (m 123 12).toInt ∧ (m 123 12).toInt ≤ 160 := I 123 12
  have z27 : 0 ≤ (m 123 13).toInt ∧ (m 123 13).toInt ≤ 160 := I 123 13
  have z28 : 0 ≤ (m 123 16).toInt ∧ (m 123 16).toInt ≤ 180 := I 123 16
  have z29 : 0 ≤ (m 123 17).toInt ∧ (m 123 17).toInt ≤ 180 := I 123 17
  refine PM.of 1 (lo := [.ref 123, .int x0, pv_U]) rfl (by decide) rfl rfl (Nat.le_of_ble_eq_true rfl) ?_
  refine pv_iload_n (M := mX12_hasOpenSum) 1 dX12_hasOpenSum_0 1 rfl rfl rfl ?_
  refine pv_istore_n (M := mX12_hasOpenSum) 2 (lo2 := [.ref 123, .int x0, .int x0]) dX12_hasOpenSum_1 2 rfl rfl (by decide) rfl rfl ?_
  have lp7 : ∀ (fuel6 : Nat) (y1 : Int32), (0 ≤ y1.toInt) → (y1.toInt ≤ 180) → (x0.toInt ≤ y1.toInt) → (∀ j : Nat, x0.toInt ≤ j → (j : Int) < y1.toInt → opv (m 131 j) ≠ 14) → ((180 - y1.toInt) : Int).toNat < fuel6 → PV none g mX12_hasOpenSum (sqP (mk T m n r) 0 1 (fun v => (v.toInt = 1 ∧ ∃ j : Nat, x0.toInt ≤ j ∧ (j : Int) < (m 123 17).toInt ∧ opv (m 131 j) = 14) ∨ (v.toInt = 0 ∧ ∀ j : Nat, x0.toInt ≤ j → (j : Int) < (m 123 17).toInt → opv (m 131 j) ≠ 14))) 1 0 0 2 [.ref 123, .int x0, .int y1] [] (mk T m n r) := by
    intro fuel6
    induction fuel6 with
    | zero => intro y1 b9 b10 b11 b12 z13; omega
    | succ fuel6 ih8 =>
      intro y1 b9 b10 b11 b12 z13
      have kg := (show ∀ j : Nat, x0.toInt ≤ j → (j : Int) < y1.toInt → opv (m 131 j) ≠ 14 by assumption)
      refine pv_iload_n (M := mX12_hasOpenSum) 2 dX12_hasOpenSum_2 3 rfl rfl rfl ?_
      refine pv_aload_n (M := mX12_hasOpenSum) 0 dX12_hasOpenSum_3 4 rfl rfl rfl ?_
      refine iv_get (M := mX12_hasOpenSum) (l1 := 0) (l2 := 180) dX12_hasOpenSum_4 FX12 17 wd1190 (by decide) (tl123 hT) rfl I rfl 7 rfl (fun v15 ev15 pv15 qv15 => ?_)
      have wv15 : v15.toInt = (m 123 17).toInt := congrArg Int32.toInt ev15
      refine pv_icmp_ge (M := mX12_hasOpenSum) (tgt := 32) dX12_hasOpenSum_7 10 rfl (by decide) (fun c16 => ?_) (fun c16 => ?_)
      · have c16 := iv_le (X := v15.toInt) (Y := y1.toInt) c16 rfl rfl
        refine pv_iconst (M := mX12_hasOpenSum) (v := 0) dX12_hasOpenSum_32 33 rfl (by decide) ?_
        have z17 : (0 : Int32).toInt = 0 := by decide
        exact pv_iret (M := mX12_hasOpenSum) dX12_hasOpenSum_33 rfl rfl ⟨_, rfl, rfl, by decide, by decide, (Or.inr ⟨by decide, fun j a b => kg j a (by omega)⟩)⟩
      · have c16 := iv_nle (X := v15.toInt) (Y := y1.toInt) c16 rfl rfl
        refine pv_aload_n (M := mX12_hasOpenSum) 0 dX12_hasOpenSum_10 11 rfl rfl rfl ?_
        refine mv_get (M := mX12_hasOpenSum) (v := .ref 131) dX12_hasOpenSum_11 FX12 22 wd1195 (by decide) (tl123 hT) rfl rfl 14 rfl ?_
        refine pv_iload_n (M := mX12_hasOpenSum) 2 dX12_hasOpenSum_14 15 rfl rfl rfl ?_
        refine iv_iald (M := mX12_hasOpenSum) (X := y1.toInt) (l1 := 0) (l2 := 15728639) dX12_hasOpenSum_15 (tl131 hT) rfl (by omega) (by omega) I (fun _ => rfl) 16 rfl (fun v18 ev18 pv18 qv18 => ?_)
        have k16 : v18.toInt = (m 131 y1.toInt.toNat).toInt := congrArg Int32.toInt ev18
        refine pv_ldc (M := mX12_hasOpenSum) (v := 1048576) dX12_hasOpenSum_16 18 rfl wd1437 ?_
        refine iv_idiv (M := mX12_hasOpenSum) (X := v18.toInt) (Y := 1048576) dX12_hasOpenSum_18 19 rfl rfl (by decide) (by omega) (by omega) (fun v20 ev20 => ?_)
        have k19 : v20.toInt = opv (m 131 y1.toInt.toNat) := by unfold opv; omega
        refine pv_bipush (M := mX12_hasOpenSum) (v := 14) dX12_hasOpenSum_19 21 rfl (by decide) ?_
        refine pv_icmp_ne (M := mX12_hasOpenSum) (tgt := 26) dX12_hasOpenSum_21 24 rfl (by decide) (fun c22 => ?_) (fun c22 => ?_)
        · have c22 := iv_ne (X := v20.toInt) (Y := 14) c22 rfl (by decide)
          refine iv_inc (M := mX12_hasOpenSum) (C := 1) dX12_hasOpenSum_26 29 rfl rfl (by decide) rfl rfl (by decide) (by omega) (by omega) (fun v23 ev23 => ?_)
          show PV _ _ _ _ _ _ _ 29 [.ref 123, .int x0, .int v23] [] _
          refine pv_goto (M := mX12_hasOpenSum) (tgt := 2) dX12_hasOpenSum_29 (by decide) ?_
          have khs : ∀ j : Nat, x0.toInt ≤ j → (j : Int) < v23.toInt → opv (m 131 j) ≠ 14 := fun j a b => if q : (j : Int) = y1.toInt then (by rw [show j = (y1.toInt).toNat by omega]; omega) else kg j a (by omega)
          exact ih8 v23 (by first | omega | assumption | exact (iv_rng _).2 | exact (iv_rng _).1 | decide) (by first | omega | assumption | exact (iv_rng _).2 | exact (iv_rng _).1 | decide) (by first | omega | assumption | (show x0.toInt ≤ v23.toInt; omega) | decide) khs (by omega)
        · have c22 := iv_eq (X := v20.toInt) (Y := 14) c22 rfl (by decide)
          refine pv_iconst (M := mX12_hasOpenSum) (v := 1) dX12_hasOpenSum_24 25 rfl (by decide) ?_
          have z25 : (1 : Int32).toInt = 1 := by decide
          exact pv_iret (M := mX12_hasOpenSum) dX12_hasOpenSum_25 rfl rfl ⟨_, rfl, rfl, by decide, by decide, (Or.inl ⟨by decide, y1.toInt.toNat, by omega, by omega, by omega⟩)⟩
  exact lp7 (((180 - x0.toInt) : Int).toNat + 1) x0 (by first | omega | assumption | exact (iv_rng _).2 | exact (iv_rng _).1 | decide) (by first | omega | assumption | exact (iv_rng _).2 | exact (iv_rng _).1 | decide) (by first | omega | assumption | (show x0.toInt ≤ x0.toInt; omega) | decide) (fun j a b => by omega) (by omega)
