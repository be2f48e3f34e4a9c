set_option maxHeartbeats 2000000 in
set_option maxRecDepth 20000 in
theorem s_X8_at_vz (g : pv_G) {T : List mv_T} {m : Nat → Nat → Int32} {n : Nat → Nat → Int64} {r : Nat → Value} (hT : TX T) (I : IV BB m) (aT : Nat) (rmT : Nat) (haT : RowAt T aT rmT) (x0 : Int32) : PM g mX8_at yX8_at (sqP (mk T m n r) (-2147483648) 2147483647 (fun v => (0 ≤ x0.toInt ∧ x0.toInt < (m aT 1).toInt ∧ v = m (aT + 1) x0.toInt.toNat) ∨ ((x0.toInt < 0 ∨ (m aT 1).toInt ≤ x0.toInt) ∧ v.toInt = -1))) 1 0 0 [.ref aT, .int x0] (mk T m n r) := by
  have Kp : fr (wl []) m m := fr.rf
  have zrT := haT.2.2.2.2
  refine PM.of 0 (lo := [.ref aT, .int x0]) rfl (by decide) rfl rfl (Nat.le_of_ble_eq_true rfl) ?_
  refine pv_iload_n (M := mX8_at) 1 dX8_at_0 1 rfl rfl rfl ?_
  refine pv_if_lt (M := mX8_at) (tgt := 21) dX8_at_1 4 rfl (by decide) (fun c1 => ?_) (fun c1 => ?_)
  · have c1 := iv_lt (X := x0.toInt) (Y := 0) c1 rfl (by decide)
    refine pv_iconst (M := mX8_at) (v := (-1)) dX8_at_21 22 rfl (by decide) ?_
    have z2 : ((-1) : Int32).toInt = (-1) := by decide
    exact pv_iret (M := mX8_at) dX8_at_22 rfl rfl ⟨_, rfl, rfl, by decide, by decide, (Or.inr ⟨by omega, by decide⟩)⟩
  · have c1 := iv_nlt (X := x0.toInt) (Y := 0) c1 rfl (by decide)
    refine pv_iload_n (M := mX8_at) 1 dX8_at_4 5 rfl rfl rfl ?_
    refine pv_aload_n (M := mX8_at) 0 dX8_at_5 6 rfl rfl rfl ?_
    refine iv_get (M := mX8_at) (l1 := 0) (l2 := (rmT : Int)) dX8_at_6 FX8 1 wd193 (by decide) haT.1 rfl I haT.2.2.1 9 rfl (fun v3 ev3 pv3 qv3 => ?_)
    have wv3 : v3.toInt = (m aT 1).toInt := congrArg Int32.toInt ev3
    refine pv_icmp_ge (M := mX8_at) (tgt := 21) dX8_at_9 12 rfl (by decide) (fun c4 => ?_) (fun c4 => ?_)
    · have c4 := iv_le (X := v3.toInt) (Y := x0.toInt) c4 rfl rfl
      refine pv_iconst (M := mX8_at) (v := (-1)) dX8_at_21 22 rfl (by decide) ?_
      have z5 : ((-1) : Int32).toInt = (-1) := by decide
      exact pv_iret (M := mX8_at) dX8_at_22 rfl rfl ⟨_, rfl, rfl, by decide, by decide, (Or.inr ⟨by omega, by decide⟩)⟩
    · have c4 := iv_nle (X := v3.toInt) (Y := x0.toInt) c4 rfl rfl
      refine pv_aload_n (M := mX8_at) 0 dX8_at_12 13 rfl rfl rfl ?_
      refine mv_get (M := mX8_at) (v := .ref (aT + 1)) dX8_at_13 FX8 0 wd187 (by decide) haT.1 rfl rfl 16 rfl ?_
      refine pv_iload_n (M := mX8_at) 1 dX8_at_16 17 rfl rfl rfl ?_
      refine iv_iald (M := mX8_at) (X := x0.toInt) (l1 := (-2147483648)) (l2 := 2147483647) dX8_at_17 haT.2.1 rfl (by omega) (by omega) I haT.2.2.2.1 18 rfl (fun v6 ev6 pv6 qv6 => ?_)
      refine pv_goto (M := mX8_at) (tgt := 22) dX8_at_18 (by decide) ?_
      exact pv_iret (M := mX8_at) dX8_at_22 rfl rfl ⟨_, rfl, rfl, (iv_rng v6).1, (iv_rng v6).2, (Or.inl ⟨by omega, by omega, ev6⟩)⟩

set_option maxHeartbeats 2000000 in
set_option maxRecDepth 20000 in
theorem s_X0_ownAt_vz (g : pv_G) {T : List mv_T} {m : Nat → Nat → Int32} {n : Nat → Nat → Int64} {r : Nat → Value} (hT : TX T) (I : IV BB m) (aT : Nat) (haT : BlankAt T aT) (x0 : Int32) : PM g mX0_ownAt yX0_ownAt (sqP (mk T m n r) (-2147483648) 2147483647 (fun v => (0 ≤ x0.toInt ∧ x0.toInt < (m (aT + 3) 1).toInt ∧ v = m (aT + 5) x0.toInt.toNat) ∨ ((x0.toInt < 0 ∨ (m (aT + 3) 1).toInt ≤ x0.toInt) ∧ v.toInt = -1))) 1 0 0 [.ref aT, .int x0] (mk T m n r) := by
  have Kp : fr (wl []) m m := fr.rf
  have zbT := haT.2.2.2.2.2.2.2
  refine PM.of 0 (lo := [.ref aT, .int x0]) rfl (by decide) rfl rfl (Nat.le_of_ble_eq_true rfl) ?_
  refine pv_iload_n (M := mX0_ownAt) 1 dX0_ownAt_0 1 rfl rfl rfl ?_
  refine pv_if_lt (M := mX0_ownAt) (tgt := 24) dX0_ownAt_1 4 rfl (by decide) (fun c1 => ?_) (fun c1 => ?_)
  · have c1 := iv_lt (X := x0.toInt) (Y := 0) c1 rfl (by decide)
    refine pv_iconst (M := mX0_ownAt) (v := (-1)) dX0_ownAt_24 25 rfl (by decide) ?_
    have z2 : ((-1) : Int32).toInt = (-1) := by decide
    exact pv_iret (M := mX0_ownAt) dX0_ownAt_25 rfl rfl ⟨_, rfl, rfl, by decide, by decide, (Or.inr ⟨by omega, by decide⟩)⟩
  · have c1 := iv_nlt (X := x0.toInt) (Y := 0) c1 rfl (by decide)
    refine pv_iload_n (M := mX0_ownAt) 1 dX0_ownAt_4 5 rfl rfl rfl ?_
    refine pv_aload_n (M := mX0_ownAt) 0 dX0_ownAt_5 6 rfl rfl rfl ?_
    refine mv_get (M := mX0_ownAt) (v := .ref (aT + 3)) dX0_ownAt_6 FX0 1 wd209 (by decide) haT.1 rfl rfl 9 rfl ?_
    refine iv_get (M := mX0_ownAt) (l1 := 0) (l2 := 40) dX0_ownAt_9 FX8 1 wd195 (by decide) haT.2.2.1.1 rfl I haT.2.2.1.2.2.1 12 rfl (fun v3 ev3 pv3 qv3 => ?_)
    have wv3 : v3.toInt = (m (aT + 3) 1).toInt := congrArg Int32.toInt ev3
    refine pv_icmp_ge (M := mX0_ownAt) (tgt := 24) dX0_ownAt_12 15 rfl (by decide) (fun c4 => ?_) (fun c4 => ?_)
    · have c4 := iv_le (X := v3.toInt) (Y := x0.toInt) c4 rfl rfl
      refine pv_iconst (M := mX0_ownAt) (v := (-1)) dX0_ownAt_24 25 rfl (by decide) ?_
      have z5 : ((-1) : Int32).toInt = (-1) := by decide
      exact pv_iret (M := mX0_ownAt) dX0_ownAt_25 rfl rfl ⟨_, rfl, rfl, by decide, by decide, (Or.inr ⟨by omega, by decide⟩)⟩
    · have c4 := iv_nle (X := v3.toInt) (Y := x0.toInt) c4 rfl rfl
      refine pv_aload_n (M := mX0_ownAt) 0 dX0_ownAt_15 16 rfl rfl rfl ?_
      refine mv_get (M := mX0_ownAt) (v := .ref (aT + 5)) dX0_ownAt_16 FX0 2 wd212 (by decide) haT.1 rfl rfl 19 rfl ?_
      refine pv_iload_n (M := mX0_ownAt) 1 dX0_ownAt_19 20 rfl rfl rfl ?_
      refine iv_iald (M := mX0_ownAt) (X := x0.toInt) (l1 := (-2147483648)) (l2 := 2147483647) dX0_ownAt_20 haT.2.2.2.1 rfl (by omega) (by omega) I haT.2.2.2.2.1 21 rfl (fun v6 ev6 pv6 qv6 => ?_)
      refine pv_goto (M := mX0_ownAt) (tgt := 25) dX0_ownAt_21 (by decide) ?_
      exact pv_iret (M := mX0_ownAt) dX0_ownAt_25 rfl rfl ⟨_, rfl, rfl, (iv_rng v6).1, (iv_rng v6).2, (Or.inl ⟨by omega, by omega, ev6⟩)⟩

set_option maxHeartbeats 2000000 in
set_option maxRecDepth 20000 in
theorem s_X0_goneAt_vz (g : pv_G) {T : List mv_T} {m : Nat → Nat → Int32} {n : Nat → Nat → Int64} {r : Nat → Value} (hT : TX T) (I : IV BB m) (aT : Nat) (haT : BlankAt T aT) (x0 : Int32) : PM g mX0_goneAt yX0_goneAt (sqP (mk T m n r) 0 1 (fun v => v.toInt = gon (m (aT + 6)) 0 (wrN m aT) x0.toInt)) 1 0 0 [.ref aT, .int x0] (mk T m n r) := by
  have Kp : fr (wl []) m m := fr.rf
  have zbT := haT.2.2.2.2.2.2.2
  refine PM.of 0 (lo := [.ref aT, .int x0]) rfl (by decide) rfl rfl (Nat.le_of_ble_eq_true rfl) ?_
  refine pv_iload_n (M := mX0_goneAt) 1 dX0_goneAt_0 1 rfl rfl rfl ?_
  refine pv_if_lt (M := mX0_goneAt) (tgt := 24) dX0_goneAt_1 4 rfl (by decide) (fun c1 => ?_) (fun c1 => ?_)
  · have c1 := iv_lt (X := x0.toInt) (Y := 0) c1 rfl (by decide)
    refine pv_iconst (M := mX0_goneAt) (v := 1) dX0_goneAt_24 25 rfl (by decide) ?_
    refine pv_goto (M := mX0_goneAt) (tgt := 29) dX0_goneAt_25 (by decide) ?_
    have z2 : (1 : Int32).toInt = 1 := by decide
    exact pv_iret (M := mX0_goneAt) dX0_goneAt_29 rfl rfl ⟨_, rfl, rfl, by decide, by decide, (by unfold gon wrN; first | (rw [if_pos (by omega)]; decide) | (rw [if_neg (by omega), Nat.zero_add, if_neg (fun q => by have w := congrArg Int32.toInt (k21.trans q); rw [Int32.toInt_zero] at w; omega)]; decide))⟩
  · have c1 := iv_nlt (X := x0.toInt) (Y := 0) c1 rfl (by decide)
    refine pv_iload_n (M := mX0_goneAt) 1 dX0_goneAt_4 5 rfl rfl rfl ?_
    refine pv_aload_n (M := mX0_goneAt) 0 dX0_goneAt_5 6 rfl rfl rfl ?_
    refine mv_get (M := mX0_goneAt) (v := .ref (aT + 1)) dX0_goneAt_6 FX0 0 wd207 (by decide) haT.1 rfl rfl 9 rfl ?_
    refine iv_get (M := mX0_goneAt) (l1 := 0) (l2 := 40) dX0_goneAt_9 FX8 1 wd195 (by decide) haT.2.1.1 rfl I haT.2.1.2.2.1 12 rfl (fun v3 ev3 pv3 qv3 => ?_)
    have wv3 : v3.toInt = (m (aT + 1) 1).toInt := congrArg Int32.toInt ev3
    refine pv_icmp_ge (M := mX0_goneAt) (tgt := 24) dX0_goneAt_12 15 rfl (by decide) (fun c4 => ?_) (fun c4 => ?_)
    · have c4 := iv_le (X := v3.toInt) (Y := x0.toInt) c4 rfl rfl
      refine pv_iconst (M := mX0_goneAt) (v := 1) dX0_goneAt_24 25 rfl (by decide) ?_
      refine pv_goto (M := mX0_goneAt) (tgt := 29) dX0_goneAt_25 (by decide) ?_
      have z5 : (1 : Int32).toInt = 1 := by decide
      exact pv_iret (M := mX0_goneAt) dX0_goneAt_29 rfl rfl ⟨_, rfl, rfl, by decide, by decide, (by unfold gon wrN; first | (rw [if_pos (by omega)]; decide) | (rw [if_neg (by omega), Nat.zero_add, if_neg (fun q => by have w := congrArg Int32.toInt (k21.trans q); rw [Int32.toInt_zero] at w; omega)]; decide))⟩
    · have c4 := iv_nle (X := v3.toInt) (Y := x0.toInt) c4 rfl rfl
      refine pv_aload_n (M := mX0_goneAt) 0 dX0_goneAt_15 16 rfl rfl rfl ?_
      refine mv_get (M := mX0_goneAt) (v := .ref (aT + 6)) dX0_goneAt_16 FX0 3 wd213 (by decide) haT.1 rfl rfl 19 rfl ?_
      refine pv_iload_n (M := mX0_goneAt) 1 dX0_goneAt_19 20 rfl rfl rfl ?_
      refine iv_zald (M := mX0_goneAt) (X := x0.toInt) (l1 := 0) (l2 := 1) dX0_goneAt_20 haT.2.2.2.2.2.1 rfl (by omega) (by omega) I haT.2.2.2.2.2.2.1 21 rfl (fun v6 ev6 pv6 qv6 => ?_)
      have k21 : v6 = m (aT + 6) x0.toInt.toNat := ev6
      refine pv_if_eq (M := mX0_goneAt) (tgt := 28) dX0_goneAt_21 24 rfl (by decide) (fun c8 => ?_) (fun c8 => ?_)
      · have c8 := iv_eq (X := v6.toInt) (Y := 0) c8 rfl (by decide)
        refine pv_iconst (M := mX0_goneAt) (v := 0) dX0_goneAt_28 29 rfl (by decide) ?_
        have z9 : (0 : Int32).toInt = 0 := by decide
        exact pv_iret (M := mX0_goneAt) dX0_goneAt_29 rfl rfl ⟨_, rfl, rfl, by decide, by decide, (by unfold gon wrN; rw [if_neg (by omega), Nat.zero_add, if_pos (k21.symm.trans (i_eq (by rw [Int32.toInt_zero]; omega)))]; decide)⟩
      · have c8 := iv_ne (X := v6.toInt) (Y := 0) c8 rfl (by decide)
        refine pv_iconst (M := mX0_goneAt) (v := 1) dX0_goneAt_24 25 rfl (by decide) ?_
        refine pv_goto (M := mX0_goneAt) (tgt := 29) dX0_goneAt_25 (by decide) ?_
        have z10 : (1 : Int32).toInt = 1 := by decide
        exact pv_iret (M := mX0_goneAt) dX0_goneAt_29 rfl rfl ⟨_, rfl, rfl, by decide, by decide, (by unfold gon wrN; first | (rw [if_pos (by omega)]; decide) | (rw [if_neg (by omega), Nat.zero_add, if_neg (fun q => by have w := congrArg Int32.toInt (k21.trans q); rw [Int32.toInt_zero] at w; omega)]; decide))⟩

set_option maxHeartbeats 2000000 in
set_option maxRecDepth 20000 in
theorem s_X0_howOften_vz (g : pv_G) {T : List mv_T} {m : Nat → Nat → Int32} {n : Nat → Nat → Int64} {r : Nat → Value} (hT : TX T) (I : IV BB m) (aT : Nat) (haT : BlankAt T aT) (x0 : Int32) : PM g mX0_howOften yX0_howOften (sqP (mk T m n r) 0 48 (fun v => v.toInt = ctr (m (aT + 4)) x0.toInt (m (aT + 3) 1).toInt.toNat)) 1 0 0 [.ref aT, .int x0] (mk T m n r) := by
  have Kp : fr (wl []) m m := fr.rf
  have zbT := haT.2.2.2.2.2.2.2
  refine PM.of 2 (lo := [.ref aT, .int x0, pv_U, pv_U]) rfl (by decide) rfl rfl (Nat.le_of_ble_eq_true rfl) ?_
  refine pv_iconst (M := mX0_howOften) (v := 0) dX0_howOften_0 1 rfl (by decide) ?_
  refine pv_istore_n (M := mX0_howOften) 2 (lo2 := [.ref aT, .int x0, .int 0, pv_U]) dX0_howOften_1 2 rfl rfl (by decide) rfl rfl ?_
  refine pv_iconst (M := mX0_howOften) (v := 0) dX0_howOften_2 3 rfl (by decide) ?_
  refine pv_istore_n (M := mX0_howOften) 3 (lo2 := [.ref aT, .int x0, .int 0, .int 0]) dX0_howOften_3 4 rfl rfl (by decide) rfl rfl ?_
  have lp8 : ∀ (fuel7 : Nat) (y1 : Int32) (y2 : Int32), (0 ≤ y1.toInt) → (y1.toInt ≤ 48) → (0 ≤ y2.toInt) → (y2.toInt ≤ 40) → (y1.toInt ≤ y2.toInt) → (y2.toInt ≤ (m (aT + 3) 1).toInt) → (y1.toInt = ctr (m (aT + 4)) x0.toInt y2.toInt.toNat) → ((40 - y2.toInt) : Int).toNat < fuel7 → PV none g mX0_howOften (sqP (mk T m n r) 0 48 (fun v => v.toInt = ctr (m (aT + 4)) x0.toInt (m (aT + 3) 1).toInt.toNat)) 1 0 0 4 [.ref aT, .int x0, .int y1, .int y2] [] (mk T m n r) := by
    intro fuel7
    induction fuel7 with
    | zero => intro y1 y2 b10 b11 b12 b13 b14 b15 b16 z17; omega
    | succ fuel7 ih9 =>
      intro y1 y2 b10 b11 b12 b13 b14 b15 b16 z17
      have kgc := (show y1.toInt = ctr (m (aT + 4)) x0.toInt y2.toInt.toNat by assumption)
      refine pv_iload_n (M := mX0_howOften) 3 dX0_howOften_4 5 rfl rfl rfl ?_
      refine pv_aload_n (M := mX0_howOften) 0 dX0_howOften_5 6 rfl rfl rfl ?_
      refine mv_get (M := mX0_howOften) (v := .ref (aT + 3)) dX0_howOften_6 FX0 1 wd209 (by decide) haT.1 rfl rfl 9 rfl ?_
      refine iv_get (M := mX0_howOften) (l1 := 0) (l2 := 40) dX0_howOften_9 FX8 1 wd195 (by decide) haT.2.2.1.1 rfl I haT.2.2.1.2.2.1 12 rfl (fun v19 ev19 pv19 qv19 => ?_)
      have wv19 : v19.toInt = (m (aT + 3) 1).toInt := congrArg Int32.toInt ev19
      refine pv_icmp_ge (M := mX0_howOften) (tgt := 37) dX0_howOften_12 15 rfl (by decide) (fun c20 => ?_) (fun c20 => ?_)
      · have c20 := iv_le (X := v19.toInt) (Y := y2.toInt) c20 rfl rfl
        refine pv_iload_n (M := mX0_howOften) 2 dX0_howOften_37 38 rfl rfl rfl ?_
        exact pv_iret (M := mX0_howOften) dX0_howOften_38 rfl rfl ⟨_, rfl, rfl, by omega, by omega, (by show y1.toInt = _; rw [kgc]; congr 2; omega)⟩
      · have c20 := iv_nle (X := v19.toInt) (Y := y2.toInt) c20 rfl rfl
        refine pv_aload_n (M := mX0_howOften) 0 dX0_howOften_15 16 rfl rfl rfl ?_
        refine mv_get (M := mX0_howOften) (v := .ref (aT + 3)) dX0_howOften_16 FX0 1 wd209 (by decide) haT.1 rfl rfl 19 rfl ?_
        refine mv_get (M := mX0_howOften) (v := .ref ((aT + 3) + 1)) dX0_howOften_19 FX8 0 wd188 (by decide) haT.2.2.1.1 rfl rfl 22 rfl ?_
        refine pv_iload_n (M := mX0_howOften) 3 dX0_howOften_22 23 rfl rfl rfl ?_
        refine iv_iald (M := mX0_howOften) (X := y2.toInt) (l1 := (-2147483648)) (l2 := 2147483647) dX0_howOften_23 haT.2.2.1.2.1 rfl (by omega) (by omega) I haT.2.2.1.2.2.2.1 24 rfl (fun v21 ev21 pv21 qv21 => ?_)
        have k24 : v21 = m (aT + 4) y2.toInt.toNat := ev21
        refine pv_iload_n (M := mX0_howOften) 1 dX0_howOften_24 25 rfl rfl rfl ?_
        refine pv_icmp_ne (M := mX0_howOften) (tgt := 31) dX0_howOften_25 28 rfl (by decide) (fun c23 => ?_) (fun c23 => ?_)
        · have c23 := iv_ne (X := v21.toInt) (Y := x0.toInt) c23 rfl rfl
          refine iv_inc (M := mX0_howOften) (C := 1) dX0_howOften_31 34 rfl rfl (by decide) rfl rfl (by decide) (by omega) (by omega) (fun v24 ev24 => ?_)
          show PV _ _ _ _ _ _ _ 34 [.ref aT, .int x0, .int y1, .int v24] [] _
          refine pv_goto (M := mX0_howOften) (tgt := 4) dX0_howOften_34 (by decide) ?_
          have kbc : y1.toInt = ctr (m (aT + 4)) x0.toInt v24.toInt.toNat := by rw [show v24.toInt.toNat = (y2.toInt).toNat + 1 by omega]; first | (rw [ctr_y (by rw [← k24]; omega)]; omega) | (rw [ctr_n (by rw [← k24]; omega)]; omega)
          exact ih9 y1 v24 (by first | omega | assumption | exact (iv_rng _).2 | exact (iv_rng _).1 | decide) (by first | omega | assumption | exact (iv_rng _).2 | exact (iv_rng _).1 | decide) (by first | omega | assumption | exact (iv_rng _).2 | exact (iv_rng _).1 | decide) (by first | omega | assumption | exact (iv_rng _).2 | exact (iv_rng _).1 | decide) (by first | omega | assumption | (show y1.toInt ≤ v24.toInt; omega) | decide) (by omega) kbc (by omega)
        · have c23 := iv_eq (X := v21.toInt) (Y := x0.toInt) c23 rfl rfl
          refine iv_inc (M := mX0_howOften) (C := 1) dX0_howOften_28 31 rfl rfl (by decide) rfl rfl (by decide) (by omega) (by omega) (fun v26 ev26 => ?_)
          show PV _ _ _ _ _ _ _ 31 [.ref aT, .int x0, .int v26, .int y2] [] _
          refine iv_inc (M := mX0_howOften) (C := 1) dX0_howOften_31 34 rfl rfl (by decide) rfl rfl (by decide) (by omega) (by omega) (fun v27 ev27 => ?_)
          show PV _ _ _ _ _ _ _ 34 [.ref aT, .int x0, .int v26, .int v27] [] _
          refine pv_goto (M := mX0_howOften) (tgt := 4) dX0_howOften_34 (by decide) ?_
          have kbc : v26.toInt = ctr (m (aT + 4)) x0.toInt v27.toInt.toNat := by rw [show v27.toInt.toNat = (y2.toInt).toNat + 1 by omega]; first | (rw [ctr_y (by rw [← k24]; omega)]; omega) | (rw [ctr_n (by rw [← k24]; omega)]; omega)
          exact ih9 v26 v27 (by first | omega | assumption | exact (iv_rng _).2 | exact (iv_rng _).1 | decide) (by first | omega | assumption | exact (iv_rng _).2 | exact (iv_rng _).1 | decide) (by first | omega | assumption | exact (iv_rng _).2 | exact (iv_rng _).1 | decide) (by first | omega | assumption | exact (iv_rng _).2 | exact (iv_rng _).1 | decide) (by first | omega | assumption | (show v26.toInt ≤ v27.toInt; omega) | decide) (by omega) kbc (by omega)
  have z29 : (0 : Int32).toInt = 0 := by decide
  have z30 : (0 : Int32).toInt = 0 := by decide
  exact lp8 (((40 - 0) : Int).toNat + 1) 0 0 (by first | omega | assumption | exact (iv_rng _).2 | exact (iv_rng _).1 | decide) (by first | omega | assumption | exact (iv_rng _).2 | exact (iv_rng _).1 | decide) (by first | omega | assumption | exact (iv_rng _).2 | exact (iv_rng _).1 | decide) (by first | omega | assumption | exact (iv_rng _).2 | exact (iv_rng _).1 | decide) (by first | omega | assumption | (show 0 ≤ 0; omega) | decide) (by rw [Int32.toInt_zero]; have q := I (aT + 3) 1; rw [haT.2.2.1.2.2.1] at q; exact q.1) (by rw [Int32.toInt_zero]; rfl) (by omega)

set_option maxHeartbeats 2000000 in
set_option maxRecDepth 20000 in
theorem s_X0_gather_vz (g : pv_G) {T : List mv_T} {m : Nat → Nat → Int32} {n : Nat → Nat → Int64} {r : Nat → Value} (hT : TX T) (I : IV BB m) (aT : Nat) (haT : BlankAt T aT) : PM g mX0_gather yX0_gather (sqV T BB (wl [((aT + 3), (aT + 5), none)]) r m (fun m' => RST m' aT)) 2 0 0 [.ref aT] (mk T m n r) := by
  have Kp : fr (wl [((aT + 3), (aT + 5), none)]) m m := fr.rf
  have zbT := haT.2.2.2.2.2.2.2
  refine PM.of 1 (lo := [.ref aT, pv_U]) rfl (by decide) rfl rfl (Nat.le_of_ble_eq_true rfl) ?_
  refine pv_aload_n (M := mX0_gather) 0 dX0_gather_0 1 rfl rfl rfl ?_
  refine mv_get (M := mX0_gather) (v := .ref (aT + 3)) dX0_gather_1 FX0 1 wd209 (by decide) haT.1 rfl rfl 4 rfl ?_
  refine pv_iconst (M := mX0_gather) (v := 0) dX0_gather_4 5 rfl (by decide) ?_
  refine iv_put (M := mX0_gather) (l1 := 0) (l2 := 40) dX0_gather_5 FX8 1 wd195 (by decide) rfl haT.2.2.1.1 rfl rfl rfl I haT.2.2.1.2.2.1 (by decide) (by decide) 8 rfl (fun m1 e4 I2 => ?_)
  have K3 := Kp.set e4 (wl_r (by omega) (by omega))
  have w5 : (m1 (aT + 3) 1).toInt = 0 := by rw [e4, up2_eq] <;> rfl
  have w6 : (m1 (aT + 1) 1).toInt = (m (aT + 1) 1).toInt := by rw [e4, up2_ne (by omega)]
  refine pv_iconst (M := mX0_gather) (v := 0) dX0_gather_8 9 rfl (by decide) ?_
  refine pv_istore_n (M := mX0_gather) 1 (lo2 := [.ref aT, .int 0]) dX0_gather_9 10 rfl rfl (by decide) rfl rfl ?_
  have lp13 : ∀ (fuel12 : Nat) (y7 : Int32) (m8 : Nat → Nat → Int32) (n9 : Nat → Nat → Int64), (0 ≤ y7.toInt) → (y7.toInt ≤ 40) → ((m8 (aT + 3) 1).toInt ≤ y7.toInt) → ((m8 (aT + 1) 1).toInt = (m (aT + 1) 1).toInt) → (y7.toInt ≤ (m (aT + 1) 1).toInt) → (RSK m8 aT y7.toInt.toNat) → IV BB m8 → fr (wl [((aT + 3), (aT + 5), none)]) m m8 → ((40 - y7.toInt) : Int).toNat < fuel12 → PV none g mX0_gather (sqV T BB (wl [((aT + 3), (aT + 5), none)]) r m (fun m' => RST m' aT)) 2 0 0 10 [.ref aT, .int y7] [] (mk T m8 n9 r) := by
    intro fuel12
    induction fuel12 with
    | zero => intro y7 m8 n9 b15 b16 b17 b18 b19 b20 I10 K11 z21; omega
    | succ fuel12 ih14 =>
      intro y7 m8 n9 b15 b16 b17 b18 b19 b20 I10 K11 z21
      have kgr := (show RSK m8 aT y7.toInt.toNat by assumption)
      refine pv_iload_n (M := mX0_gather) 1 dX0_gather_10 11 rfl rfl rfl ?_
      refine pv_aload_n (M := mX0_gather) 0 dX0_gather_11 12 rfl rfl rfl ?_
      refine mv_get (M := mX0_gather) (v := .ref (aT + 1)) dX0_gather_12 FX0 0 wd207 (by decide) haT.1 rfl rfl 15 rfl ?_
      refine iv_get (M := mX0_gather) (l1 := 0) (l2 := 40) dX0_gather_15 FX8 1 wd195 (by decide) haT.2.1.1 rfl I10 haT.2.1.2.2.1 18 rfl (fun v23 ev23 pv23 qv23 => ?_)
      have wv23 : v23.toInt = (m8 (aT + 1) 1).toInt := congrArg Int32.toInt ev23
      refine pv_icmp_ge (M := mX0_gather) (tgt := 65) dX0_gather_18 21 rfl (by decide) (fun c24 => ?_) (fun c24 => ?_)
      · have c24 := iv_le (X := v23.toInt) (Y := y7.toInt) c24 rfl rfl
        exact pv_vret (M := mX0_gather) dX0_gather_65 rfl ⟨_, _, rfl, rfl, I10, K11, (by show RSK m8 aT (wrN m8 aT); rw [show wrN m8 aT = y7.toInt.toNat by unfold wrN; omega]; exact kgr)⟩
      · have c24 := iv_nle (X := v23.toInt) (Y := y7.toInt) c24 rfl rfl
        refine pv_aload_n (M := mX0_gather) 0 dX0_gather_21 22 rfl rfl rfl ?_
        refine mv_get (M := mX0_gather) (v := .ref (aT + 6)) dX0_gather_22 FX0 3 wd213 (by decide) haT.1 rfl rfl 25 rfl ?_
        refine pv_iload_n (M := mX0_gather) 1 dX0_gather_25 26 rfl rfl rfl ?_
        refine iv_zald (M := mX0_gather) (X := y7.toInt) (l1 := 0) (l2 := 1) dX0_gather_26 haT.2.2.2.2.2.1 rfl (by omega) (by omega) I10 haT.2.2.2.2.2.2.1 27 rfl (fun v25 ev25 pv25 qv25 => ?_)
        have k27 : v25 = m8 (aT + 6) y7.toInt.toNat := ev25
        refine pv_if_ne (M := mX0_gather) (tgt := 59) dX0_gather_27 30 rfl (by decide) (fun c27 => ?_) (fun c27 => ?_)
        · have c27 := iv_ne (X := v25.toInt) (Y := 0) c27 rfl (by decide)
          try have k59 := rm8
          try have kf59 := e4
          try have kw59 := congrArg Int32.toInt (kf59 (aT + 1) 1 (wr_out (by omega)))
          refine iv_inc (M := mX0_gather) (C := 1) dX0_gather_59 62 rfl rfl (by decide) rfl rfl (by decide) (by omega) (by omega) (fun v31 ev31 => ?_)
          show PV _ _ _ _ _ _ _ 62 [.ref aT, .int v31] [] _
          refine pv_goto (M := mX0_gather) (tgt := 10) dX0_gather_62 (by decide) ?_
          have kbr : RSK m8 aT v31.toInt.toNat := by first | exact RSK_n kgr (fun q => by have w := congrArg Int32.toInt (k27.trans q); rw [Int32.toInt_zero] at w; omega) (by omega) | exact RSK_y (i := (m8 (aT + 3) 1).toInt.toNat) (v := y7) (x := _) kgr (k27.symm.trans (i_eq (by rw [Int32.toInt_zero]; omega))) (by omega) (by omega) (by omega) (k56.trans (by rw [k43, up2_ne (by omega)])) (by rw [kf59 (aT + 5) _ (wr_out (by omega)), k43, up2_at (by omega)]) (fun j hj => by rw [kf59 (aT + 5) _ (wr_out (by omega)), k43, up2_ne (by omega)]) (by rw [show (m8 (aT + 3) 1).toInt.toNat = (MQ (aT + 3) 1).toInt.toNat by omega]; exact k59.2.1) (fun j hj => (k59.2.2 j (by omega)).trans (by rw [k43, up2_ne (by omega)])) (fun j => by rw [kf59 (aT + 2) _ (wr_out (by omega)), k43, up2_ne (by omega)]) (fun j => by rw [kf59 (aT + 6) _ (wr_out (by omega)), k43, up2_ne (by omega)]) (by omega)
          exact ih14 v31 m8 n9 (by first | omega | assumption | exact (iv_rng _).2 | exact (iv_rng _).1 | decide) (by first | omega | assumption | exact (iv_rng _).2 | exact (iv_rng _).1 | decide) (by first | omega | assumption | (show (m8 (aT + 3) 1).toInt ≤ v31.toInt; omega) | decide) (by first | omega | assumption | (show (m8 (aT + 1) 1).toInt = (m (aT + 1) 1).toInt; omega) | decide) (by omega) kbr I10 K11 (by omega)
        · have c27 := iv_eq (X := v25.toInt) (Y := 0) c27 rfl (by decide)
          refine pv_aload_n (M := mX0_gather) 0 dX0_gather_30 31 rfl rfl rfl ?_
          refine mv_get (M := mX0_gather) (v := .ref (aT + 5)) dX0_gather_31 FX0 2 wd212 (by decide) haT.1 rfl rfl 34 rfl ?_
          refine pv_aload_n (M := mX0_gather) 0 dX0_gather_34 35 rfl rfl rfl ?_
          refine mv_get (M := mX0_gather) (v := .ref (aT + 3)) dX0_gather_35 FX0 1 wd209 (by decide) haT.1 rfl rfl 38 rfl ?_
          refine iv_get (M := mX0_gather) (l1 := 0) (l2 := 40) dX0_gather_38 FX8 1 wd195 (by decide) haT.2.2.1.1 rfl I10 haT.2.2.1.2.2.1 41 rfl (fun v33 ev33 pv33 qv33 => ?_)
          have wv33 : v33.toInt = (m8 (aT + 3) 1).toInt := congrArg Int32.toInt ev33
          refine pv_iload_n (M := mX0_gather) 1 dX0_gather_41 42 rfl rfl rfl ?_
          refine iv_iast (M := mX0_gather) (X := v33.toInt) (l1 := (-2147483648)) (l2 := 2147483647) dX0_gather_42 haT.2.2.2.1 rfl (by omega) (by omega) I10 haT.2.2.2.2.1 (iv_rng y7).1 (iv_rng y7).2 43 rfl (fun m34 e37 I35 => ?_)
          have K36 := K11.set e37 (wl_r (by omega) (by omega))
          have w38 : (m34 (aT + 3) 1).toInt = (m8 (aT + 3) 1).toInt := by rw [e37, up2_ne (by omega)]
          have w39 : (m34 (aT + 1) 1).toInt = (m8 (aT + 1) 1).toInt := by rw [e37, up2_ne (by omega)]
          have k43 := e37
          refine pv_aload_n (M := mX0_gather) 0 dX0_gather_43 44 rfl rfl rfl ?_
          refine mv_get (M := mX0_gather) (v := .ref (aT + 3)) dX0_gather_44 FX0 1 wd209 (by decide) haT.1 rfl rfl 47 rfl ?_
          refine pv_aload_n (M := mX0_gather) 0 dX0_gather_47 48 rfl rfl rfl ?_
          refine mv_get (M := mX0_gather) (v := .ref (aT + 1)) dX0_gather_48 FX0 0 wd207 (by decide) haT.1 rfl rfl 51 rfl ?_
          refine mv_get (M := mX0_gather) (v := .ref ((aT + 1) + 1)) dX0_gather_51 FX8 0 wd188 (by decide) haT.2.1.1 rfl rfl 54 rfl ?_
          refine pv_iload_n (M := mX0_gather) 1 dX0_gather_54 55 rfl rfl rfl ?_
          refine iv_iald (M := mX0_gather) (X := y7.toInt) (l1 := (-2147483648)) (l2 := 2147483647) dX0_gather_55 haT.2.1.2.1 rfl (by omega) (by omega) I35 haT.2.1.2.2.2.1 56 rfl (fun v41 ev41 pv41 qv41 => ?_)
          have k56 := ev41
          refine pv_callv (M := mX0_gather) (as := [.int v41]) (st := []) (kc2 := 0) (ks2 := 0) dX0_gather_56 wd495 YX8_add ⟨wd488, wd489⟩ (mk_get haT.2.2.1.1) rfl rfl (s_X8_add_vy g hT I35 (aT + 3) 40 haT.2.2.1 v41 (by first | omega | assumption | exact (iv_rng _).2 | exact (iv_rng _).1 | decide)) rfl rfl (Nat.le_of_ble_eq_true rfl) (by decide) rfl rfl 59 rfl (fun rv h1 q43 => ?_)
          obtain ⟨m44, n45, rfl, rfl, I46, K47, rm44⟩ := q43
          replace rm44 : (m44 (aT + 3) 1).toInt = (m34 (aT + 3) 1).toInt + 1 ∧ m44 ((aT + 3) + 1) (m34 (aT + 3) 1).toInt.toNat = v41 ∧ ∀ j : Nat, j ≠ (m34 (aT + 3) 1).toInt.toNat → m44 ((aT + 3) + 1) j = m34 ((aT + 3) + 1) j := rm44
          have K47c := K47
          have K47 := K36.trans (K47.sub (wr_wr (by omega) (by omega)))
          show PV _ _ _ _ _ _ _ 59 [.ref aT, .int y7] [] _
          try have k59 := rm44
          try have kf59 := K47c
          try have kw59 := congrArg Int32.toInt (kf59 (aT + 1) 1 (wr_out (by omega)))
          refine iv_inc (M := mX0_gather) (C := 1) dX0_gather_59 62 rfl rfl (by decide) rfl rfl (by decide) (by omega) (by omega) (fun v51 ev51 => ?_)
          show PV _ _ _ _ _ _ _ 62 [.ref aT, .int v51] [] _
          refine pv_goto (M := mX0_gather) (tgt := 10) dX0_gather_62 (by decide) ?_
          have kbr : RSK m44 aT v51.toInt.toNat := by first | exact RSK_n kgr (fun q => by have w := congrArg Int32.toInt (k27.trans q); rw [Int32.toInt_zero] at w; omega) (by omega) | exact RSK_y (i := (m8 (aT + 3) 1).toInt.toNat) (v := y7) (x := _) kgr (k27.symm.trans (i_eq (by rw [Int32.toInt_zero]; omega))) (by omega) (by omega) (by omega) (k56.trans (by rw [k43, up2_ne (by omega)])) (by rw [kf59 (aT + 5) _ (wr_out (by omega)), k43, up2_at (by omega)]) (fun j hj => by rw [kf59 (aT + 5) _ (wr_out (by omega)), k43, up2_ne (by omega)]) (by rw [show (m8 (aT + 3) 1).toInt.toNat = (m34 (aT + 3) 1).toInt.toNat by omega]; exact k59.2.1) (fun j hj => (k59.2.2 j (by omega)).trans (by rw [k43, up2_ne (by omega)])) (fun j => by rw [kf59 (aT + 2) _ (wr_out (by omega)), k43, up2_ne (by omega)]) (fun j => by rw [kf59 (aT + 6) _ (wr_out (by omega)), k43, up2_ne (by omega)]) (by omega)
          exact ih14 v51 m44 n45 (by first | omega | assumption | exact (iv_rng _).2 | exact (iv_rng _).1 | decide) (by first | omega | assumption | exact (iv_rng _).2 | exact (iv_rng _).1 | decide) (by first | omega | assumption | (show (m44 (aT + 3) 1).toInt ≤ v51.toInt; omega) | decide) (by first | omega | assumption | (show (m44 (aT + 1) 1).toInt = (m (aT + 1) 1).toInt; omega) | decide) (by omega) kbr I46 K47 (by omega)
  have z53 : (0 : Int32).toInt = 0 := by decide
  exact lp13 (((40 - 0) : Int).toNat + 1) 0 m1 n (by first | omega | assumption | exact (iv_rng _).2 | exact (iv_rng _).1 | decide) (by first | omega | assumption | exact (iv_rng _).2 | exact (iv_rng _).1 | decide) (by first | omega | assumption | (show (m1 (aT + 3) 1).toInt ≤ 0; omega) | decide) (by first | omega | assumption | (show (m1 (aT + 1) 1).toInt = (m (aT + 1) 1).toInt; omega) | decide) (by rw [Int32.toInt_zero]; have q := I (aT + 1) 1; rw [haT.2.1.2.2.1] at q; exact q.1) (by rw [Int32.toInt_zero]; exact RSK_0 (by omega)) I2 K3 (by omega)
