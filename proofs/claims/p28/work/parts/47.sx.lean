set_option maxHeartbeats 2000000 in
set_option maxRecDepth 20000 in
theorem s_X12_in_vx (g : pv_G) {T : List mv_T} {m : Nat → Nat → Int32} {n : Nat → Nat → Int64} {r : Nat → Value} (hT : TX T) (I : IV BB m) (x0 : Int32) (x1 : Int32) (x2 : Int32) : PM g mX12_in yX12_in (sqP (mk T m n r) 0 1 (fun v => (v = 0 ∨ (x1.toInt ≤ x0.toInt ∧ x0.toInt ≤ x2.toInt)) ∧ ((v.toInt = 1 ∧ x1.toInt ≤ x0.toInt ∧ x0.toInt ≤ x2.toInt) ∨ (v.toInt = 0 ∧ (x0.toInt < x1.toInt ∨ x2.toInt < x0.toInt))))) 1 0 0 [.int x0, .int x1, .int x2] (mk T m n r) := by
  have Kp : fr (wl []) m m := fr.rf
  refine PM.of 0 (lo := [.int x0, .int x1, .int x2]) rfl (by decide) rfl rfl (Nat.le_of_ble_eq_true rfl) ?_
  refine pv_iload_n (M := mX12_in) 0 dX12_in_0 1 rfl rfl rfl ?_
  refine pv_iload_n (M := mX12_in) 1 dX12_in_1 2 rfl rfl rfl ?_
  refine pv_icmp_lt (M := mX12_in) (tgt := 14) dX12_in_2 5 rfl (by decide) (fun c1 => ?_) (fun c1 => ?_)
  · have c1 := iv_lt (X := x0.toInt) (Y := x1.toInt) c1 rfl rfl
    refine pv_iconst (M := mX12_in) (v := 0) dX12_in_14 15 rfl (by decide) ?_
    have z2 : (0 : Int32).toInt = 0 := by decide
    exact pv_iret (M := mX12_in) dX12_in_15 rfl rfl ⟨_, rfl, rfl, by decide, by decide, ⟨Or.inl rfl, (Or.inr ⟨by decide, by omega⟩)⟩⟩
  · have c1 := iv_nlt (X := x0.toInt) (Y := x1.toInt) c1 rfl rfl
    refine pv_iload_n (M := mX12_in) 0 dX12_in_5 6 rfl rfl rfl ?_
    refine pv_iload_n (M := mX12_in) 2 dX12_in_6 7 rfl rfl rfl ?_
    refine pv_icmp_gt (M := mX12_in) (tgt := 14) dX12_in_7 10 rfl (by decide) (fun c3 => ?_) (fun c3 => ?_)
    · have c3 := iv_lt (X := x2.toInt) (Y := x0.toInt) c3 rfl rfl
      refine pv_iconst (M := mX12_in) (v := 0) dX12_in_14 15 rfl (by decide) ?_
      have z4 : (0 : Int32).toInt = 0 := by decide
      exact pv_iret (M := mX12_in) dX12_in_15 rfl rfl ⟨_, rfl, rfl, by decide, by decide, ⟨Or.inl rfl, (Or.inr ⟨by decide, by omega⟩)⟩⟩
    · have c3 := iv_nlt (X := x2.toInt) (Y := x0.toInt) c3 rfl rfl
      refine pv_iconst (M := mX12_in) (v := 1) dX12_in_10 11 rfl (by decide) ?_
      refine pv_goto (M := mX12_in) (tgt := 15) dX12_in_11 (by decide) ?_
      have z5 : (1 : Int32).toInt = 1 := by decide
      exact pv_iret (M := mX12_in) dX12_in_15 rfl rfl ⟨_, rfl, rfl, by decide, by decide, ⟨(Or.inr (by omega)), (Or.inl ⟨by decide, by omega, by omega⟩)⟩⟩

set_option maxHeartbeats 2000000 in
set_option maxRecDepth 20000 in
theorem s_X11_isBlank_vx (g : pv_G) {T : List mv_T} {m : Nat → Nat → Int32} {n : Nat → Nat → Int64} {r : Nat → Value} {la lb : Nat} (hT : TX T) (I : IV BB m) (R : RX T r la lb) (x0 : Int32) : PM g mX11_isBlank yX11_isBlank (sqP (mk T m n r) 0 1 (fun v => (v = 0 ∨ (0 ≤ x0.toInt ∧ x0.toInt ≤ 7)) ∧ ((v.toInt = 1 ∧ 0 ≤ x0.toInt ∧ x0.toInt < (m 0 2).toInt) ∨ (v.toInt = 0 ∧ (x0.toInt < 0 ∨ (m 0 2).toInt ≤ x0.toInt))))) 1 0 0 [.ref 0, .int x0] (mk T m n r) := by
  have Kp : fr (wl []) m m := fr.rf
  have R0 := R
  have zR := R.2.2.2.2.1.1
  have zR2 := R.2.2.2.2.2.1
  have z7 : 0 ≤ (m 0 2).toInt ∧ (m 0 2).toInt ≤ 8 := I 0 2
  refine PM.of 0 (lo := [.ref 0, .int x0]) rfl (by decide) rfl rfl (Nat.le_of_ble_eq_true rfl) ?_
  refine pv_iload_n (M := mX11_isBlank) 1 dX11_isBlank_0 1 rfl rfl rfl ?_
  refine pv_if_lt (M := mX11_isBlank) (tgt := 16) dX11_isBlank_1 4 rfl (by decide) (fun c1 => ?_) (fun c1 => ?_)
  · have c1 := iv_lt (X := x0.toInt) (Y := 0) c1 rfl (by decide)
    refine pv_iconst (M := mX11_isBlank) (v := 0) dX11_isBlank_16 17 rfl (by decide) ?_
    have z2 : (0 : Int32).toInt = 0 := by decide
    exact pv_iret (M := mX11_isBlank) dX11_isBlank_17 rfl rfl ⟨_, rfl, rfl, by decide, by decide, ⟨Or.inl rfl, Or.inr ⟨by decide, by omega⟩⟩⟩
  · have c1 := iv_nlt (X := x0.toInt) (Y := 0) c1 rfl (by decide)
    refine pv_iload_n (M := mX11_isBlank) 1 dX11_isBlank_4 5 rfl rfl rfl ?_
    refine pv_aload_n (M := mX11_isBlank) 0 dX11_isBlank_5 6 rfl rfl rfl ?_
    refine iv_get (M := mX11_isBlank) (l1 := 0) (l2 := 8) dX11_isBlank_6 FX11 2 wd409 (by decide) (tl0 hT) rfl I rfl 9 rfl (fun v3 ev3 pv3 qv3 => ?_)
    have wv3 : v3.toInt = (m 0 2).toInt := congrArg Int32.toInt ev3
    refine pv_icmp_ge (M := mX11_isBlank) (tgt := 16) dX11_isBlank_9 12 rfl (by decide) (fun c4 => ?_) (fun c4 => ?_)
    · have c4 := iv_le (X := v3.toInt) (Y := x0.toInt) c4 rfl rfl
      refine pv_iconst (M := mX11_isBlank) (v := 0) dX11_isBlank_16 17 rfl (by decide) ?_
      have z5 : (0 : Int32).toInt = 0 := by decide
      exact pv_iret (M := mX11_isBlank) dX11_isBlank_17 rfl rfl ⟨_, rfl, rfl, by decide, by decide, ⟨Or.inl rfl, Or.inr ⟨by decide, by omega⟩⟩⟩
    · have c4 := iv_nle (X := v3.toInt) (Y := x0.toInt) c4 rfl rfl
      refine pv_iconst (M := mX11_isBlank) (v := 1) dX11_isBlank_12 13 rfl (by decide) ?_
      refine pv_goto (M := mX11_isBlank) (tgt := 17) dX11_isBlank_13 (by decide) ?_
      have z6 : (1 : Int32).toInt = 1 := by decide
      exact pv_iret (M := mX11_isBlank) dX11_isBlank_17 rfl rfl ⟨_, rfl, rfl, by decide, by decide, ⟨Or.inr (by omega), Or.inl ⟨by decide, by omega, by omega⟩⟩⟩

set_option maxHeartbeats 2000000 in
set_option maxRecDepth 20000 in
theorem s_X12_isBlank_vx (g : pv_G) {T : List mv_T} {m : Nat → Nat → Int32} {n : Nat → Nat → Int64} {r : Nat → Value} (hT : TX T) (I : IV BB m) (x0 : Int32) : PM g mX12_isBlank yX12_isBlank (sqP (mk T m n r) 0 1 (fun v => (v = 0 ∨ (0 ≤ x0.toInt ∧ x0.toInt ≤ 7)) ∧ ((v.toInt = 1 ∧ 0 ≤ x0.toInt ∧ x0.toInt < (m 123 0).toInt) ∨ (v.toInt = 0 ∧ (x0.toInt < 0 ∨ (m 123 0).toInt ≤ x0.toInt))))) 1 0 0 [.ref 123, .int x0] (mk T m n r) := by
  have Kp : fr (wl []) m m := fr.rf
  have z7 : 0 ≤ (m 123 0).toInt ∧ (m 123 0).toInt ≤ 8 := I 123 0
  refine PM.of 0 (lo := [.ref 123, .int x0]) rfl (by decide) rfl rfl (Nat.le_of_ble_eq_true rfl) ?_
  refine pv_iload_n (M := mX12_isBlank) 1 dX12_isBlank_0 1 rfl rfl rfl ?_
  refine pv_if_lt (M := mX12_isBlank) (tgt := 16) dX12_isBlank_1 4 rfl (by decide) (fun c1 => ?_) (fun c1 => ?_)
  · have c1 := iv_lt (X := x0.toInt) (Y := 0) c1 rfl (by decide)
    refine pv_iconst (M := mX12_isBlank) (v := 0) dX12_isBlank_16 17 rfl (by decide) ?_
    have z2 : (0 : Int32).toInt = 0 := by decide
    exact pv_iret (M := mX12_isBlank) dX12_isBlank_17 rfl rfl ⟨_, rfl, rfl, by decide, by decide, ⟨Or.inl rfl, Or.inr ⟨by decide, by omega⟩⟩⟩
  · have c1 := iv_nlt (X := x0.toInt) (Y := 0) c1 rfl (by decide)
    refine pv_iload_n (M := mX12_isBlank) 1 dX12_isBlank_4 5 rfl rfl rfl ?_
    refine pv_aload_n (M := mX12_isBlank) 0 dX12_isBlank_5 6 rfl rfl rfl ?_
    refine iv_get (M := mX12_isBlank) (l1 := 0) (l2 := 8) dX12_isBlank_6 FX12 0 wd1173 (by decide) (tl123 hT) rfl I rfl 9 rfl (fun v3 ev3 pv3 qv3 => ?_)
    have wv3 : v3.toInt = (m 123 0).toInt := congrArg Int32.toInt ev3
    refine pv_icmp_ge (M := mX12_isBlank) (tgt := 16) dX12_isBlank_9 12 rfl (by decide) (fun c4 => ?_) (fun c4 => ?_)
    · have c4 := iv_le (X := v3.toInt) (Y := x0.toInt) c4 rfl rfl
      refine pv_iconst (M := mX12_isBlank) (v := 0) dX12_isBlank_16 17 rfl (by decide) ?_
      have z5 : (0 : Int32).toInt = 0 := by decide
      exact pv_iret (M := mX12_isBlank) dX12_isBlank_17 rfl rfl ⟨_, rfl, rfl, by decide, by decide, ⟨Or.inl rfl, Or.inr ⟨by decide, by omega⟩⟩⟩
    · have c4 := iv_nle (X := v3.toInt) (Y := x0.toInt) c4 rfl rfl
      refine pv_iconst (M := mX12_isBlank) (v := 1) dX12_isBlank_12 13 rfl (by decide) ?_
      refine pv_goto (M := mX12_isBlank) (tgt := 17) dX12_isBlank_13 (by decide) ?_
      have z6 : (1 : Int32).toInt = 1 := by decide
      exact pv_iret (M := mX12_isBlank) dX12_isBlank_17 rfl rfl ⟨_, rfl, rfl, by decide, by decide, ⟨Or.inr (by omega), Or.inl ⟨by decide, by omega, by omega⟩⟩⟩

set_option maxHeartbeats 2000000 in
set_option maxRecDepth 20000 in
theorem s_X10_holdsLetters_vx (g : pv_G) {T : List mv_T} {m : Nat → Nat → Int32} {n : Nat → Nat → Int64} {r : Nat → Value} (hT : TX T) (I : IV BB m) (x0 : Int32) (hl0 : -2147483648 ≤ x0.toInt) (hh0 : x0.toInt ≤ 200) : PM g mX10_holdsLetters yX10_holdsLetters (sqP (mk T m n r) 0 1 (fun v => (v.toInt = 1 ∧ LET 2 m x0.toInt) ∨ (v.toInt = 0 ∧ ¬ LET 2 m x0.toInt))) 1 0 0 [.ref 1, .int x0] (mk T m n r) := by
  have Kp : fr (wl []) m m := fr.rf
  refine PM.of 1 (lo := [.ref 1, .int x0, pv_U]) rfl (by decide) rfl rfl (Nat.le_of_ble_eq_true rfl) ?_
  refine pv_iconst (M := mX10_holdsLetters) (v := 0) dX10_holdsLetters_0 1 rfl (by decide) ?_
  refine pv_istore_n (M := mX10_holdsLetters) 2 (lo2 := [.ref 1, .int x0, .int 0]) dX10_holdsLetters_1 2 rfl rfl (by decide) rfl rfl ?_
  have lp7 : ∀ (fuel6 : Nat) (y1 : Int32), (0 ≤ y1.toInt) → (y1.toInt ≤ 200) → (∀ j : Nat, (j : Int) < y1.toInt → 97 ≤ (m 2 j).toInt ∧ (m 2 j).toInt ≤ 122) → ((200 - y1.toInt) : Int).toNat < fuel6 → PV none g mX10_holdsLetters (sqP (mk T m n r) 0 1 (fun v => (v.toInt = 1 ∧ LET 2 m x0.toInt) ∨ (v.toInt = 0 ∧ ¬ LET 2 m x0.toInt))) 1 0 0 2 [.ref 1, .int x0, .int y1] [] (mk T m n r) := by
    intro fuel6
    induction fuel6 with
    | zero => intro y1 b9 b10 b11 z12; omega
    | succ fuel6 ih8 =>
      intro y1 b9 b10 b11 z12
      have kg := (show ∀ j : Nat, (j : Int) < y1.toInt → 97 ≤ (m 2 j).toInt ∧ (m 2 j).toInt ≤ 122 by assumption)
      refine pv_iload_n (M := mX10_holdsLetters) 2 dX10_holdsLetters_2 3 rfl rfl rfl ?_
      refine pv_iload_n (M := mX10_holdsLetters) 1 dX10_holdsLetters_3 4 rfl rfl rfl ?_
      refine pv_icmp_ge (M := mX10_holdsLetters) (tgt := 44) dX10_holdsLetters_4 7 rfl (by decide) (fun c14 => ?_) (fun c14 => ?_)
      · have c14 := iv_le (X := x0.toInt) (Y := y1.toInt) c14 rfl rfl
        refine pv_iconst (M := mX10_holdsLetters) (v := 1) dX10_holdsLetters_44 45 rfl (by decide) ?_
        have z15 : (1 : Int32).toInt = 1 := by decide
        exact pv_iret (M := mX10_holdsLetters) dX10_holdsLetters_45 rfl rfl ⟨_, rfl, rfl, by decide, by decide, (Or.inl ⟨by decide, fun j a => kg j (by omega)⟩)⟩
      · have c14 := iv_nle (X := x0.toInt) (Y := y1.toInt) c14 rfl rfl
        refine pv_iload_n (M := mX10_holdsLetters) 2 dX10_holdsLetters_7 8 rfl rfl rfl ?_
        refine pv_sipush (M := mX10_holdsLetters) (v := 200) dX10_holdsLetters_8 11 rfl (by decide) ?_
        refine pv_icmp_ge (M := mX10_holdsLetters) (tgt := 44) dX10_holdsLetters_11 14 rfl (by decide) (fun c16 => ?_) (fun c16 => ?_)
        · have c16 := iv_le (X := 200) (Y := y1.toInt) c16 (by decide) rfl
          omega
        · have c16 := iv_nle (X := 200) (Y := y1.toInt) c16 (by decide) rfl
          refine pv_aload_n (M := mX10_holdsLetters) 0 dX10_holdsLetters_14 15 rfl rfl rfl ?_
          refine mv_get (M := mX10_holdsLetters) (v := .ref 2) dX10_holdsLetters_15 FX10 0 wd161 (by decide) (tl1 hT) rfl rfl 18 rfl ?_
          refine pv_iload_n (M := mX10_holdsLetters) 2 dX10_holdsLetters_18 19 rfl rfl rfl ?_
          refine iv_iald (M := mX10_holdsLetters) (X := y1.toInt) (l1 := 0) (l2 := 255) dX10_holdsLetters_19 (tl2 hT) rfl (by omega) (by omega) I (fun _ => rfl) 20 rfl (fun v17 ev17 pv17 qv17 => ?_)
          have k20 : v17.toInt = (m 2 y1.toInt.toNat).toInt := congrArg Int32.toInt ev17
          refine pv_bipush (M := mX10_holdsLetters) (v := 97) dX10_holdsLetters_20 22 rfl (by decide) ?_
          refine pv_icmp_lt (M := mX10_holdsLetters) (tgt := 36) dX10_holdsLetters_22 25 rfl (by decide) (fun c19 => ?_) (fun c19 => ?_)
          · have c19 := iv_lt (X := v17.toInt) (Y := 97) c19 rfl (by decide)
            refine pv_iconst (M := mX10_holdsLetters) (v := 0) dX10_holdsLetters_36 37 rfl (by decide) ?_
            have z20 : (0 : Int32).toInt = 0 := by decide
            exact pv_iret (M := mX10_holdsLetters) dX10_holdsLetters_37 rfl rfl ⟨_, rfl, rfl, by decide, by decide, (Or.inr ⟨by decide, fun q => by have a := q y1.toInt.toNat (by omega); omega⟩)⟩
          · have c19 := iv_nlt (X := v17.toInt) (Y := 97) c19 rfl (by decide)
            refine pv_aload_n (M := mX10_holdsLetters) 0 dX10_holdsLetters_25 26 rfl rfl rfl ?_
            refine mv_get (M := mX10_holdsLetters) (v := .ref 2) dX10_holdsLetters_26 FX10 0 wd161 (by decide) (tl1 hT) rfl rfl 29 rfl ?_
            refine pv_iload_n (M := mX10_holdsLetters) 2 dX10_holdsLetters_29 30 rfl rfl rfl ?_
            refine iv_iald (M := mX10_holdsLetters) (X := y1.toInt) (l1 := 0) (l2 := 255) dX10_holdsLetters_30 (tl2 hT) rfl (by omega) (by omega) I (fun _ => rfl) 31 rfl (fun v21 ev21 pv21 qv21 => ?_)
            have k31 : v21.toInt = (m 2 y1.toInt.toNat).toInt := congrArg Int32.toInt ev21
            refine pv_bipush (M := mX10_holdsLetters) (v := 122) dX10_holdsLetters_31 33 rfl (by decide) ?_
            refine pv_icmp_le (M := mX10_holdsLetters) (tgt := 38) dX10_holdsLetters_33 36 rfl (by decide) (fun c23 => ?_) (fun c23 => ?_)
            · have c23 := iv_le (X := v21.toInt) (Y := 122) c23 rfl (by decide)
              refine iv_inc (M := mX10_holdsLetters) (C := 1) dX10_holdsLetters_38 41 rfl rfl (by decide) rfl rfl (by decide) (by omega) (by omega) (fun v24 ev24 => ?_)
              show PV _ _ _ _ _ _ _ 41 [.ref 1, .int x0, .int v24] [] _
              refine pv_goto (M := mX10_holdsLetters) (tgt := 2) dX10_holdsLetters_41 (by decide) ?_
              have kb : ∀ j : Nat, (j : Int) < v24.toInt → 97 ≤ (m 2 j).toInt ∧ (m 2 j).toInt ≤ 122 := fun j a => if z : (j : Int) = y1.toInt then by rw [show j = (y1.toInt).toNat by omega]; omega else kg j (by omega)
              exact ih8 v24 (by first | omega | assumption | exact (iv_rng _).2 | exact (iv_rng _).1 | decide) (by first | omega | assumption | exact (iv_rng _).2 | exact (iv_rng _).1 | decide) kb (by omega)
            · have c23 := iv_nle (X := v21.toInt) (Y := 122) c23 rfl (by decide)
              refine pv_iconst (M := mX10_holdsLetters) (v := 0) dX10_holdsLetters_36 37 rfl (by decide) ?_
              have z26 : (0 : Int32).toInt = 0 := by decide
              exact pv_iret (M := mX10_holdsLetters) dX10_holdsLetters_37 rfl rfl ⟨_, rfl, rfl, by decide, by decide, (Or.inr ⟨by decide, fun q => by have a := q y1.toInt.toNat (by omega); omega⟩)⟩
  have z27 : (0 : Int32).toInt = 0 := by decide
  exact lp7 (((200 - 0) : Int).toNat + 1) 0 (by first | omega | assumption | exact (iv_rng _).2 | exact (iv_rng _).1 | decide) (by first | omega | assumption | exact (iv_rng _).2 | exact (iv_rng _).1 | decide) (fun j a => by rw [Int32.toInt_zero] at a; omega) (by omega)

set_option maxHeartbeats 2000000 in
set_option maxRecDepth 20000 in
theorem s_X12_areLetters_vx (g : pv_G) {T : List mv_T} {m : Nat → Nat → Int32} {n : Nat → Nat → Int64} {r : Nat → Value} (hT : TX T) (I : IV BB m) (x0 : Int32) (hl0 : 0 ≤ x0.toInt) (hh0 : x0.toInt ≤ 200) : PM g mX12_areLetters yX12_areLetters (sqP (mk T m n r) 0 1 (fun v => (v.toInt = 0 ∧ ¬ LET 129 m x0.toInt) ∨ (v.toInt = 1 ∧ LET 129 m x0.toInt))) 2 0 0 [.ref 123, .int x0] (mk T m n r) := by
  have Kp : fr (wl []) m m := fr.rf
  refine PM.of 1 (lo := [.ref 123, .int x0, pv_U]) rfl (by decide) rfl rfl (Nat.le_of_ble_eq_true rfl) ?_
  refine pv_iconst (M := mX12_areLetters) (v := 0) dX12_areLetters_0 1 rfl (by decide) ?_
  refine pv_istore_n (M := mX12_areLetters) 2 (lo2 := [.ref 123, .int x0, .int 0]) dX12_areLetters_1 2 rfl rfl (by decide) rfl rfl ?_
  have lp7 : ∀ (fuel6 : Nat) (y1 : Int32), (0 ≤ y1.toInt) → (y1.toInt ≤ 200) → (∀ j : Nat, (j : Int) < y1.toInt → 97 ≤ (m 129 j).toInt ∧ (m 129 j).toInt ≤ 122) → ((200 - y1.toInt) : Int).toNat < fuel6 → PV none g mX12_areLetters (sqP (mk T m n r) 0 1 (fun v => (v.toInt = 0 ∧ ¬ LET 129 m x0.toInt) ∨ (v.toInt = 1 ∧ LET 129 m x0.toInt))) 2 0 0 2 [.ref 123, .int x0, .int y1] [] (mk T m n r) := by
    intro fuel6
    induction fuel6 with
    | zero => intro y1 b9 b10 b11 z12; omega
    | succ fuel6 ih8 =>
      intro y1 b9 b10 b11 z12
      have kg := (show ∀ j : Nat, (j : Int) < y1.toInt → 97 ≤ (m 129 j).toInt ∧ (m 129 j).toInt ≤ 122 by assumption)
      refine pv_iload_n (M := mX12_areLetters) 2 dX12_areLetters_2 3 rfl rfl rfl ?_
      refine pv_iload_n (M := mX12_areLetters) 1 dX12_areLetters_3 4 rfl rfl rfl ?_
      refine pv_icmp_ge (M := mX12_areLetters) (tgt := 31) dX12_areLetters_4 7 rfl (by decide) (fun c14 => ?_) (fun c14 => ?_)
      · have c14 := iv_le (X := x0.toInt) (Y := y1.toInt) c14 rfl rfl
        refine pv_iconst (M := mX12_areLetters) (v := 1) dX12_areLetters_31 32 rfl (by decide) ?_
        have z15 : (1 : Int32).toInt = 1 := by decide
        exact pv_iret (M := mX12_areLetters) dX12_areLetters_32 rfl rfl ⟨_, rfl, rfl, by decide, by decide, (Or.inr ⟨by decide, fun j a => kg j (by omega)⟩)⟩
      · have c14 := iv_nle (X := x0.toInt) (Y := y1.toInt) c14 rfl rfl
        refine pv_aload_n (M := mX12_areLetters) 0 dX12_areLetters_7 8 rfl rfl rfl ?_
        refine mv_get (M := mX12_areLetters) (v := .ref 129) dX12_areLetters_8 FX12 10 wd1183 (by decide) (tl123 hT) rfl rfl 11 rfl ?_
        refine pv_iload_n (M := mX12_areLetters) 2 dX12_areLetters_11 12 rfl rfl rfl ?_
        refine iv_bald (M := mX12_areLetters) (X := y1.toInt) (l1 := (-128)) (l2 := 127) dX12_areLetters_12 (tl129 hT) rfl (by omega) (by omega) I (fun _ => rfl) 13 rfl (fun v16 ev16 pv16 qv16 => ?_)
        have k13 : v16.toInt = (m 129 y1.toInt.toNat).toInt := congrArg Int32.toInt ev16
        refine pv_bipush (M := mX12_areLetters) (v := 97) dX12_areLetters_13 15 rfl (by decide) ?_
        refine pv_bipush (M := mX12_areLetters) (v := 122) dX12_areLetters_15 17 rfl (by decide) ?_
        have z18 : (97 : Int32).toInt = 97 := by decide
        have z19 : (122 : Int32).toInt = 122 := by decide
        refine pv_calls (M := mX12_areLetters) (as := [.int v16, .int 97, .int 122]) (st := []) (kc2 := 0) (ks2 := 0) dX12_areLetters_17 wd1370 YX12_in wd1371 (s_X12_in_vx g hT I v16 97 122) rfl rfl (Nat.le_of_ble_eq_true rfl) (by decide) rfl rfl 20 rfl (fun rv h1 q20 => ?_)
        obtain ⟨v21, rfl, rfl, pv21, qv21, rv21⟩ := q20
        replace rv21 : (v21 = 0 ∨ ((97 : Int) ≤ v16.toInt ∧ v16.toInt ≤ (122 : Int))) ∧ ((v21.toInt = 1 ∧ (97 : Int) ≤ v16.toInt ∧ v16.toInt ≤ (122 : Int)) ∨ (v21.toInt = 0 ∧ (v16.toInt < (97 : Int) ∨ (122 : Int) < v16.toInt))) := by have q_ := rv21; (try rw [z18] at q_); (try rw [z19] at q_); exact q_
        show PV _ _ _ _ _ _ _ 20 [.ref 123, .int x0, .int y1] [.int v21] _
        have k20 := rv21.2
        refine pv_if_ne (M := mX12_areLetters) (tgt := 25) dX12_areLetters_20 23 rfl (by decide) (fun c23 => ?_) (fun c23 => ?_)
        · have pc23 := rv21.1.resolve_left c23
          have c23 := iv_ne (X := v21.toInt) (Y := 0) c23 rfl (by decide)
          refine iv_inc (M := mX12_areLetters) (C := 1) dX12_areLetters_25 28 rfl rfl (by decide) rfl rfl (by decide) (by omega) (by omega) (fun v24 ev24 => ?_)
          show PV _ _ _ _ _ _ _ 28 [.ref 123, .int x0, .int v24] [] _
          refine pv_goto (M := mX12_areLetters) (tgt := 2) dX12_areLetters_28 (by decide) ?_
          have kb : ∀ j : Nat, (j : Int) < v24.toInt → 97 ≤ (m 129 j).toInt ∧ (m 129 j).toInt ≤ 122 := fun j a => if z : (j : Int) = y1.toInt then by rw [show j = (y1.toInt).toNat by omega]; omega else kg j (by omega)
          exact ih8 v24 (by first | omega | assumption | exact (iv_rng _).2 | exact (iv_rng _).1 | decide) (by first | omega | assumption | exact (iv_rng _).2 | exact (iv_rng _).1 | decide) kb (by omega)
        · have c23 := iv_eq (X := v21.toInt) (Y := 0) c23 rfl (by decide)
          refine pv_iconst (M := mX12_areLetters) (v := 0) dX12_areLetters_23 24 rfl (by decide) ?_
          have z26 : (0 : Int32).toInt = 0 := by decide
          exact pv_iret (M := mX12_areLetters) dX12_areLetters_24 rfl rfl ⟨_, rfl, rfl, by decide, by decide, (Or.inl ⟨by decide, fun q => by have a := q y1.toInt.toNat (by omega); omega⟩)⟩
  have z27 : (0 : Int32).toInt = 0 := by decide
  exact lp7 (((200 - 0) : Int).toNat + 1) 0 (by first | omega | assumption | exact (iv_rng _).2 | exact (iv_rng _).1 | decide) (by first | omega | assumption | exact (iv_rng _).2 | exact (iv_rng _).1 | decide) (fun j a => by rw [Int32.toInt_zero] at a; omega) (by omega)

set_option maxHeartbeats 2000000 in
set_option maxRecDepth 20000 in
theorem s_X10_hasRoom_vx (g : pv_G) {T : List mv_T} {m : Nat → Nat → Int32} {n : Nat → Nat → Int64} {r : Nat → Value} (hT : TX T) (I : IV BB m) (x0 : Int32) (hl0 : 0 ≤ x0.toInt) (hh0 : x0.toInt ≤ 1000) : PM g mX10_hasRoom yX10_hasRoom (sqP (mk T m n r) 0 1 (fun v => (v.toInt = 1 ∧ (m 1 1).toInt + x0.toInt ≤ 200) ∨ (v.toInt = 0 ∧ 200 < (m 1 1).toInt + x0.toInt))) 1 0 0 [.ref 1, .int x0] (mk T m n r) := by
  have Kp : fr (wl []) m m := fr.rf
  have z6 : 0 ≤ (m 1 1).toInt ∧ (m 1 1).toInt ≤ 200 := I 1 1
  refine PM.of 0 (lo := [.ref 1, .int x0]) rfl (by decide) rfl rfl (Nat.le_of_ble_eq_true rfl) ?_
  refine pv_aload_n (M := mX10_hasRoom) 0 dX10_hasRoom_0 1 rfl rfl rfl ?_
  refine iv_get (M := mX10_hasRoom) (l1 := 0) (l2 := 200) dX10_hasRoom_1 FX10 1 wd163 (by decide) (tl1 hT) rfl I rfl 4 rfl (fun v1 ev1 pv1 qv1 => ?_)
  have wv1 : v1.toInt = (m 1 1).toInt := congrArg Int32.toInt ev1
  refine pv_iload_n (M := mX10_hasRoom) 1 dX10_hasRoom_4 5 rfl rfl rfl ?_
  refine iv_iadd (M := mX10_hasRoom) (X := v1.toInt) (Y := x0.toInt) dX10_hasRoom_5 6 rfl rfl rfl (by omega) (by omega) (fun v2 ev2 => ?_)
  refine pv_sipush (M := mX10_hasRoom) (v := 200) dX10_hasRoom_6 9 rfl (by decide) ?_
  refine pv_icmp_gt (M := mX10_hasRoom) (tgt := 16) dX10_hasRoom_9 12 rfl (by decide) (fun c3 => ?_) (fun c3 => ?_)
  · have c3 := iv_lt (X := 200) (Y := v2.toInt) c3 (by decide) rfl
    refine pv_iconst (M := mX10_hasRoom) (v := 0) dX10_hasRoom_16 17 rfl (by decide) ?_
    have z4 : (0 : Int32).toInt = 0 := by decide
    exact pv_iret (M := mX10_hasRoom) dX10_hasRoom_17 rfl rfl ⟨_, rfl, rfl, by decide, by decide, (Or.inr ⟨by decide, by omega⟩)⟩
  · have c3 := iv_nlt (X := 200) (Y := v2.toInt) c3 (by decide) rfl
    refine pv_iconst (M := mX10_hasRoom) (v := 1) dX10_hasRoom_12 13 rfl (by decide) ?_
    refine pv_goto (M := mX10_hasRoom) (tgt := 17) dX10_hasRoom_13 (by decide) ?_
    have z5 : (1 : Int32).toInt = 1 := by decide
    exact pv_iret (M := mX10_hasRoom) dX10_hasRoom_17 rfl rfl ⟨_, rfl, rfl, by decide, by decide, (Or.inl ⟨by decide, by omega⟩)⟩

set_option maxHeartbeats 2000000 in
set_option maxRecDepth 20000 in
theorem s_X10_put_vx (g : pv_G) {T : List mv_T} {m : Nat → Nat → Int32} {n : Nat → Nat → Int64} {r : Nat → Value} (hT : TX T) (I : IV BB m) (x0 : Int32) (hp0 : (m 1 1).toInt ≤ 196) : PM g mX10_put yX10_put (sqV T BB (wl [(1, 1, some 1), (2, 2, none)]) r m (fun m' => PUT 2 1 1 id x0 m m')) 1 0 0 [.ref 1, .int x0] (mk T m n r) := by
  have Kp : fr (wl [(1, 1, some 1), (2, 2, none)]) m m := fr.rf
  have z43 : 0 ≤ (m 1 1).toInt ∧ (m 1 1).toInt ≤ 200 := I 1 1
  refine PM.of 1 (lo := [.ref 1, .int x0, pv_U]) rfl (by decide) rfl rfl (Nat.le_of_ble_eq_true rfl) ?_
  refine pv_bipush (M := mX10_put) (v := 24) dX10_put_0 2 rfl (by decide) ?_
  refine pv_istore_n (M := mX10_put) 2 (lo2 := [.ref 1, .int x0, .int 24]) dX10_put_2 3 rfl rfl (by decide) rfl rfl ?_
  have lp7 : ∀ (fuel6 : Nat) (y1 : Int32) (m2 : Nat → Nat → Int32) (n3 : Nat → Nat → Int64), (-8 ≤ y1.toInt) → (y1.toInt ≤ 24) → (8 * ((m2 1 1).toInt - (m 1 1).toInt) = 24 - y1.toInt) → (∀ j : Nat, (j : Int) < (m 1 1).toInt → m2 2 j = m 2 j) → (∀ k : Nat, (k : Int) < (m2 1 1).toInt - (m 1 1).toInt → (m2 2 ((m 1 1).toInt.toNat + k)).toInt = BT x0 (24 - 8 * k)) → IV BB m2 → fr (wl [(1, 1, some 1), (2, 2, none)]) m m2 → ((y1.toInt - (-8)) : Int).toNat < fuel6 → PV none g mX10_put (sqV T BB (wl [(1, 1, some 1), (2, 2, none)]) r m (fun m' => PUT 2 1 1 id x0 m m')) 1 0 0 3 [.ref 1, .int x0, .int y1] [] (mk T m2 n3 r) := by
    intro fuel6
    induction fuel6 with
    | zero => intro y1 m2 n3 b9 b10 b11 b12 b13 I4 K5 z14; omega
    | succ fuel6 ih8 =>
      intro y1 m2 n3 b9 b10 b11 b12 b13 I4 K5 z14
      have z15 : 0 ≤ (m2 1 1).toInt ∧ (m2 1 1).toInt ≤ 200 := I4 1 1
      have kga := (show ∀ j : Nat, (j : Int) < (m 1 1).toInt → m2 2 j = m 2 j by assumption)
      have kgb := (show ∀ k : Nat, (k : Int) < (m2 1 1).toInt - (m 1 1).toInt → (m2 2 ((m 1 1).toInt.toNat + k)).toInt = BT x0 (24 - 8 * k) by assumption)
      refine pv_iload_n (M := mX10_put) 2 dX10_put_3 4 rfl rfl rfl ?_
      refine pv_if_lt (M := mX10_put) (tgt := 49) dX10_put_4 7 rfl (by decide) (fun c18 => ?_) (fun c18 => ?_)
      · have c18 := iv_lt (X := y1.toInt) (Y := 0) c18 rfl (by decide)
        exact pv_vret (M := mX10_put) dX10_put_49 rfl ⟨_, _, rfl, rfl, I4, K5, (by first | exact ⟨by omega, kga, fun k h => kgb k (by omega)⟩ | (exfalso; omega))⟩
      · have c18 := iv_nlt (X := y1.toInt) (Y := 0) c18 rfl (by decide)
        refine pv_aload_n (M := mX10_put) 0 dX10_put_7 8 rfl rfl rfl ?_
        refine iv_get (M := mX10_put) (l1 := 0) (l2 := 200) dX10_put_8 FX10 1 wd163 (by decide) (tl1 hT) rfl I4 rfl 11 rfl (fun v19 ev19 pv19 qv19 => ?_)
        have wv19 : v19.toInt = (m2 1 1).toInt := congrArg Int32.toInt ev19
        refine pv_sipush (M := mX10_put) (v := 200) dX10_put_11 14 rfl (by decide) ?_
        refine pv_icmp_ge (M := mX10_put) (tgt := 49) dX10_put_14 17 rfl (by decide) (fun c20 => ?_) (fun c20 => ?_)
        · have c20 := iv_le (X := 200) (Y := v19.toInt) c20 (by decide) rfl
          exact pv_vret (M := mX10_put) dX10_put_49 rfl ⟨_, _, rfl, rfl, I4, K5, (by first | exact ⟨by omega, kga, fun k h => kgb k (by omega)⟩ | (exfalso; omega))⟩
        · have c20 := iv_nle (X := 200) (Y := v19.toInt) c20 (by decide) rfl
          refine pv_aload_n (M := mX10_put) 0 dX10_put_17 18 rfl rfl rfl ?_
          refine mv_get (M := mX10_put) (v := .ref 2) dX10_put_18 FX10 0 wd161 (by decide) (tl1 hT) rfl rfl 21 rfl ?_
          refine pv_aload_n (M := mX10_put) 0 dX10_put_21 22 rfl rfl rfl ?_
          refine iv_get (M := mX10_put) (l1 := 0) (l2 := 200) dX10_put_22 FX10 1 wd163 (by decide) (tl1 hT) rfl I4 rfl 25 rfl (fun v21 ev21 pv21 qv21 => ?_)
          have wv21 : v21.toInt = (m2 1 1).toInt := congrArg Int32.toInt ev21
          refine pv_iload_n (M := mX10_put) 1 dX10_put_25 26 rfl rfl rfl ?_
          refine pv_iload_n (M := mX10_put) 2 dX10_put_26 27 rfl rfl rfl ?_
          refine iv_ushrU (M := mX10_put) dX10_put_27 28 rfl (fun v22 ev22 => ?_)
          have k28 := ev22
          refine pv_sipush (M := mX10_put) (v := 255) dX10_put_28 31 rfl (by decide) ?_
          refine iv_iandm (M := mX10_put) dX10_put_31 32 rfl 8 (by decide) (by decide) (fun v24 ev24 pv24 qv24 => ?_)
          have qv24 : v24.toInt < 256 := qv24
          have k32 := ush_bt x0 (s := y1) (by unfold SH4; omega) k28 ev24
          refine iv_iast (M := mX10_put) (X := v21.toInt) (l1 := 0) (l2 := 255) dX10_put_32 (tl2 hT) rfl (by omega) (by omega) I4 (fun _ => rfl) (by omega) (by omega) 33 rfl (fun m26 e29 I27 => ?_)
          have K28 := K5.set e29 rfl
          have w30 : (m26 1 1).toInt = (m2 1 1).toInt := by rw [e29, up2_ne (by omega)]
          have k33 := (e29).trans (up2_ix (j := (m2 1 1).toInt.toNat) (by omega))
          refine pv_aload_n (M := mX10_put) 0 dX10_put_33 34 rfl rfl rfl ?_
          refine pv_dup (M := mX10_put) dX10_put_34 35 rfl rfl ?_
          refine iv_get (M := mX10_put) (l1 := 0) (l2 := 200) dX10_put_35 FX10 1 wd163 (by decide) (tl1 hT) rfl I27 rfl 38 rfl (fun v32 ev32 pv32 qv32 => ?_)
          have wv32 : v32.toInt = (m26 1 1).toInt := congrArg Int32.toInt ev32
          refine pv_iconst (M := mX10_put) (v := 1) dX10_put_38 39 rfl (by decide) ?_
          refine iv_iadd (M := mX10_put) (X := v32.toInt) (Y := 1) dX10_put_39 40 rfl rfl (by decide) (by omega) (by omega) (fun v33 ev33 => ?_)
          refine iv_put (M := mX10_put) (l1 := 0) (l2 := 200) dX10_put_40 FX10 1 wd163 (by decide) rfl (tl1 hT) rfl rfl rfl I27 rfl (by omega) (by omega) 43 rfl (fun m34 e37 I35 => ?_)
          have K36 := K28.set e37 rfl
          have w38 : (m34 1 1).toInt = v33.toInt := by rw [e37, up2_eq]
          refine iv_inc (M := mX10_put) (C := (-8)) dX10_put_43 46 rfl rfl (by decide) rfl rfl (by decide) (by omega) (by omega) (fun v39 ev39 => ?_)
          show PV _ _ _ _ _ _ _ 46 [.ref 1, .int x0, .int v39] [] _
          refine pv_goto (M := mX10_put) (tgt := 3) dX10_put_46 (by decide) ?_
          have kba : ∀ j : Nat, (j : Int) < (m 1 1).toInt → m34 2 j = m 2 j := fun j a => by rw [e37, up2_ne (by omega), k33, up2_ne (by omega)]; exact kga j a
          have kbb : ∀ k : Nat, (k : Int) < (m34 1 1).toInt - (m 1 1).toInt → (m34 2 ((m 1 1).toInt.toNat + k)).toInt = BT x0 (24 - 8 * k) := fun k a => if z : (k : Int) = (m2 1 1).toInt - (m 1 1).toInt then (by rw [e37, up2_ne (by omega), k33, show (m 1 1).toInt.toNat + k = (m2 1 1).toInt.toNat by omega, up2_eq, show 24 - 8 * k = (y1.toInt).toNat by omega]; exact k32) else (by rw [e37, up2_ne (by omega), k33, up2_ne (by omega)]; exact kgb k (by omega))
          exact ih8 v39 m34 n3 (by first | omega | assumption | exact (iv_rng _).2 | exact (iv_rng _).1 | decide) (by first | omega | assumption | exact (iv_rng _).2 | exact (iv_rng _).1 | decide) (by first | omega | assumption | (show 8 * ((m34 1 1).toInt - (m 1 1).toInt) = 24 - v39.toInt; omega) | decide) kba kbb I35 K36 (by omega)
  have z42 : (24 : Int32).toInt = 24 := by decide
  exact lp7 (((24 - (-8)) : Int).toNat + 1) 24 m n (by first | omega | assumption | exact (iv_rng _).2 | exact (iv_rng _).1 | decide) (by first | omega | assumption | exact (iv_rng _).2 | exact (iv_rng _).1 | decide) (by first | omega | assumption | (show 8 * ((m 1 1).toInt - (m 1 1).toInt) = 24 - 24; omega) | decide) (fun _ _ => rfl) (fun k a => by omega) I Kp (by omega)

set_option maxHeartbeats 2000000 in
set_option maxRecDepth 20000 in
theorem s_X12_types_vx (g : pv_G) {T : List mv_T} {m : Nat → Nat → Int32} {n : Nat → Nat → Int64} {r : Nat → Value} (hT : TX T) (I : IV BB m) (x0 : Int32) (hp0 : (m 123 11).toInt ≤ 196) : PM g mX12_types yX12_types (sqV T BB (wl [(123, 123, some 11), (129, 129, none)]) r m (fun m' => PUT 129 123 11 (fun z => z % 256) x0 m m')) 1 0 0 [.ref 123, .int x0] (mk T m n r) := by
  have Kp : fr (wl [(123, 123, some 11), (129, 129, none)]) m m := fr.rf
  have z44 : 0 ≤ (m 123 11).toInt ∧ (m 123 11).toInt ≤ 200 := I 123 11
  refine PM.of 1 (lo := [.ref 123, .int x0, pv_U]) rfl (by decide) rfl rfl (Nat.le_of_ble_eq_true rfl) ?_
  refine pv_iconst (M := mX12_types) (v := 3) dX12_types_0 1 rfl (by decide) ?_
  refine pv_istore_n (M := mX12_types) 2 (lo2 := [.ref 123, .int x0, .int 3]) dX12_types_1 2 rfl rfl (by decide) rfl rfl ?_
  have lp7 : ∀ (fuel6 : Nat) (y1 : Int32) (m2 : Nat → Nat → Int32) (n3 : Nat → Nat → Int64), (-1 ≤ y1.toInt) → (y1.toInt ≤ 3) → ((m2 123 11).toInt = (m 123 11).toInt + 3 - y1.toInt) → (∀ j : Nat, (j : Int) < (m 123 11).toInt → m2 129 j = m 129 j) → (∀ k : Nat, (k : Int) < (m2 123 11).toInt - (m 123 11).toInt → (m2 129 ((m 123 11).toInt.toNat + k)).toInt % 256 = BT x0 (24 - 8 * k)) → IV BB m2 → fr (wl [(123, 123, some 11), (129, 129, none)]) m m2 → ((y1.toInt - (-1)) : Int).toNat < fuel6 → PV none g mX12_types (sqV T BB (wl [(123, 123, some 11), (129, 129, none)]) r m (fun m' => PUT 129 123 11 (fun z => z % 256) x0 m m')) 1 0 0 2 [.ref 123, .int x0, .int y1] [] (mk T m2 n3 r) := by
    intro fuel6
    induction fuel6 with
    | zero => intro y1 m2 n3 b9 b10 b11 b12 b13 I4 K5 z14; omega
    | succ fuel6 ih8 =>
      intro y1 m2 n3 b9 b10 b11 b12 b13 I4 K5 z14
      have z15 : 0 ≤ (m2 123 11).toInt ∧ (m2 123 11).toInt ≤ 200 := I4 123 11
      have kga := (show ∀ j : Nat, (j : Int) < (m 123 11).toInt → m2 129 j = m 129 j by assumption)
      have kgb := (show ∀ k : Nat, (k : Int) < (m2 123 11).toInt - (m 123 11).toInt → (m2 129 ((m 123 11).toInt.toNat + k)).toInt % 256 = BT x0 (24 - 8 * k) by assumption)
      refine pv_iload_n (M := mX12_types) 2 dX12_types_2 3 rfl rfl rfl ?_
      refine pv_if_lt (M := mX12_types) (tgt := 38) dX12_types_3 6 rfl (by decide) (fun c18 => ?_) (fun c18 => ?_)
      · have c18 := iv_lt (X := y1.toInt) (Y := 0) c18 rfl (by decide)
        exact pv_vret (M := mX12_types) dX12_types_38 rfl ⟨_, _, rfl, rfl, I4, K5, ⟨by omega, kga, fun k h => kgb k (by omega)⟩⟩
      · have c18 := iv_nlt (X := y1.toInt) (Y := 0) c18 rfl (by decide)
        refine pv_aload_n (M := mX12_types) 0 dX12_types_6 7 rfl rfl rfl ?_
        refine mv_get (M := mX12_types) (v := .ref 129) dX12_types_7 FX12 10 wd1183 (by decide) (tl123 hT) rfl rfl 10 rfl ?_
        refine pv_aload_n (M := mX12_types) 0 dX12_types_10 11 rfl rfl rfl ?_
        refine iv_get (M := mX12_types) (l1 := 0) (l2 := 200) dX12_types_11 FX12 11 wd1184 (by decide) (tl123 hT) rfl I4 rfl 14 rfl (fun v19 ev19 pv19 qv19 => ?_)
        have wv19 : v19.toInt = (m2 123 11).toInt := congrArg Int32.toInt ev19
        refine pv_iload_n (M := mX12_types) 1 dX12_types_14 15 rfl rfl rfl ?_
        refine pv_bipush (M := mX12_types) (v := 8) dX12_types_15 17 rfl (by decide) ?_
        refine pv_iload_n (M := mX12_types) 2 dX12_types_17 18 rfl rfl rfl ?_
        refine iv_imul (M := mX12_types) (X := 8) (Y := y1.toInt) dX12_types_18 19 rfl (by decide) rfl (by omega) (by omega) (fun v20 ev20 => ?_)
        have k19e : v20.toInt = 8 * y1.toInt := by omega
        have k19 : SH4 v20 := by unfold SH4; omega
        refine iv_shrU (M := mX12_types) dX12_types_19 20 rfl (fun v23 ev23 => ?_)
        have k20 := ev23
        refine iv_i2b (M := mX12_types) dX12_types_20 21 rfl (fun v25 ev25 pv25 qv25 => ?_)
        have k21 : v25.toInt % 256 = BT x0 (8 * y1.toInt).toNat := by rw [← k19e]; exact shr_bt x0 k19 k20 ev25
        refine iv_bast (M := mX12_types) (X := v19.toInt) (l1 := (-128)) (l2 := 127) dX12_types_21 (tl129 hT) rfl (by omega) (by omega) I4 (fun _ => rfl) (y := v25) (iv_nb (by omega) (by omega)) (by omega) (by omega) 22 rfl (fun m27 e30 I28 => ?_)
        have K29 := K5.set e30 rfl
        have w31 : (m27 123 11).toInt = (m2 123 11).toInt := by rw [e30, up2_ne (by omega)]
        have k22 := (e30).trans (up2_ix (j := (m2 123 11).toInt.toNat) (by omega))
        refine pv_aload_n (M := mX12_types) 0 dX12_types_22 23 rfl rfl rfl ?_
        refine pv_aload_n (M := mX12_types) 0 dX12_types_23 24 rfl rfl rfl ?_
        refine iv_get (M := mX12_types) (l1 := 0) (l2 := 200) dX12_types_24 FX12 11 wd1184 (by decide) (tl123 hT) rfl I28 rfl 27 rfl (fun v33 ev33 pv33 qv33 => ?_)
        have wv33 : v33.toInt = (m27 123 11).toInt := congrArg Int32.toInt ev33
        refine pv_iconst (M := mX12_types) (v := 1) dX12_types_27 28 rfl (by decide) ?_
        refine iv_iadd (M := mX12_types) (X := v33.toInt) (Y := 1) dX12_types_28 29 rfl rfl (by decide) (by omega) (by omega) (fun v34 ev34 => ?_)
        refine iv_put (M := mX12_types) (l1 := 0) (l2 := 200) dX12_types_29 FX12 11 wd1184 (by decide) rfl (tl123 hT) rfl rfl rfl I28 rfl (by omega) (by omega) 32 rfl (fun m35 e38 I36 => ?_)
        have K37 := K29.set e38 rfl
        have w39 : (m35 123 11).toInt = v34.toInt := by rw [e38, up2_eq]
        refine iv_inc (M := mX12_types) (C := (-1)) dX12_types_32 35 rfl rfl (by decide) rfl rfl (by decide) (by omega) (by omega) (fun v40 ev40 => ?_)
        show PV _ _ _ _ _ _ _ 35 [.ref 123, .int x0, .int v40] [] _
        refine pv_goto (M := mX12_types) (tgt := 2) dX12_types_35 (by decide) ?_
        have kba : ∀ j : Nat, (j : Int) < (m 123 11).toInt → m35 129 j = m 129 j := fun j a => by rw [e38, up2_ne (by omega), k22, up2_ne (by omega)]; exact kga j a
        have kbb : ∀ k : Nat, (k : Int) < (m35 123 11).toInt - (m 123 11).toInt → (m35 129 ((m 123 11).toInt.toNat + k)).toInt % 256 = BT x0 (24 - 8 * k) := fun k a => if z : (k : Int) = (m2 123 11).toInt - (m 123 11).toInt then (by rw [e38, up2_ne (by omega), k22, show (m 123 11).toInt.toNat + k = (m2 123 11).toInt.toNat by omega, up2_eq, show 24 - 8 * k = (8 * y1.toInt).toNat by omega]; exact k21) else (by rw [e38, up2_ne (by omega), k22, up2_ne (by omega)]; exact kgb k (by omega))
        exact ih8 v40 m35 n3 (by first | omega | assumption | exact (iv_rng _).2 | exact (iv_rng _).1 | decide) (by first | omega | assumption | exact (iv_rng _).2 | exact (iv_rng _).1 | decide) (by first | omega | assumption | (show (m35 123 11).toInt = (m 123 11).toInt + 3 - v40.toInt; omega) | decide) kba kbb I36 K37 (by omega)
  have z43 : (3 : Int32).toInt = 3 := by decide
  exact lp7 (((3 - (-1)) : Int).toNat + 1) 3 m n (by first | omega | assumption | exact (iv_rng _).2 | exact (iv_rng _).1 | decide) (by first | omega | assumption | exact (iv_rng _).2 | exact (iv_rng _).1 | decide) (by first | omega | assumption | (show (m 123 11).toInt = (m 123 11).toInt + 3 - 3; omega) | decide) (fun _ _ => rfl) (fun k a => by omega) I Kp (by omega)

set_option maxHeartbeats 2000000 in
set_option maxRecDepth 20000 in
theorem s_X11_feed_vx (g : pv_G) {T : List mv_T} {m : Nat → Nat → Int32} {n : Nat → Nat → Int64} {r : Nat → Value} {la lb : Nat} (hT : TX T) (I : IV BB m) (R : RX T r la lb) (x0 : Int32) (x1 : Int32) (x2 : Int32) (x3 : Int32) (x4 : Int32) : PM g mX11_feed yX11_feed (sqI T BB (wl [(1, 1, some 1), (2, 2, none)]) r m (-2147483648) 2147483647 (fun m' v => FDK 2 1 1 id [x0, x1, x2, x3, x4] m m' v.toInt)) 2 0 0 [.ref 0, .int x0, .int x1, .int x2, .int x3, .int x4] (mk T m n r) := by
  have Kp : fr (wl [(1, 1, some 1), (2, 2, none)]) m m := fr.rf
  have R0 := R
  have zR := R.2.2.2.2.1.1
  have zR2 := R.2.2.2.2.2.1
  have z43 : 0 ≤ (m 1 1).toInt ∧ (m 1 1).toInt ≤ 200 := I 1 1
  refine PM.of 0 (lo := [.ref 0, .int x0, .int x1, .int x2, .int x3, .int x4]) rfl (by decide) rfl rfl (Nat.le_of_ble_eq_true rfl) ?_
  refine pv_aload_n (M := mX11_feed) 0 dX11_feed_0 1 rfl rfl rfl ?_
  refine mv_get (M := mX11_feed) (v := .ref 1) dX11_feed_1 FX11 0 wd407 (by decide) (tl0 hT) rfl rfl 4 rfl ?_
  refine pv_bipush (M := mX11_feed) (v := 20) dX11_feed_4 6 rfl (by decide) ?_
  have z1 : (20 : Int32).toInt = 20 := by decide
  refine pv_callv (M := mX11_feed) (as := [.int 20]) (st := []) (kc2 := 0) (ks2 := 0) dX11_feed_6 wd467 YX10_hasRoom ⟨wd468, wd469⟩ (mk_get (tl1 hT)) rfl rfl (s_X10_hasRoom_vx g hT I 20 (by decide) (by decide)) rfl rfl (Nat.le_of_ble_eq_true rfl) (by decide) rfl rfl 9 rfl (fun rv h1 q2 => ?_)
  obtain ⟨v3, rfl, rfl, pv3, qv3, rv3⟩ := q2
  replace rv3 : (v3.toInt = 1 ∧ (m 1 1).toInt + (20 : Int) ≤ 200) ∨ (v3.toInt = 0 ∧ 200 < (m 1 1).toInt + (20 : Int)) := by have q_ := rv3; (try rw [z1] at q_); exact q_
  show PV _ _ _ _ _ _ _ 9 [.ref 0, .int x0, .int x1, .int x2, .int x3, .int x4] [.int v3] _
  have kf := rv3
  refine pv_if_ne (M := mX11_feed) (tgt := 14) dX11_feed_9 12 rfl (by decide) (fun c5 => ?_) (fun c5 => ?_)
  · have c5 := iv_ne (X := v3.toInt) (Y := 0) c5 rfl (by decide)
    refine pv_aload_n (M := mX11_feed) 0 dX11_feed_14 15 rfl rfl rfl ?_
    refine mv_get (M := mX11_feed) (v := .ref 1) dX11_feed_15 FX11 0 wd407 (by decide) (tl0 hT) rfl rfl 18 rfl ?_
    refine pv_iload_n (M := mX11_feed) 1 dX11_feed_18 19 rfl rfl rfl ?_
    refine pv_callv (M := mX11_feed) (as := [.int x0]) (st := []) (kc2 := 0) (ks2 := 0) dX11_feed_19 wd471 YX10_put ⟨wd472, wd473⟩ (mk_get (tl1 hT)) rfl rfl (s_X10_put_vx g hT I x0 (by first | omega | assumption | exact (iv_rng _).2 | exact (iv_rng _).1 | decide)) rfl rfl (Nat.le_of_ble_eq_true rfl) (by decide) rfl rfl 22 rfl (fun rv h1 q6 => ?_)
    obtain ⟨m7, n8, rfl, rfl, I9, K10, rm7⟩ := q6
    replace rm7 : PUT 2 1 1 id x0 m m7 := rm7
    have K10c := K10
    have K10 := Kp.trans (K10.sub (fun _ _ q => q))
    show PV _ _ _ _ _ _ _ 22 [.ref 0, .int x0, .int x1, .int x2, .int x3, .int x4] [] _
    have t1 : TAP 2 1 1 id [x0] m m7 := TAP_put (by omega) TAP_0 rm7
    have s1 : (m7 1 1).toInt = (m 1 1).toInt + 4 := by have z := t1.1; simpa using z
    refine pv_aload_n (M := mX11_feed) 0 dX11_feed_22 23 rfl rfl rfl ?_
    refine mv_get (M := mX11_feed) (v := .ref 1) dX11_feed_23 FX11 0 wd407 (by decide) (tl0 hT) rfl rfl 26 rfl ?_
    refine pv_iload_n (M := mX11_feed) 2 dX11_feed_26 27 rfl rfl rfl ?_
    refine pv_callv (M := mX11_feed) (as := [.int x1]) (st := []) (kc2 := 0) (ks2 := 0) dX11_feed_27 wd471 YX10_put ⟨wd472, wd473⟩ (mk_get (tl1 hT)) rfl rfl (s_X10_put_vx g hT I9 x1 (by first | omega | assumption | exact (iv_rng _).2 | exact (iv_rng _).1 | decide)) rfl rfl (Nat.le_of_ble_eq_true rfl) (by decide) rfl rfl 30 rfl (fun rv h1 q13 => ?_)
    obtain ⟨m14, n15, rfl, rfl, I16, K17, rm14⟩ := q13
    replace rm14 : PUT 2 1 1 id x1 m7 m14 := rm14
    have K17c := K17
    have K17 := K10.trans (K17.sub (fun _ _ q => q))
    show PV _ _ _ _ _ _ _ 30 [.ref 0, .int x0, .int x1, .int x2, .int x3, .int x4] [] _
    have t2 : TAP 2 1 1 id [x0, x1] m m14 := TAP_put (by omega) t1 rm14
    have s2 : (m14 1 1).toInt = (m 1 1).toInt + 8 := by have z := t2.1; simpa using z
    refine pv_aload_n (M := mX11_feed) 0 dX11_feed_30 31 rfl rfl rfl ?_
    refine mv_get (M := mX11_feed) (v := .ref 1) dX11_feed_31 FX11 0 wd407 (by decide) (tl0 hT) rfl rfl 34 rfl ?_
    refine pv_iload_n (M := mX11_feed) 3 dX11_feed_34 35 rfl rfl rfl ?_
    refine pv_callv (M := mX11_feed) (as := [.int x2]) (st := []) (kc2 := 0) (ks2 := 0) dX11_feed_35 wd471 YX10_put ⟨wd472, wd473⟩ (mk_get (tl1 hT)) rfl rfl (s_X10_put_vx g hT I16 x2 (by first | omega | assumption | exact (iv_rng _).2 | exact (iv_rng _).1 | decide)) rfl rfl (Nat.le_of_ble_eq_true rfl) (by decide) rfl rfl 38 rfl (fun rv h1 q20 => ?_)
    obtain ⟨m21, n22, rfl, rfl, I23, K24, rm21⟩ := q20
    replace rm21 : PUT 2 1 1 id x2 m14 m21 := rm21
    have K24c := K24
    have K24 := K17.trans (K24.sub (fun _ _ q => q))
    show PV _ _ _ _ _ _ _ 38 [.ref 0, .int x0, .int x1, .int x2, .int x3, .int x4] [] _
    have t3 : TAP 2 1 1 id [x0, x1, x2] m m21 := TAP_put (by omega) t2 rm21
    have s3 : (m21 1 1).toInt = (m 1 1).toInt + 12 := by have z := t3.1; simpa using z
    refine pv_aload_n (M := mX11_feed) 0 dX11_feed_38 39 rfl rfl rfl ?_
    refine mv_get (M := mX11_feed) (v := .ref 1) dX11_feed_39 FX11 0 wd407 (by decide) (tl0 hT) rfl rfl 42 rfl ?_
    refine pv_iload (M := mX11_feed) dX11_feed_42 44 rfl rfl ?_
    refine pv_callv (M := mX11_feed) (as := [.int x3]) (st := []) (kc2 := 0) (ks2 := 0) dX11_feed_44 wd471 YX10_put ⟨wd472, wd473⟩ (mk_get (tl1 hT)) rfl rfl (s_X10_put_vx g hT I23 x3 (by first | omega | assumption | exact (iv_rng _).2 | exact (iv_rng _).1 | decide)) rfl rfl (Nat.le_of_ble_eq_true rfl) (by decide) rfl rfl 47 rfl (fun rv h1 q27 => ?_)
    obtain ⟨m28, n29, rfl, rfl, I30, K31, rm28⟩ := q27
    replace rm28 : PUT 2 1 1 id x3 m21 m28 := rm28
    have K31c := K31
    have K31 := K24.trans (K31.sub (fun _ _ q => q))
    show PV _ _ _ _ _ _ _ 47 [.ref 0, .int x0, .int x1, .int x2, .int x3, .int x4] [] _
    have t4 : TAP 2 1 1 id [x0, x1, x2, x3] m m28 := TAP_put (by omega) t3 rm28
    have s4 : (m28 1 1).toInt = (m 1 1).toInt + 16 := by have z := t4.1; simpa using z
    refine pv_aload_n (M := mX11_feed) 0 dX11_feed_47 48 rfl rfl rfl ?_
    refine mv_get (M := mX11_feed) (v := .ref 1) dX11_feed_48 FX11 0 wd407 (by decide) (tl0 hT) rfl rfl 51 rfl ?_
    refine pv_iload (M := mX11_feed) dX11_feed_51 53 rfl rfl ?_
    refine pv_callv (M := mX11_feed) (as := [.int x4]) (st := []) (kc2 := 0) (ks2 := 0) dX11_feed_53 wd471 YX10_put ⟨wd472, wd473⟩ (mk_get (tl1 hT)) rfl rfl (s_X10_put_vx g hT I30 x4 (by first | omega | assumption | exact (iv_rng _).2 | exact (iv_rng _).1 | decide)) rfl rfl (Nat.le_of_ble_eq_true rfl) (by decide) rfl rfl 56 rfl (fun rv h1 q34 => ?_)
    obtain ⟨m35, n36, rfl, rfl, I37, K38, rm35⟩ := q34
    replace rm35 : PUT 2 1 1 id x4 m28 m35 := rm35
    have K38c := K38
    have K38 := K31.trans (K38.sub (fun _ _ q => q))
    show PV _ _ _ _ _ _ _ 56 [.ref 0, .int x0, .int x1, .int x2, .int x3, .int x4] [] _
    have t5 : TAP 2 1 1 id [x0, x1, x2, x3, x4] m m35 := TAP_put (by omega) t4 rm35
    have s5 : (m35 1 1).toInt = (m 1 1).toInt + 20 := by have z := t5.1; simpa using z
    refine pv_aload_n (M := mX11_feed) 0 dX11_feed_56 57 rfl rfl rfl ?_
    refine mv_get (M := mX11_feed) (v := .ref 1) dX11_feed_57 FX11 0 wd407 (by decide) (tl0 hT) rfl rfl 60 rfl ?_
    refine iv_get (M := mX11_feed) (l1 := 0) (l2 := 200) dX11_feed_60 FX10 1 wd164 (by decide) (tl1 hT) rfl I37 rfl 63 rfl (fun v41 ev41 pv41 qv41 => ?_)
    have wv41 : v41.toInt = (m35 1 1).toInt := congrArg Int32.toInt ev41
    exact pv_iret (M := mX11_feed) dX11_feed_63 rfl rfl ⟨_, _, _, rfl, rfl, I37, K38, (iv_rng v41).1, (iv_rng v41).2, (by first | exact Or.inl ⟨by omega, by omega, t5⟩ | exact Or.inr ⟨by omega, by decide, rfl, fun _ => rfl⟩)⟩
  · have c5 := iv_eq (X := v3.toInt) (Y := 0) c5 rfl (by decide)
    refine pv_iconst (M := mX11_feed) (v := (-1)) dX11_feed_12 13 rfl (by decide) ?_
    have z42 : ((-1) : Int32).toInt = (-1) := by decide
    exact pv_iret (M := mX11_feed) dX11_feed_13 rfl rfl ⟨_, _, _, rfl, rfl, I, Kp, by decide, by decide, (by first | exact Or.inl ⟨by omega, by omega, t5⟩ | exact Or.inr ⟨by omega, by decide, rfl, fun _ => rfl⟩)⟩

set_option maxHeartbeats 2000000 in
set_option maxRecDepth 20000 in
theorem s_X12_feed_vx (g : pv_G) {T : List mv_T} {m : Nat → Nat → Int32} {n : Nat → Nat → Int64} {r : Nat → Value} (hT : TX T) (I : IV BB m) (x0 : Int32) (x1 : Int32) (x2 : Int32) (x3 : Int32) (x4 : Int32) : PM g mX12_feed yX12_feed (sqI T BB (wl [(123, 123, some 11), (129, 129, none)]) r m (-2147483648) 2147483647 (fun m' v => FDK 129 123 11 (fun z => z % 256) [x0, x1, x2, x3, x4] m m' v.toInt)) 2 0 0 [.ref 123, .int x0, .int x1, .int x2, .int x3, .int x4] (mk T m n r) := by
  have Kp : fr (wl [(123, 123, some 11), (129, 129, none)]) m m := fr.rf
  have z41 : 0 ≤ (m 123 11).toInt ∧ (m 123 11).toInt ≤ 200 := I 123 11
  refine PM.of 0 (lo := [.ref 123, .int x0, .int x1, .int x2, .int x3, .int x4]) rfl (by decide) rfl rfl (Nat.le_of_ble_eq_true rfl) ?_
  refine pv_aload_n (M := mX12_feed) 0 dX12_feed_0 1 rfl rfl rfl ?_
  refine iv_get (M := mX12_feed) (l1 := 0) (l2 := 200) dX12_feed_1 FX12 11 wd1184 (by decide) (tl123 hT) rfl I rfl 4 rfl (fun v1 ev1 pv1 qv1 => ?_)
  have wv1 : v1.toInt = (m 123 11).toInt := congrArg Int32.toInt ev1
  refine pv_bipush (M := mX12_feed) (v := 20) dX12_feed_4 6 rfl (by decide) ?_
  refine iv_iadd (M := mX12_feed) (X := v1.toInt) (Y := 20) dX12_feed_6 7 rfl rfl (by decide) (by omega) (by omega) (fun v2 ev2 => ?_)
  refine pv_sipush (M := mX12_feed) (v := 200) dX12_feed_7 10 rfl (by decide) ?_
  refine pv_icmp_le (M := mX12_feed) (tgt := 15) dX12_feed_10 13 rfl (by decide) (fun c3 => ?_) (fun c3 => ?_)
  · have c3 := iv_le (X := v2.toInt) (Y := 200) c3 rfl (by decide)
    refine pv_aload_n (M := mX12_feed) 0 dX12_feed_15 16 rfl rfl rfl ?_
    refine pv_iload_n (M := mX12_feed) 1 dX12_feed_16 17 rfl rfl rfl ?_
    refine pv_callv (M := mX12_feed) (as := [.int x0]) (st := []) (kc2 := 0) (ks2 := 0) dX12_feed_17 wd1405 YX12_types ⟨wd1407, wd58⟩ (mk_get (tl123 hT)) rfl rfl (s_X12_types_vx g hT I x0 (by first | omega | assumption | exact (iv_rng _).2 | exact (iv_rng _).1 | decide)) rfl rfl (Nat.le_of_ble_eq_true rfl) (by decide) rfl rfl 20 rfl (fun rv h1 q4 => ?_)
    obtain ⟨m5, n6, rfl, rfl, I7, K8, rm5⟩ := q4
    replace rm5 : PUT 129 123 11 (fun z => z % 256) x0 m m5 := rm5
    have K8c := K8
    have K8 := Kp.trans (K8.sub (fun _ _ q => q))
    show PV _ _ _ _ _ _ _ 20 [.ref 123, .int x0, .int x1, .int x2, .int x3, .int x4] [] _
    have t1 : TAP 129 123 11 (fun z => z % 256) [x0] m m5 := TAP_put (by omega) TAP_0 rm5
    have s1 : (m5 123 11).toInt = (m 123 11).toInt + 4 := by have z := t1.1; simpa using z
    refine pv_aload_n (M := mX12_feed) 0 dX12_feed_20 21 rfl rfl rfl ?_
    refine pv_iload_n (M := mX12_feed) 2 dX12_feed_21 22 rfl rfl rfl ?_
    refine pv_callv (M := mX12_feed) (as := [.int x1]) (st := []) (kc2 := 0) (ks2 := 0) dX12_feed_22 wd1405 YX12_types ⟨wd1407, wd58⟩ (mk_get (tl123 hT)) rfl rfl (s_X12_types_vx g hT I7 x1 (by first | omega | assumption | exact (iv_rng _).2 | exact (iv_rng _).1 | decide)) rfl rfl (Nat.le_of_ble_eq_true rfl) (by decide) rfl rfl 25 rfl (fun rv h1 q11 => ?_)
    obtain ⟨m12, n13, rfl, rfl, I14, K15, rm12⟩ := q11
    replace rm12 : PUT 129 123 11 (fun z => z % 256) x1 m5 m12 := rm12
    have K15c := K15
    have K15 := K8.trans (K15.sub (fun _ _ q => q))
    show PV _ _ _ _ _ _ _ 25 [.ref 123, .int x0, .int x1, .int x2, .int x3, .int x4] [] _
    have t2 : TAP 129 123 11 (fun z => z % 256) [x0, x1] m m12 := TAP_put (by omega) t1 rm12
    have s2 : (m12 123 11).toInt = (m 123 11).toInt + 8 := by have z := t2.1; simpa using z
    refine pv_aload_n (M := mX12_feed) 0 dX12_feed_25 26 rfl rfl rfl ?_
    refine pv_iload_n (M := mX12_feed) 3 dX12_feed_26 27 rfl rfl rfl ?_
    refine pv_callv (M := mX12_feed) (as := [.int x2]) (st := []) (kc2 := 0) (ks2 := 0) dX12_feed_27 wd1405 YX12_types ⟨wd1407, wd58⟩ (mk_get (tl123 hT)) rfl rfl (s_X12_types_vx g hT I14 x2 (by first | omega | assumption | exact (iv_rng _).2 | exact (iv_rng _).1 | decide)) rfl rfl (Nat.le_of_ble_eq_true rfl) (by decide) rfl rfl 30 rfl (fun rv h1 q18 => ?_)
    obtain ⟨m19, n20, rfl, rfl, I21, K22, rm19⟩ := q18
    replace rm19 : PUT 129 123 11 (fun z => z % 256) x2 m12 m19 := rm19
    have K22c := K22
    have K22 := K15.trans (K22.sub (fun _ _ q => q))
    show PV _ _ _ _ _ _ _ 30 [.ref 123, .int x0, .int x1, .int x2, .int x3, .int x4] [] _
    have t3 : TAP 129 123 11 (fun z => z % 256) [x0, x1, x2] m m19 := TAP_put (by omega) t2 rm19
    have s3 : (m19 123 11).toInt = (m 123 11).toInt + 12 := by have z := t3.1; simpa using z
    refine pv_aload_n (M := mX12_feed) 0 dX12_feed_30 31 rfl rfl rfl ?_
    refine pv_iload (M := mX12_feed) dX12_feed_31 33 rfl rfl ?_
    refine pv_callv (M := mX12_feed) (as := [.int x3]) (st := []) (kc2 := 0) (ks2 := 0) dX12_feed_33 wd1405 YX12_types ⟨wd1407, wd58⟩ (mk_get (tl123 hT)) rfl rfl (s_X12_types_vx g hT I21 x3 (by first | omega | assumption | exact (iv_rng _).2 | exact (iv_rng _).1 | decide)) rfl rfl (Nat.le_of_ble_eq_true rfl) (by decide) rfl rfl 36 rfl (fun rv h1 q25 => ?_)
    obtain ⟨m26, n27, rfl, rfl, I28, K29, rm26⟩ := q25
    replace rm26 : PUT 129 123 11 (fun z => z % 256) x3 m19 m26 := rm26
    have K29c := K29
    have K29 := K22.trans (K29.sub (fun _ _ q => q))
    show PV _ _ _ _ _ _ _ 36 [.ref 123, .int x0, .int x1, .int x2, .int x3, .int x4] [] _
    have t4 : TAP 129 123 11 (fun z => z % 256) [x0, x1, x2, x3] m m26 := TAP_put (by omega) t3 rm26
    have s4 : (m26 123 11).toInt = (m 123 11).toInt + 16 := by have z := t4.1; simpa using z
    refine pv_aload_n (M := mX12_feed) 0 dX12_feed_36 37 rfl rfl rfl ?_
    refine pv_iload (M := mX12_feed) dX12_feed_37 39 rfl rfl ?_
    refine pv_callv (M := mX12_feed) (as := [.int x4]) (st := []) (kc2 := 0) (ks2 := 0) dX12_feed_39 wd1405 YX12_types ⟨wd1407, wd58⟩ (mk_get (tl123 hT)) rfl rfl (s_X12_types_vx g hT I28 x4 (by first | omega | assumption | exact (iv_rng _).2 | exact (iv_rng _).1 | decide)) rfl rfl (Nat.le_of_ble_eq_true rfl) (by decide) rfl rfl 42 rfl (fun rv h1 q32 => ?_)
    obtain ⟨m33, n34, rfl, rfl, I35, K36, rm33⟩ := q32
    replace rm33 : PUT 129 123 11 (fun z => z % 256) x4 m26 m33 := rm33
    have K36c := K36
    have K36 := K29.trans (K36.sub (fun _ _ q => q))
    show PV _ _ _ _ _ _ _ 42 [.ref 123, .int x0, .int x1, .int x2, .int x3, .int x4] [] _
    have t5 : TAP 129 123 11 (fun z => z % 256) [x0, x1, x2, x3, x4] m m33 := TAP_put (by omega) t4 rm33
    have s5 : (m33 123 11).toInt = (m 123 11).toInt + 20 := by have z := t5.1; simpa using z
    refine pv_aload_n (M := mX12_feed) 0 dX12_feed_42 43 rfl rfl rfl ?_
    refine iv_get (M := mX12_feed) (l1 := 0) (l2 := 200) dX12_feed_43 FX12 11 wd1184 (by decide) (tl123 hT) rfl I35 rfl 46 rfl (fun v39 ev39 pv39 qv39 => ?_)
    have wv39 : v39.toInt = (m33 123 11).toInt := congrArg Int32.toInt ev39
    exact pv_iret (M := mX12_feed) dX12_feed_46 rfl rfl ⟨_, _, _, rfl, rfl, I35, K36, (iv_rng v39).1, (iv_rng v39).2, (by first | exact Or.inl ⟨by omega, by omega, t5⟩ | exact Or.inr ⟨by omega, by decide, rfl, fun _ => rfl⟩)⟩
  · have c3 := iv_nle (X := v2.toInt) (Y := 200) c3 rfl (by decide)
    refine pv_iconst (M := mX12_feed) (v := (-1)) dX12_feed_13 14 rfl (by decide) ?_
    have z40 : ((-1) : Int32).toInt = (-1) := by decide
    exact pv_iret (M := mX12_feed) dX12_feed_14 rfl rfl ⟨_, _, _, rfl, rfl, I, Kp, by decide, by decide, (by first | exact Or.inl ⟨by omega, by omega, t5⟩ | exact Or.inr ⟨by omega, by decide, rfl, fun _ => rfl⟩)⟩

set_option maxHeartbeats 2000000 in
set_option maxRecDepth 20000 in
theorem s_X11_blank_vx (g : pv_G) {T : List mv_T} {m : Nat → Nat → Int32} {n : Nat → Nat → Int64} {r : Nat → Value} {la lb : Nat} (hT : TX T) (I : IV BB m) (R : RX T r la lb) (x0 : Int32) : PM g mX11_blank yX11_blank (sqI T BB wU r m (-2147483648) 2147483647 (fun m' v => BLK x0.toInt (m 0 2).toInt (m 1 1).toInt (LET 2 m x0.toInt) v.toInt (m' 0 2).toInt (m' 1 1).toInt)) 3 0 0 [.ref 0, .int x0] (mk T m n r) := by
  have Kp : fr wU m m := fr.rf
  have R0 := R
  have zR := R.2.2.2.2.1.1
  have zR2 := R.2.2.2.2.2.1
  have z58 : 0 ≤ (m 0 2).toInt ∧ (m 0 2).toInt ≤ 8 := I 0 2
  have z59 : 0 ≤ (m 1 1).toInt ∧ (m 1 1).toInt ≤ 200 := I 1 1
  refine PM.of 1 (lo := [.ref 0, .int x0, pv_U]) rfl (by decide) rfl rfl (Nat.le_of_ble_eq_true rfl) ?_
  refine pv_iload_n (M := mX11_blank) 1 dX11_blank_0 1 rfl rfl rfl ?_
  refine pv_iconst (M := mX11_blank) (v := 1) dX11_blank_1 2 rfl (by decide) ?_
  refine pv_icmp_lt (M := mX11_blank) (tgt := 31) dX11_blank_2 5 rfl (by decide) (fun c1 => ?_) (fun c1 => ?_)
  · have c1 := iv_lt (X := x0.toInt) (Y := 1) c1 rfl (by decide)
    refine pv_iconst (M := mX11_blank) (v := (-1)) dX11_blank_31 32 rfl (by decide) ?_
    have z2 : ((-1) : Int32).toInt = (-1) := by decide
    exact pv_iret (M := mX11_blank) dX11_blank_32 rfl rfl ⟨_, _, _, rfl, rfl, I, Kp, by decide, by decide, (by first | exact Or.inr ⟨by omega, (by first | omega | decide), (by first | omega | decide), (by first | omega | decide)⟩ | exact Or.inl ⟨by omega, by omega, by omega, by omega, (by first | omega | decide), (kf.elim (fun q => Or.inl ⟨q.2, by omega, by omega⟩) (fun q => by exfalso; omega))⟩ | exact Or.inl ⟨by omega, by omega, by omega, by omega, (by first | omega | decide), (kf.elim (fun q => by exfalso; omega) (fun q => Or.inr ⟨q.2, (by first | omega | decide), by omega⟩))⟩)⟩
  · have c1 := iv_nlt (X := x0.toInt) (Y := 1) c1 rfl (by decide)
    refine pv_iload_n (M := mX11_blank) 1 dX11_blank_5 6 rfl rfl rfl ?_
    refine pv_bipush (M := mX11_blank) (v := 40) dX11_blank_6 8 rfl (by decide) ?_
    refine pv_icmp_gt (M := mX11_blank) (tgt := 31) dX11_blank_8 11 rfl (by decide) (fun c3 => ?_) (fun c3 => ?_)
    · have c3 := iv_lt (X := 40) (Y := x0.toInt) c3 (by decide) rfl
      refine pv_iconst (M := mX11_blank) (v := (-1)) dX11_blank_31 32 rfl (by decide) ?_
      have z4 : ((-1) : Int32).toInt = (-1) := by decide
      exact pv_iret (M := mX11_blank) dX11_blank_32 rfl rfl ⟨_, _, _, rfl, rfl, I, Kp, by decide, by decide, (by first | exact Or.inr ⟨by omega, (by first | omega | decide), (by first | omega | decide), (by first | omega | decide)⟩ | exact Or.inl ⟨by omega, by omega, by omega, by omega, (by first | omega | decide), (kf.elim (fun q => Or.inl ⟨q.2, by omega, by omega⟩) (fun q => by exfalso; omega))⟩ | exact Or.inl ⟨by omega, by omega, by omega, by omega, (by first | omega | decide), (kf.elim (fun q => by exfalso; omega) (fun q => Or.inr ⟨q.2, (by first | omega | decide), by omega⟩))⟩)⟩
    · have c3 := iv_nlt (X := 40) (Y := x0.toInt) c3 (by decide) rfl
      refine pv_aload_n (M := mX11_blank) 0 dX11_blank_11 12 rfl rfl rfl ?_
      refine iv_get (M := mX11_blank) (l1 := 0) (l2 := 8) dX11_blank_12 FX11 2 wd409 (by decide) (tl0 hT) rfl I rfl 15 rfl (fun v5 ev5 pv5 qv5 => ?_)
      have wv5 : v5.toInt = (m 0 2).toInt := congrArg Int32.toInt ev5
      refine pv_bipush (M := mX11_blank) (v := 8) dX11_blank_15 17 rfl (by decide) ?_
      refine pv_icmp_ge (M := mX11_blank) (tgt := 31) dX11_blank_17 20 rfl (by decide) (fun c6 => ?_) (fun c6 => ?_)
      · have c6 := iv_le (X := 8) (Y := v5.toInt) c6 (by decide) rfl
        refine pv_iconst (M := mX11_blank) (v := (-1)) dX11_blank_31 32 rfl (by decide) ?_
        have z7 : ((-1) : Int32).toInt = (-1) := by decide
        exact pv_iret (M := mX11_blank) dX11_blank_32 rfl rfl ⟨_, _, _, rfl, rfl, I, Kp, by decide, by decide, (by first | exact Or.inr ⟨by omega, (by first | omega | decide), (by first | omega | decide), (by first | omega | decide)⟩ | exact Or.inl ⟨by omega, by omega, by omega, by omega, (by first | omega | decide), (kf.elim (fun q => Or.inl ⟨q.2, by omega, by omega⟩) (fun q => by exfalso; omega))⟩ | exact Or.inl ⟨by omega, by omega, by omega, by omega, (by first | omega | decide), (kf.elim (fun q => by exfalso; omega) (fun q => Or.inr ⟨q.2, (by first | omega | decide), by omega⟩))⟩)⟩
      · have c6 := iv_nle (X := 8) (Y := v5.toInt) c6 (by decide) rfl
        refine pv_iload_n (M := mX11_blank) 1 dX11_blank_20 21 rfl rfl rfl ?_
        refine pv_aload_n (M := mX11_blank) 0 dX11_blank_21 22 rfl rfl rfl ?_
        refine mv_get (M := mX11_blank) (v := .ref 1) dX11_blank_22 FX11 0 wd407 (by decide) (tl0 hT) rfl rfl 25 rfl ?_
        refine iv_get (M := mX11_blank) (l1 := 0) (l2 := 200) dX11_blank_25 FX10 1 wd164 (by decide) (tl1 hT) rfl I rfl 28 rfl (fun v8 ev8 pv8 qv8 => ?_)
        have wv8 : v8.toInt = (m 1 1).toInt := congrArg Int32.toInt ev8
        refine pv_icmp_le (M := mX11_blank) (tgt := 33) dX11_blank_28 31 rfl (by decide) (fun c9 => ?_) (fun c9 => ?_)
        · have c9 := iv_le (X := x0.toInt) (Y := v8.toInt) c9 rfl rfl
          refine pv_aload_n (M := mX11_blank) 0 dX11_blank_33 34 rfl rfl rfl ?_
          refine mv_get (M := mX11_blank) (v := .ref 1) dX11_blank_34 FX11 0 wd407 (by decide) (tl0 hT) rfl rfl 37 rfl ?_
          refine pv_iload_n (M := mX11_blank) 1 dX11_blank_37 38 rfl rfl rfl ?_
          refine pv_callv (M := mX11_blank) (as := [.int x0]) (st := []) (kc2 := 0) (ks2 := 0) dX11_blank_38 wd479 YX10_holdsLetters ⟨wd480, wd481⟩ (mk_get (tl1 hT)) rfl rfl (s_X10_holdsLetters_vx g hT I x0 (by omega) (by omega)) rfl rfl (Nat.le_of_ble_eq_true rfl) (by decide) rfl rfl 41 rfl (fun rv h1 q10 => ?_)
          obtain ⟨v11, rfl, rfl, pv11, qv11, rv11⟩ := q10
          replace rv11 : (v11.toInt = 1 ∧ LET 2 m x0.toInt) ∨ (v11.toInt = 0 ∧ ¬ LET 2 m x0.toInt) := rv11
          show PV _ _ _ _ _ _ _ 41 [.ref 0, .int x0, pv_U] [.int v11] _
          have kf := rv11
          refine pv_istore_n (M := mX11_blank) 2 (lo2 := [.ref 0, .int x0, .int v11]) dX11_blank_41 42 rfl rfl (by decide) rfl rfl ?_
          refine pv_iload_n (M := mX11_blank) 2 dX11_blank_42 43 rfl rfl rfl ?_
          refine pv_if_eq (M := mX11_blank) (tgt := 88) dX11_blank_43 46 rfl (by decide) (fun c13 => ?_) (fun c13 => ?_)
          · have c13 := iv_eq (X := v11.toInt) (Y := 0) c13 rfl (by decide)
            refine pv_aload_n (M := mX11_blank) 0 dX11_blank_88 89 rfl rfl rfl ?_
            refine mv_get (M := mX11_blank) (v := .ref 1) dX11_blank_89 FX11 0 wd407 (by decide) (tl0 hT) rfl rfl 92 rfl ?_
            refine pv_iconst (M := mX11_blank) (v := 0) dX11_blank_92 93 rfl (by decide) ?_
            refine iv_put (M := mX11_blank) (l1 := 0) (l2 := 200) dX11_blank_93 FX10 1 wd164 (by decide) rfl (tl1 hT) rfl rfl rfl I rfl (by decide) (by decide) 96 rfl (fun m14 e17 I15 => ?_)
            have K16 := Kp.set e17 rfl
            have w18 : (m14 0 2).toInt = (m 0 2).toInt := by rw [e17, up2_ne (by omega)]
            have w19 : (m14 1 1).toInt = 0 := by rw [e17, up2_eq] <;> rfl
            refine pv_iload_n (M := mX11_blank) 2 dX11_blank_96 97 rfl rfl rfl ?_
            refine pv_if_eq (M := mX11_blank) (tgt := 109) dX11_blank_97 100 rfl (by decide) (fun c20 => ?_) (fun c20 => ?_)
            · have c20 := iv_eq (X := v11.toInt) (Y := 0) c20 rfl (by decide)
              refine pv_bipush (M := mX11_blank) (v := (-2)) dX11_blank_109 111 rfl (by decide) ?_
              have z21 : ((-2) : Int32).toInt = (-2) := by decide
              exact pv_iret (M := mX11_blank) dX11_blank_111 rfl rfl ⟨_, _, _, rfl, rfl, I15, K16, by decide, by decide, (by first | exact Or.inr ⟨by omega, (by first | omega | decide), (by first | omega | decide), (by first | omega | decide)⟩ | exact Or.inl ⟨by omega, by omega, by omega, by omega, (by first | omega | decide), (kf.elim (fun q => Or.inl ⟨q.2, by omega, by omega⟩) (fun q => by exfalso; omega))⟩ | exact Or.inl ⟨by omega, by omega, by omega, by omega, (by first | omega | decide), (kf.elim (fun q => by exfalso; omega) (fun q => Or.inr ⟨q.2, (by first | omega | decide), by omega⟩))⟩)⟩
            · have c20 := iv_ne (X := v11.toInt) (Y := 0) c20 rfl (by decide)
              omega
          · have c13 := iv_ne (X := v11.toInt) (Y := 0) c13 rfl (by decide)
            refine pv_aload_n (M := mX11_blank) 0 dX11_blank_46 47 rfl rfl rfl ?_
            refine mv_get (M := mX11_blank) (v := .ref 1) dX11_blank_47 FX11 0 wd407 (by decide) (tl0 hT) rfl rfl 50 rfl ?_
            refine pv_iload_n (M := mX11_blank) 1 dX11_blank_50 51 rfl rfl rfl ?_
            refine pv_aload_n (M := mX11_blank) 0 dX11_blank_51 52 rfl rfl rfl ?_
            refine mv_get (M := mX11_blank) (v := .ref 3) dX11_blank_52 FX11 1 wd408 (by decide) (tl0 hT) rfl rfl 55 rfl ?_
            refine pv_aload_n (M := mX11_blank) 0 dX11_blank_55 56 rfl rfl rfl ?_
            refine iv_get (M := mX11_blank) (l1 := 0) (l2 := 8) dX11_blank_56 FX11 2 wd409 (by decide) (tl0 hT) rfl I rfl 59 rfl (fun v22 ev22 pv22 qv22 => ?_)
            have wv22 : v22.toInt = (m 0 2).toInt := congrArg Int32.toInt ev22
            refine iv_qblank (M := mX11_blank) (X := v22.toInt) dX11_blank_59 hT R rfl (by omega) (by omega) 60 rfl (fun b23 eb23 hb23 => ?_)
            have zb23 := hb23.2.2.2.2.2.2.2
            refine mv_get (M := mX11_blank) (v := .ref (b23 + 1)) dX11_blank_60 FX0 0 wd208 (by decide) hb23.1 rfl rfl 63 rfl ?_
            refine pv_callv (M := mX11_blank) (as := [.int x0, .ref (b23 + 1)]) (st := []) (kc2 := 0) (ks2 := 0) dX11_blank_63 wd483 YX10_copyLetters ⟨wd484, wd485⟩ (mk_get (tl1 hT)) rfl rfl (s_X10_copyLetters g hT I x0 (b23 + 1) 40 hb23.2.1) rfl rfl (Nat.le_of_ble_eq_true rfl) (by decide) rfl rfl 66 rfl (fun rv h1 q24 => ?_)
            obtain ⟨m25, n26, rfl, rfl, I27, K28, rm25⟩ := q24
            have K28c := K28
            have w29 : (m25 0 2).toInt = (m 0 2).toInt := congrArg Int32.toInt (K28 0 2 (wr_out (by omega)))
            have w30 : (m25 1 1).toInt = (m 1 1).toInt := congrArg Int32.toInt (K28 1 1 (wr_out (by omega)))
            have K28 := Kp.trans (K28.sub (wr_wU (by omega) (by omega)))
            show PV _ _ _ _ _ _ _ 66 [.ref 0, .int x0, .int v11] [] _
            refine pv_aload_n (M := mX11_blank) 0 dX11_blank_66 67 rfl rfl rfl ?_
            refine mv_get (M := mX11_blank) (v := .ref 3) dX11_blank_67 FX11 1 wd408 (by decide) (tl0 hT) rfl rfl 70 rfl ?_
            refine pv_aload_n (M := mX11_blank) 0 dX11_blank_70 71 rfl rfl rfl ?_
            refine iv_get (M := mX11_blank) (l1 := 0) (l2 := 8) dX11_blank_71 FX11 2 wd409 (by decide) (tl0 hT) rfl I27 rfl 74 rfl (fun v31 ev31 pv31 qv31 => ?_)
            have wv31 : v31.toInt = (m25 0 2).toInt := congrArg Int32.toInt ev31
            refine iv_qblank (M := mX11_blank) (X := v31.toInt) dX11_blank_74 hT R rfl (by omega) (by omega) 75 rfl (fun b32 eb32 hb32 => ?_)
            have zb32 := hb32.2.2.2.2.2.2.2
            refine pv_callv (M := mX11_blank) (as := []) (st := []) (kc2 := 0) (ks2 := 0) dX11_blank_75 wd491 YX0_gather ⟨wd492, wd493⟩ (mk_get hb32.1) rfl rfl (s_X0_gather g hT I27 b32 hb32) rfl rfl (Nat.le_of_ble_eq_true rfl) (by decide) rfl rfl 78 rfl (fun rv h1 q33 => ?_)
            obtain ⟨m34, n35, rfl, rfl, I36, K37, rm34⟩ := q33
            have K37c := K37
            have w38 : (m34 0 2).toInt = (m25 0 2).toInt := congrArg Int32.toInt (K37 0 2 (wr_out (by omega)))
            have w39 : (m34 1 1).toInt = (m25 1 1).toInt := congrArg Int32.toInt (K37 1 1 (wr_out (by omega)))
            have K37 := K28.trans (K37.sub (wr_wU (by omega) (by omega)))
            show PV _ _ _ _ _ _ _ 78 [.ref 0, .int x0, .int v11] [] _
            refine pv_aload_n (M := mX11_blank) 0 dX11_blank_78 79 rfl rfl rfl ?_
            refine pv_dup (M := mX11_blank) dX11_blank_79 80 rfl rfl ?_
            refine iv_get (M := mX11_blank) (l1 := 0) (l2 := 8) dX11_blank_80 FX11 2 wd409 (by decide) (tl0 hT) rfl I36 rfl 83 rfl (fun v40 ev40 pv40 qv40 => ?_)
            have wv40 : v40.toInt = (m34 0 2).toInt := congrArg Int32.toInt ev40
            refine pv_iconst (M := mX11_blank) (v := 1) dX11_blank_83 84 rfl (by decide) ?_
            refine iv_iadd (M := mX11_blank) (X := v40.toInt) (Y := 1) dX11_blank_84 85 rfl rfl (by decide) (by omega) (by omega) (fun v41 ev41 => ?_)
            refine iv_put (M := mX11_blank) (l1 := 0) (l2 := 8) dX11_blank_85 FX11 2 wd409 (by decide) rfl (tl0 hT) rfl rfl rfl I36 rfl (by omega) (by omega) 88 rfl (fun m42 e45 I43 => ?_)
            have K44 := K37.set e45 rfl
            have w46 : (m42 0 2).toInt = v41.toInt := by rw [e45, up2_eq]
            have w47 : (m42 1 1).toInt = (m34 1 1).toInt := by rw [e45, up2_ne (by omega)]
            refine pv_aload_n (M := mX11_blank) 0 dX11_blank_88 89 rfl rfl rfl ?_
            refine mv_get (M := mX11_blank) (v := .ref 1) dX11_blank_89 FX11 0 wd407 (by decide) (tl0 hT) rfl rfl 92 rfl ?_
            refine pv_iconst (M := mX11_blank) (v := 0) dX11_blank_92 93 rfl (by decide) ?_
            refine iv_put (M := mX11_blank) (l1 := 0) (l2 := 200) dX11_blank_93 FX10 1 wd164 (by decide) rfl (tl1 hT) rfl rfl rfl I43 rfl (by decide) (by decide) 96 rfl (fun m48 e51 I49 => ?_)
            have K50 := K44.set e51 rfl
            have w52 : (m48 0 2).toInt = (m42 0 2).toInt := by rw [e51, up2_ne (by omega)]
            have w53 : (m48 1 1).toInt = 0 := by rw [e51, up2_eq] <;> rfl
            refine pv_iload_n (M := mX11_blank) 2 dX11_blank_96 97 rfl rfl rfl ?_
            refine pv_if_eq (M := mX11_blank) (tgt := 109) dX11_blank_97 100 rfl (by decide) (fun c54 => ?_) (fun c54 => ?_)
            · have c54 := iv_eq (X := v11.toInt) (Y := 0) c54 rfl (by decide)
              omega
            · have c54 := iv_ne (X := v11.toInt) (Y := 0) c54 rfl (by decide)
              refine pv_aload_n (M := mX11_blank) 0 dX11_blank_100 101 rfl rfl rfl ?_
              refine iv_get (M := mX11_blank) (l1 := 0) (l2 := 8) dX11_blank_101 FX11 2 wd409 (by decide) (tl0 hT) rfl I49 rfl 104 rfl (fun v55 ev55 pv55 qv55 => ?_)
              have wv55 : v55.toInt = (m48 0 2).toInt := congrArg Int32.toInt ev55
              refine pv_iconst (M := mX11_blank) (v := 1) dX11_blank_104 105 rfl (by decide) ?_
              refine iv_isub (M := mX11_blank) (X := v55.toInt) (Y := 1) dX11_blank_105 106 rfl rfl (by decide) (by omega) (by omega) (fun v56 ev56 => ?_)
              refine pv_goto (M := mX11_blank) (tgt := 111) dX11_blank_106 (by decide) ?_
              exact pv_iret (M := mX11_blank) dX11_blank_111 rfl rfl ⟨_, _, _, rfl, rfl, I49, K50, (iv_rng v56).1, (iv_rng v56).2, (by first | exact Or.inr ⟨by omega, (by first | omega | decide), (by first | omega | decide), (by first | omega | decide)⟩ | exact Or.inl ⟨by omega, by omega, by omega, by omega, (by first | omega | decide), (kf.elim (fun q => Or.inl ⟨q.2, by omega, by omega⟩) (fun q => by exfalso; omega))⟩ | exact Or.inl ⟨by omega, by omega, by omega, by omega, (by first | omega | decide), (kf.elim (fun q => by exfalso; omega) (fun q => Or.inr ⟨q.2, (by first | omega | decide), by omega⟩))⟩)⟩
        · have c9 := iv_nle (X := x0.toInt) (Y := v8.toInt) c9 rfl rfl
          refine pv_iconst (M := mX11_blank) (v := (-1)) dX11_blank_31 32 rfl (by decide) ?_
          have z57 : ((-1) : Int32).toInt = (-1) := by decide
          exact pv_iret (M := mX11_blank) dX11_blank_32 rfl rfl ⟨_, _, _, rfl, rfl, I, Kp, by decide, by decide, (by first | exact Or.inr ⟨by omega, (by first | omega | decide), (by first | omega | decide), (by first | omega | decide)⟩ | exact Or.inl ⟨by omega, by omega, by omega, by omega, (by first | omega | decide), (kf.elim (fun q => Or.inl ⟨q.2, by omega, by omega⟩) (fun q => by exfalso; omega))⟩ | exact Or.inl ⟨by omega, by omega, by omega, by omega, (by first | omega | decide), (kf.elim (fun q => by exfalso; omega) (fun q => Or.inr ⟨q.2, (by first | omega | decide), by omega⟩))⟩)⟩

set_option maxHeartbeats 2000000 in
set_option maxRecDepth 20000 in
theorem s_X12_blank_vx (g : pv_G) {T : List mv_T} {m : Nat → Nat → Int32} {n : Nat → Nat → Int64} {r : Nat → Value} (hT : TX T) (I : IV BB m) (x0 : Int32) : PM g mX12_blank yX12_blank (sqI T BB (wl [(123, 123, some 0), (123, 123, some 11), (124, 124, none), (125, 125, none)]) r m (-2147483648) 2147483647 (fun m' v => BLK x0.toInt (m 123 0).toInt (m 123 11).toInt (LET 129 m x0.toInt) v.toInt (m' 123 0).toInt (m' 123 11).toInt)) 3 0 0 [.ref 123, .int x0] (mk T m n r) := by
  have Kp : fr (wl [(123, 123, some 0), (123, 123, some 11), (124, 124, none), (125, 125, none)]) m m := fr.rf
  have z80 : 0 ≤ (m 123 0).toInt ∧ (m 123 0).toInt ≤ 8 := I 123 0
  have z81 : 0 ≤ (m 123 11).toInt ∧ (m 123 11).toInt ≤ 200 := I 123 11
  refine PM.of 1 (lo := [.ref 123, .int x0, pv_U]) rfl (by decide) rfl rfl (Nat.le_of_ble_eq_true rfl) ?_
  refine pv_iload_n (M := mX12_blank) 1 dX12_blank_0 1 rfl rfl rfl ?_
  refine pv_iconst (M := mX12_blank) (v := 1) dX12_blank_1 2 rfl (by decide) ?_
  refine pv_bipush (M := mX12_blank) (v := 40) dX12_blank_2 4 rfl (by decide) ?_
  have z1 : (1 : Int32).toInt = 1 := by decide
  have z2 : (40 : Int32).toInt = 40 := by decide
  refine pv_calls (M := mX12_blank) (as := [.int x0, .int 1, .int 40]) (st := []) (kc2 := 0) (ks2 := 0) dX12_blank_4 wd1370 YX12_in wd1371 (s_X12_in_vx g hT I x0 1 40) rfl rfl (Nat.le_of_ble_eq_true rfl) (by decide) rfl rfl 7 rfl (fun rv h1 q3 => ?_)
  obtain ⟨v4, rfl, rfl, pv4, qv4, rv4⟩ := q3
  replace rv4 : (v4 = 0 ∨ ((1 : Int) ≤ x0.toInt ∧ x0.toInt ≤ (40 : Int))) ∧ ((v4.toInt = 1 ∧ (1 : Int) ≤ x0.toInt ∧ x0.toInt ≤ (40 : Int)) ∨ (v4.toInt = 0 ∧ (x0.toInt < (1 : Int) ∨ (40 : Int) < x0.toInt))) := by have q_ := rv4; (try rw [z1] at q_); (try rw [z2] at q_); exact q_
  show PV _ _ _ _ _ _ _ 7 [.ref 123, .int x0, pv_U] [.int v4] _
  refine pv_if_eq (M := mX12_blank) (tgt := 27) dX12_blank_7 10 rfl (by decide) (fun c5 => ?_) (fun c5 => ?_)
  · have c5 := iv_eq (X := v4.toInt) (Y := 0) c5 rfl (by decide)
    refine pv_iconst (M := mX12_blank) (v := (-1)) dX12_blank_27 28 rfl (by decide) ?_
    have z6 : ((-1) : Int32).toInt = (-1) := by decide
    exact pv_iret (M := mX12_blank) dX12_blank_28 rfl rfl ⟨_, _, _, rfl, rfl, I, Kp, by decide, by decide, (by first | exact Or.inr ⟨by omega, (by first | omega | decide), (by first | omega | decide), (by first | omega | decide)⟩ | exact Or.inl ⟨by omega, by omega, by omega, by omega, (by first | omega | decide), (kf.elim (fun q => Or.inl ⟨q.2, by omega, by omega⟩) (fun q => by exfalso; omega))⟩ | exact Or.inl ⟨by omega, by omega, by omega, by omega, (by first | omega | decide), (kf.elim (fun q => by exfalso; omega) (fun q => Or.inr ⟨q.2, (by first | omega | decide), by omega⟩))⟩)⟩
  · have pc5 := rv4.1.resolve_left c5
    have c5 := iv_ne (X := v4.toInt) (Y := 0) c5 rfl (by decide)
    refine pv_aload_n (M := mX12_blank) 0 dX12_blank_10 11 rfl rfl rfl ?_
    refine iv_get (M := mX12_blank) (l1 := 0) (l2 := 8) dX12_blank_11 FX12 0 wd1173 (by decide) (tl123 hT) rfl I rfl 14 rfl (fun v7 ev7 pv7 qv7 => ?_)
    have wv7 : v7.toInt = (m 123 0).toInt := congrArg Int32.toInt ev7
    refine pv_bipush (M := mX12_blank) (v := 8) dX12_blank_14 16 rfl (by decide) ?_
    refine pv_icmp_eq (M := mX12_blank) (tgt := 27) dX12_blank_16 19 rfl (by decide) (fun c8 => ?_) (fun c8 => ?_)
    · have c8 := iv_eq (X := v7.toInt) (Y := 8) c8 rfl (by decide)
      refine pv_iconst (M := mX12_blank) (v := (-1)) dX12_blank_27 28 rfl (by decide) ?_
      have z9 : ((-1) : Int32).toInt = (-1) := by decide
      exact pv_iret (M := mX12_blank) dX12_blank_28 rfl rfl ⟨_, _, _, rfl, rfl, I, Kp, by decide, by decide, (by first | exact Or.inr ⟨by omega, (by first | omega | decide), (by first | omega | decide), (by first | omega | decide)⟩ | exact Or.inl ⟨by omega, by omega, by omega, by omega, (by first | omega | decide), (kf.elim (fun q => Or.inl ⟨q.2, by omega, by omega⟩) (fun q => by exfalso; omega))⟩ | exact Or.inl ⟨by omega, by omega, by omega, by omega, (by first | omega | decide), (kf.elim (fun q => by exfalso; omega) (fun q => Or.inr ⟨q.2, (by first | omega | decide), by omega⟩))⟩)⟩
    · have c8 := iv_ne (X := v7.toInt) (Y := 8) c8 rfl (by decide)
      refine pv_iload_n (M := mX12_blank) 1 dX12_blank_19 20 rfl rfl rfl ?_
      refine pv_aload_n (M := mX12_blank) 0 dX12_blank_20 21 rfl rfl rfl ?_
      refine iv_get (M := mX12_blank) (l1 := 0) (l2 := 200) dX12_blank_21 FX12 11 wd1184 (by decide) (tl123 hT) rfl I rfl 24 rfl (fun v10 ev10 pv10 qv10 => ?_)
      have wv10 : v10.toInt = (m 123 11).toInt := congrArg Int32.toInt ev10
      refine pv_icmp_le (M := mX12_blank) (tgt := 29) dX12_blank_24 27 rfl (by decide) (fun c11 => ?_) (fun c11 => ?_)
      · have c11 := iv_le (X := x0.toInt) (Y := v10.toInt) c11 rfl rfl
        refine pv_aload_n (M := mX12_blank) 0 dX12_blank_29 30 rfl rfl rfl ?_
        refine pv_iconst (M := mX12_blank) (v := 0) dX12_blank_30 31 rfl (by decide) ?_
        refine iv_put (M := mX12_blank) (l1 := 0) (l2 := 200) dX12_blank_31 FX12 11 wd1184 (by decide) rfl (tl123 hT) rfl rfl rfl I rfl (by decide) (by decide) 34 rfl (fun m12 e15 I13 => ?_)
        have K14 := Kp.set e15 rfl
        have w16 : (m12 123 0).toInt = (m 123 0).toInt := by rw [e15, up2_ne (by omega)]
        have w17 : (m12 123 11).toInt = 0 := by rw [e15, up2_eq] <;> rfl
        refine pv_aload_n (M := mX12_blank) 0 dX12_blank_34 35 rfl rfl rfl ?_
        refine pv_iload_n (M := mX12_blank) 1 dX12_blank_35 36 rfl rfl rfl ?_
        refine pv_callv (M := mX12_blank) (as := [.int x0]) (st := []) (kc2 := 0) (ks2 := 0) dX12_blank_36 wd1377 YX12_areLetters ⟨wd1379, wd54⟩ (mk_get (tl123 hT)) rfl rfl (s_X12_areLetters_vx g hT I13 x0 (by omega) (by omega)) rfl rfl (Nat.le_of_ble_eq_true rfl) (by decide) rfl rfl 39 rfl (fun rv h1 q18 => ?_)
        obtain ⟨v19, rfl, rfl, pv19, qv19, rv19⟩ := q18
        replace rv19 : (v19.toInt = 0 ∧ ¬ LET 129 m12 x0.toInt) ∨ (v19.toInt = 1 ∧ LET 129 m12 x0.toInt) := rv19
        show PV _ _ _ _ _ _ _ 39 [.ref 123, .int x0, pv_U] [.int v19] _
        have kRx := rv19
        have kle := LET_eq (c := 129) (m := m) (m2 := m12) (fun j => K14 129 j rfl) x0.toInt
        have kf : (v19.toInt = 1 ∧ LET 129 m x0.toInt) ∨ (v19.toInt = 0 ∧ ¬ LET 129 m x0.toInt) := kRx.elim (fun q => Or.inr ⟨q.1, fun z => q.2 (kle.mpr z)⟩) (fun q => Or.inl ⟨q.1, kle.mp q.2⟩)
        have kR : v19.toInt = 0 ∨ (∀ j : Nat, (j : Int) < x0.toInt → 97 ≤ (m12 129 j).toInt ∧ (m12 129 j).toInt ≤ 122) := kRx.elim (fun q => Or.inl q.1) (fun q => Or.inr q.2)
        refine pv_if_ne (M := mX12_blank) (tgt := 45) dX12_blank_39 42 rfl (by decide) (fun c24 => ?_) (fun c24 => ?_)
        · have c24 := iv_ne (X := v19.toInt) (Y := 0) c24 rfl (by decide)
          refine pv_iconst (M := mX12_blank) (v := 0) dX12_blank_45 46 rfl (by decide) ?_
          refine pv_istore_n (M := mX12_blank) 2 (lo2 := [.ref 123, .int x0, .int 0]) dX12_blank_46 47 rfl rfl (by decide) rfl rfl ?_
          have lp31 : ∀ (fuel30 : Nat) (y25 : Int32) (m26 : Nat → Nat → Int32) (n27 : Nat → Nat → Int64), (0 ≤ y25.toInt) → (y25.toInt ≤ 40) → (∀ j : Nat, (j : Int) < x0.toInt → 97 ≤ (m26 129 j).toInt ∧ (m26 129 j).toInt ≤ 122) → ((m26 123 0).toInt ≤ 7) → ((m26 123 0).toInt = (m 123 0).toInt) → ((m26 123 11).toInt = 0) → IV BB m26 → fr (wl [(123, 123, some 0), (123, 123, some 11), (124, 124, none), (125, 125, none)]) m m26 → ((40 - y25.toInt) : Int).toNat < fuel30 → PV none g mX12_blank (sqI T BB (wl [(123, 123, some 0), (123, 123, some 11), (124, 124, none), (125, 125, none)]) r m (-2147483648) 2147483647 (fun m' v => BLK x0.toInt (m 123 0).toInt (m 123 11).toInt (LET 129 m x0.toInt) v.toInt (m' 123 0).toInt (m' 123 11).toInt)) 3 0 0 47 [.ref 123, .int x0, .int y25] [] (mk T m26 n27 r) := by
            intro fuel30
            induction fuel30 with
            | zero => intro y25 m26 n27 b33 b34 b35 b36 b37 b38 I28 K29 z39; omega
            | succ fuel30 ih32 =>
              intro y25 m26 n27 b33 b34 b35 b36 b37 b38 I28 K29 z39
              have z40 : 0 ≤ (m26 123 0).toInt ∧ (m26 123 0).toInt ≤ 8 := I28 123 0
              have z41 : 0 ≤ (m26 123 11).toInt ∧ (m26 123 11).toInt ≤ 200 := I28 123 11
              have kA := (show ∀ j : Nat, (j : Int) < x0.toInt → 97 ≤ (m26 129 j).toInt ∧ (m26 129 j).toInt ≤ 122 by assumption)
              refine pv_iload_n (M := mX12_blank) 2 dX12_blank_47 48 rfl rfl rfl ?_
              refine pv_iload_n (M := mX12_blank) 1 dX12_blank_48 49 rfl rfl rfl ?_
              refine pv_icmp_ge (M := mX12_blank) (tgt := 81) dX12_blank_49 52 rfl (by decide) (fun c43 => ?_) (fun c43 => ?_)
              · have c43 := iv_le (X := x0.toInt) (Y := y25.toInt) c43 rfl rfl
                refine pv_aload_n (M := mX12_blank) 0 dX12_blank_81 82 rfl rfl rfl ?_
                refine mv_get (M := mX12_blank) (v := .ref 124) dX12_blank_82 FX12 5 wd1178 (by decide) (tl123 hT) rfl rfl 85 rfl ?_
                refine pv_aload_n (M := mX12_blank) 0 dX12_blank_85 86 rfl rfl rfl ?_
                refine iv_get (M := mX12_blank) (l1 := 0) (l2 := 8) dX12_blank_86 FX12 0 wd1173 (by decide) (tl123 hT) rfl I28 rfl 89 rfl (fun v44 ev44 pv44 qv44 => ?_)
                have wv44 : v44.toInt = (m26 123 0).toInt := congrArg Int32.toInt ev44
                refine pv_iload_n (M := mX12_blank) 1 dX12_blank_89 90 rfl rfl rfl ?_
                refine iv_iast (M := mX12_blank) (X := v44.toInt) (l1 := 0) (l2 := 40) dX12_blank_90 (tl124 hT) rfl (by omega) (by omega) I28 (fun _ => rfl) (by omega) (by omega) 91 rfl (fun m45 e48 I46 => ?_)
                have K47 := K29.set e48 rfl
                have w49 : (m45 123 0).toInt = (m26 123 0).toInt := by rw [e48, up2_ne (by omega)]
                have w50 : (m45 123 11).toInt = (m26 123 11).toInt := by rw [e48, up2_ne (by omega)]
                refine pv_aload_n (M := mX12_blank) 0 dX12_blank_91 92 rfl rfl rfl ?_
                refine pv_aload_n (M := mX12_blank) 0 dX12_blank_92 93 rfl rfl rfl ?_
                refine iv_get (M := mX12_blank) (l1 := 0) (l2 := 8) dX12_blank_93 FX12 0 wd1173 (by decide) (tl123 hT) rfl I46 rfl 96 rfl (fun v51 ev51 pv51 qv51 => ?_)
                have wv51 : v51.toInt = (m45 123 0).toInt := congrArg Int32.toInt ev51
                refine pv_iconst (M := mX12_blank) (v := 1) dX12_blank_96 97 rfl (by decide) ?_
                refine iv_iadd (M := mX12_blank) (X := v51.toInt) (Y := 1) dX12_blank_97 98 rfl rfl (by decide) (by omega) (by omega) (fun v52 ev52 => ?_)
                refine iv_put (M := mX12_blank) (l1 := 0) (l2 := 8) dX12_blank_98 FX12 0 wd1173 (by decide) rfl (tl123 hT) rfl rfl rfl I46 rfl (by omega) (by omega) 101 rfl (fun m53 e56 I54 => ?_)
                have K55 := K47.set e56 rfl
                have w57 : (m53 123 0).toInt = v52.toInt := by rw [e56, up2_eq]
                have w58 : (m53 123 11).toInt = (m45 123 11).toInt := by rw [e56, up2_ne (by omega)]
                refine pv_aload_n (M := mX12_blank) 0 dX12_blank_101 102 rfl rfl rfl ?_
                refine iv_get (M := mX12_blank) (l1 := 0) (l2 := 8) dX12_blank_102 FX12 0 wd1173 (by decide) (tl123 hT) rfl I54 rfl 105 rfl (fun v59 ev59 pv59 qv59 => ?_)
                have wv59 : v59.toInt = (m53 123 0).toInt := congrArg Int32.toInt ev59
                refine pv_iconst (M := mX12_blank) (v := 1) dX12_blank_105 106 rfl (by decide) ?_
                refine iv_isub (M := mX12_blank) (X := v59.toInt) (Y := 1) dX12_blank_106 107 rfl rfl (by decide) (by omega) (by omega) (fun v60 ev60 => ?_)
                exact pv_iret (M := mX12_blank) dX12_blank_107 rfl rfl ⟨_, _, _, rfl, rfl, I54, K55, (iv_rng v60).1, (iv_rng v60).2, (by first | exact Or.inr ⟨by omega, (by first | omega | decide), (by first | omega | decide), (by first | omega | decide)⟩ | exact Or.inl ⟨by omega, by omega, by omega, by omega, (by first | omega | decide), (kf.elim (fun q => Or.inl ⟨q.2, by omega, by omega⟩) (fun q => by exfalso; omega))⟩ | exact Or.inl ⟨by omega, by omega, by omega, by omega, (by first | omega | decide), (kf.elim (fun q => by exfalso; omega) (fun q => Or.inr ⟨q.2, (by first | omega | decide), by omega⟩))⟩)⟩
              · have c43 := iv_nle (X := x0.toInt) (Y := y25.toInt) c43 rfl rfl
                refine pv_aload_n (M := mX12_blank) 0 dX12_blank_52 53 rfl rfl rfl ?_
                refine mv_get (M := mX12_blank) (v := .ref 125) dX12_blank_53 FX12 6 wd1179 (by decide) (tl123 hT) rfl rfl 56 rfl ?_
                refine pv_bipush (M := mX12_blank) (v := 40) dX12_blank_56 58 rfl (by decide) ?_
                refine pv_aload_n (M := mX12_blank) 0 dX12_blank_58 59 rfl rfl rfl ?_
                refine iv_get (M := mX12_blank) (l1 := 0) (l2 := 8) dX12_blank_59 FX12 0 wd1173 (by decide) (tl123 hT) rfl I28 rfl 62 rfl (fun v61 ev61 pv61 qv61 => ?_)
                have wv61 : v61.toInt = (m26 123 0).toInt := congrArg Int32.toInt ev61
                refine iv_imul (M := mX12_blank) (X := 40) (Y := v61.toInt) dX12_blank_62 63 rfl (by decide) rfl (by omega) (by omega) (fun v62 ev62 => ?_)
                refine pv_iload_n (M := mX12_blank) 2 dX12_blank_63 64 rfl rfl rfl ?_
                refine iv_iadd (M := mX12_blank) (X := v62.toInt) (Y := y25.toInt) dX12_blank_64 65 rfl rfl rfl (by omega) (by omega) (fun v63 ev63 => ?_)
                refine pv_aload_n (M := mX12_blank) 0 dX12_blank_65 66 rfl rfl rfl ?_
                refine mv_get (M := mX12_blank) (v := .ref 129) dX12_blank_66 FX12 10 wd1183 (by decide) (tl123 hT) rfl rfl 69 rfl ?_
                refine pv_iload_n (M := mX12_blank) 2 dX12_blank_69 70 rfl rfl rfl ?_
                refine iv_bald (M := mX12_blank) (X := y25.toInt) (l1 := (-128)) (l2 := 127) dX12_blank_70 (tl129 hT) rfl (by omega) (by omega) I28 (fun _ => rfl) 71 rfl (fun v64 ev64 pv64 qv64 => ?_)
                have kL := ev64
                refine pv_bipush (M := mX12_blank) (v := 97) dX12_blank_71 73 rfl (by decide) ?_
                have kv : 97 ≤ v64.toInt ∧ v64.toInt ≤ 122 := by rw [kL]; exact kA _ (by omega)
                refine iv_isub (M := mX12_blank) (X := v64.toInt) (Y := 97) dX12_blank_73 74 rfl rfl (by decide) (by omega) (by omega) (fun v67 ev67 => ?_)
                refine iv_iast (M := mX12_blank) (X := v63.toInt) (l1 := 0) (l2 := 25) dX12_blank_74 (tl125 hT) rfl (by omega) (by omega) I28 (fun _ => rfl) (by omega) (by omega) 75 rfl (fun m68 e71 I69 => ?_)
                have K70 := K29.set e71 rfl
                have w72 : (m68 123 0).toInt = (m26 123 0).toInt := by rw [e71, up2_ne (by omega)]
                have w73 : (m68 123 11).toInt = (m26 123 11).toInt := by rw [e71, up2_ne (by omega)]
                refine iv_inc (M := mX12_blank) (C := 1) dX12_blank_75 78 rfl rfl (by decide) rfl rfl (by decide) (by omega) (by omega) (fun v74 ev74 => ?_)
                show PV _ _ _ _ _ _ _ 78 [.ref 123, .int x0, .int v74] [] _
                refine pv_goto (M := mX12_blank) (tgt := 47) dX12_blank_78 (by decide) ?_
                have kAb : ∀ j : Nat, (j : Int) < x0.toInt → 97 ≤ (m68 129 j).toInt ∧ (m68 129 j).toInt ≤ 122 := fun j hj => by rw [st_off e71 (by decide)]; exact kA j hj
                exact ih32 v74 m68 n27 (by first | omega | assumption | exact (iv_rng _).2 | exact (iv_rng _).1 | decide) (by first | omega | assumption | exact (iv_rng _).2 | exact (iv_rng _).1 | decide) kAb (by first | omega | assumption | (show (m68 123 0).toInt ≤ 7; omega) | decide) (by first | omega | assumption | (show (m68 123 0).toInt = (m 123 0).toInt; omega) | decide) (by first | omega | assumption | (show (m68 123 11).toInt = 0; omega) | decide) I69 K70 (by omega)
          have z76 : (0 : Int32).toInt = 0 := by decide
          have kA0 := kR.resolve_left (by omega)
          exact lp31 (((40 - 0) : Int).toNat + 1) 0 m12 n (by first | omega | assumption | exact (iv_rng _).2 | exact (iv_rng _).1 | decide) (by first | omega | assumption | exact (iv_rng _).2 | exact (iv_rng _).1 | decide) kA0 (by first | omega | assumption | (show (m12 123 0).toInt ≤ 7; omega) | decide) (by first | omega | assumption | (show (m12 123 0).toInt = (m 123 0).toInt; omega) | decide) (by first | omega | assumption | (show (m12 123 11).toInt = 0; omega) | decide) I13 K14 (by omega)
        · have c24 := iv_eq (X := v19.toInt) (Y := 0) c24 rfl (by decide)
          refine pv_bipush (M := mX12_blank) (v := (-2)) dX12_blank_42 44 rfl (by decide) ?_
          have z78 : ((-2) : Int32).toInt = (-2) := by decide
          exact pv_iret (M := mX12_blank) dX12_blank_44 rfl rfl ⟨_, _, _, rfl, rfl, I13, K14, by decide, by decide, (by first | exact Or.inr ⟨by omega, (by first | omega | decide), (by first | omega | decide), (by first | omega | decide)⟩ | exact Or.inl ⟨by omega, by omega, by omega, by omega, (by first | omega | decide), (kf.elim (fun q => Or.inl ⟨q.2, by omega, by omega⟩) (fun q => by exfalso; omega))⟩ | exact Or.inl ⟨by omega, by omega, by omega, by omega, (by first | omega | decide), (kf.elim (fun q => by exfalso; omega) (fun q => Or.inr ⟨q.2, (by first | omega | decide), by omega⟩))⟩)⟩
      · have c11 := iv_nle (X := x0.toInt) (Y := v10.toInt) c11 rfl rfl
        refine pv_iconst (M := mX12_blank) (v := (-1)) dX12_blank_27 28 rfl (by decide) ?_
        have z79 : ((-1) : Int32).toInt = (-1) := by decide
        exact pv_iret (M := mX12_blank) dX12_blank_28 rfl rfl ⟨_, _, _, rfl, rfl, I, Kp, by decide, by decide, (by first | exact Or.inr ⟨by omega, (by first | omega | decide), (by first | omega | decide), (by first | omega | decide)⟩ | exact Or.inl ⟨by omega, by omega, by omega, by omega, (by first | omega | decide), (kf.elim (fun q => Or.inl ⟨q.2, by omega, by omega⟩) (fun q => by exfalso; omega))⟩ | exact Or.inl ⟨by omega, by omega, by omega, by omega, (by first | omega | decide), (kf.elim (fun q => by exfalso; omega) (fun q => Or.inr ⟨q.2, (by first | omega | decide), by omega⟩))⟩)⟩

set_option maxHeartbeats 2000000 in
set_option maxRecDepth 20000 in
theorem s_X11_deed_v0x (g : pv_G) {T : List mv_T} {m : Nat → Nat → Int32} {n : Nat → Nat → Int64} {r : Nat → Value} {la lb : Nat} (hT : TX T) (I : IV BB m) (R : RX T r la lb) (hc0 : r 2 = .null) (x0 : Int32) (x1 : Int32) : PM g mX11_deed yX11_deed (sqI T BB wPd r m (-2147483648) 2147483647 (fun m' v => DDK x0.toInt x1.toInt (m 1 1).toInt (LET 2 m x1.toInt) v.toInt (m' 1 1).toInt)) 3 0 0 [.ref 0, .int x0, .int x1] (mk T m n r) := by
  have Kp : fr wPd m m := fr.rf
  have R0 := R
  have zR := R.2.2.2.2.1.1
  have zR2 := R.2.2.2.2.2.1
  have z41 : 0 ≤ (m 1 1).toInt ∧ (m 1 1).toInt ≤ 200 := I 1 1
  refine PM.of 1 (lo := [.ref 0, .int x0, .int x1, pv_U]) rfl (by decide) rfl rfl (Nat.le_of_ble_eq_true rfl) ?_
  refine pv_iload_n (M := mX11_deed) 1 dX11_deed_0 1 rfl rfl rfl ?_
  refine pv_if_lt (M := mX11_deed) (tgt := 32) dX11_deed_1 4 rfl (by decide) (fun c1 => ?_) (fun c1 => ?_)
  · have c1 := iv_lt (X := x0.toInt) (Y := 0) c1 rfl (by decide)
    refine pv_iconst (M := mX11_deed) (v := (-1)) dX11_deed_32 33 rfl (by decide) ?_
    have z2 : ((-1) : Int32).toInt = (-1) := by decide
    exact pv_iret (M := mX11_deed) dX11_deed_33 rfl rfl ⟨_, _, _, rfl, rfl, I, Kp, by decide, by decide, (by first | exact Or.inr ⟨by omega, (by first | omega | decide), (by first | omega | decide)⟩ | exact Or.inl ⟨by omega, by omega, by omega, by omega, by omega, (by first | omega | decide), (kf.elim (fun q => Or.inl ⟨q.2, (by first | omega | decide)⟩) (fun q => by exfalso; omega))⟩ | exact Or.inl ⟨by omega, by omega, by omega, by omega, by omega, (by first | omega | decide), (kf.elim (fun q => by exfalso; omega) (fun q => Or.inr ⟨q.2, (by first | omega | decide)⟩))⟩)⟩
  · have c1 := iv_nlt (X := x0.toInt) (Y := 0) c1 rfl (by decide)
    refine pv_iload_n (M := mX11_deed) 1 dX11_deed_4 5 rfl rfl rfl ?_
    refine pv_bipush (M := mX11_deed) (v := 8) dX11_deed_5 7 rfl (by decide) ?_
    refine pv_icmp_ge (M := mX11_deed) (tgt := 32) dX11_deed_7 10 rfl (by decide) (fun c3 => ?_) (fun c3 => ?_)
    · have c3 := iv_le (X := 8) (Y := x0.toInt) c3 (by decide) rfl
      refine pv_iconst (M := mX11_deed) (v := (-1)) dX11_deed_32 33 rfl (by decide) ?_
      have z4 : ((-1) : Int32).toInt = (-1) := by decide
      exact pv_iret (M := mX11_deed) dX11_deed_33 rfl rfl ⟨_, _, _, rfl, rfl, I, Kp, by decide, by decide, (by first | exact Or.inr ⟨by omega, (by first | omega | decide), (by first | omega | decide)⟩ | exact Or.inl ⟨by omega, by omega, by omega, by omega, by omega, (by first | omega | decide), (kf.elim (fun q => Or.inl ⟨q.2, (by first | omega | decide)⟩) (fun q => by exfalso; omega))⟩ | exact Or.inl ⟨by omega, by omega, by omega, by omega, by omega, (by first | omega | decide), (kf.elim (fun q => by exfalso; omega) (fun q => Or.inr ⟨q.2, (by first | omega | decide)⟩))⟩)⟩
    · have c3 := iv_nle (X := 8) (Y := x0.toInt) c3 (by decide) rfl
      refine pv_iload_n (M := mX11_deed) 2 dX11_deed_10 11 rfl rfl rfl ?_
      refine pv_iconst (M := mX11_deed) (v := 1) dX11_deed_11 12 rfl (by decide) ?_
      refine pv_icmp_lt (M := mX11_deed) (tgt := 32) dX11_deed_12 15 rfl (by decide) (fun c5 => ?_) (fun c5 => ?_)
      · have c5 := iv_lt (X := x1.toInt) (Y := 1) c5 rfl (by decide)
        refine pv_iconst (M := mX11_deed) (v := (-1)) dX11_deed_32 33 rfl (by decide) ?_
        have z6 : ((-1) : Int32).toInt = (-1) := by decide
        exact pv_iret (M := mX11_deed) dX11_deed_33 rfl rfl ⟨_, _, _, rfl, rfl, I, Kp, by decide, by decide, (by first | exact Or.inr ⟨by omega, (by first | omega | decide), (by first | omega | decide)⟩ | exact Or.inl ⟨by omega, by omega, by omega, by omega, by omega, (by first | omega | decide), (kf.elim (fun q => Or.inl ⟨q.2, (by first | omega | decide)⟩) (fun q => by exfalso; omega))⟩ | exact Or.inl ⟨by omega, by omega, by omega, by omega, by omega, (by first | omega | decide), (kf.elim (fun q => by exfalso; omega) (fun q => Or.inr ⟨q.2, (by first | omega | decide)⟩))⟩)⟩
      · have c5 := iv_nlt (X := x1.toInt) (Y := 1) c5 rfl (by decide)
        refine pv_iload_n (M := mX11_deed) 2 dX11_deed_15 16 rfl rfl rfl ?_
        refine pv_bipush (M := mX11_deed) (v := 16) dX11_deed_16 18 rfl (by decide) ?_
        refine pv_icmp_gt (M := mX11_deed) (tgt := 32) dX11_deed_18 21 rfl (by decide) (fun c7 => ?_) (fun c7 => ?_)
        · have c7 := iv_lt (X := 16) (Y := x1.toInt) c7 (by decide) rfl
          refine pv_iconst (M := mX11_deed) (v := (-1)) dX11_deed_32 33 rfl (by decide) ?_
          have z8 : ((-1) : Int32).toInt = (-1) := by decide
          exact pv_iret (M := mX11_deed) dX11_deed_33 rfl rfl ⟨_, _, _, rfl, rfl, I, Kp, by decide, by decide, (by first | exact Or.inr ⟨by omega, (by first | omega | decide), (by first | omega | decide)⟩ | exact Or.inl ⟨by omega, by omega, by omega, by omega, by omega, (by first | omega | decide), (kf.elim (fun q => Or.inl ⟨q.2, (by first | omega | decide)⟩) (fun q => by exfalso; omega))⟩ | exact Or.inl ⟨by omega, by omega, by omega, by omega, by omega, (by first | omega | decide), (kf.elim (fun q => by exfalso; omega) (fun q => Or.inr ⟨q.2, (by first | omega | decide)⟩))⟩)⟩
        · have c7 := iv_nlt (X := 16) (Y := x1.toInt) c7 (by decide) rfl
          refine pv_iload_n (M := mX11_deed) 2 dX11_deed_21 22 rfl rfl rfl ?_
          refine pv_aload_n (M := mX11_deed) 0 dX11_deed_22 23 rfl rfl rfl ?_
          refine mv_get (M := mX11_deed) (v := .ref 1) dX11_deed_23 FX11 0 wd407 (by decide) (tl0 hT) rfl rfl 26 rfl ?_
          refine iv_get (M := mX11_deed) (l1 := 0) (l2 := 200) dX11_deed_26 FX10 1 wd164 (by decide) (tl1 hT) rfl I rfl 29 rfl (fun v9 ev9 pv9 qv9 => ?_)
          have wv9 : v9.toInt = (m 1 1).toInt := congrArg Int32.toInt ev9
          refine pv_icmp_le (M := mX11_deed) (tgt := 34) dX11_deed_29 32 rfl (by decide) (fun c10 => ?_) (fun c10 => ?_)
          · have c10 := iv_le (X := x1.toInt) (Y := v9.toInt) c10 rfl rfl
            refine pv_aload_n (M := mX11_deed) 0 dX11_deed_34 35 rfl rfl rfl ?_
            refine mv_get (M := mX11_deed) (v := .ref 1) dX11_deed_35 FX11 0 wd407 (by decide) (tl0 hT) rfl rfl 38 rfl ?_
            refine pv_iload_n (M := mX11_deed) 2 dX11_deed_38 39 rfl rfl rfl ?_
            refine pv_callv (M := mX11_deed) (as := [.int x1]) (st := []) (kc2 := 0) (ks2 := 0) dX11_deed_39 wd479 YX10_holdsLetters ⟨wd480, wd481⟩ (mk_get (tl1 hT)) rfl rfl (s_X10_holdsLetters_vx g hT I x1 (by omega) (by omega)) rfl rfl (Nat.le_of_ble_eq_true rfl) (by decide) rfl rfl 42 rfl (fun rv h1 q11 => ?_)
            obtain ⟨v12, rfl, rfl, pv12, qv12, rv12⟩ := q11
            replace rv12 : (v12.toInt = 1 ∧ LET 2 m x1.toInt) ∨ (v12.toInt = 0 ∧ ¬ LET 2 m x1.toInt) := rv12
            show PV _ _ _ _ _ _ _ 42 [.ref 0, .int x0, .int x1, pv_U] [.int v12] _
            have kf := rv12
            refine pv_istore_n (M := mX11_deed) 3 (lo2 := [.ref 0, .int x0, .int x1, .int v12]) dX11_deed_42 43 rfl rfl (by decide) rfl rfl ?_
            refine pv_iload_n (M := mX11_deed) 3 dX11_deed_43 44 rfl rfl rfl ?_
            refine pv_if_eq (M := mX11_deed) (tgt := 65) dX11_deed_44 47 rfl (by decide) (fun c14 => ?_) (fun c14 => ?_)
            · have c14 := iv_eq (X := v12.toInt) (Y := 0) c14 rfl (by decide)
              refine pv_aload_n (M := mX11_deed) 0 dX11_deed_65 66 rfl rfl rfl ?_
              refine mv_get (M := mX11_deed) (v := .ref 1) dX11_deed_66 FX11 0 wd407 (by decide) (tl0 hT) rfl rfl 69 rfl ?_
              refine pv_iconst (M := mX11_deed) (v := 0) dX11_deed_69 70 rfl (by decide) ?_
              refine iv_put (M := mX11_deed) (l1 := 0) (l2 := 200) dX11_deed_70 FX10 1 wd164 (by decide) rfl (tl1 hT) rfl rfl rfl I rfl (by decide) (by decide) 73 rfl (fun m15 e18 I16 => ?_)
              have K17 := Kp.set e18 (by first | rfl | decide)
              have w19 : (m15 1 1).toInt = 0 := by rw [e18, up2_eq] <;> rfl
              refine pv_iload_n (M := mX11_deed) 3 dX11_deed_73 74 rfl rfl rfl ?_
              refine pv_if_eq (M := mX11_deed) (tgt := 81) dX11_deed_74 77 rfl (by decide) (fun c20 => ?_) (fun c20 => ?_)
              · have c20 := iv_eq (X := v12.toInt) (Y := 0) c20 rfl (by decide)
                refine pv_bipush (M := mX11_deed) (v := (-2)) dX11_deed_81 83 rfl (by decide) ?_
                have z21 : ((-2) : Int32).toInt = (-2) := by decide
                exact pv_iret (M := mX11_deed) dX11_deed_83 rfl rfl ⟨_, _, _, rfl, rfl, I16, K17, by decide, by decide, (by first | exact Or.inr ⟨by omega, (by first | omega | decide), (by first | omega | decide)⟩ | exact Or.inl ⟨by omega, by omega, by omega, by omega, by omega, (by first | omega | decide), (kf.elim (fun q => Or.inl ⟨q.2, (by first | omega | decide)⟩) (fun q => by exfalso; omega))⟩ | exact Or.inl ⟨by omega, by omega, by omega, by omega, by omega, (by first | omega | decide), (kf.elim (fun q => by exfalso; omega) (fun q => Or.inr ⟨q.2, (by first | omega | decide)⟩))⟩)⟩
              · have c20 := iv_ne (X := v12.toInt) (Y := 0) c20 rfl (by decide)
                omega
            · have c14 := iv_ne (X := v12.toInt) (Y := 0) c14 rfl (by decide)
              refine pv_aload_n (M := mX11_deed) 0 dX11_deed_47 48 rfl rfl rfl ?_
              refine mv_get (M := mX11_deed) (v := .ref 1) dX11_deed_48 FX11 0 wd407 (by decide) (tl0 hT) rfl rfl 51 rfl ?_
              refine pv_iload_n (M := mX11_deed) 2 dX11_deed_51 52 rfl rfl rfl ?_
              refine pv_aload_n (M := mX11_deed) 0 dX11_deed_52 53 rfl rfl rfl ?_
              refine mv_get (M := mX11_deed) (v := .ref 60) dX11_deed_53 FX11 3 wd410 (by decide) (tl0 hT) rfl rfl 56 rfl ?_
              refine pv_iload_n (M := mX11_deed) 1 dX11_deed_56 57 rfl rfl rfl ?_
              refine iv_qdeed (M := mX11_deed) (X := x0.toInt) dX11_deed_57 hT R rfl (by omega) (by omega) 58 rfl (fun b22 eb22 hb22 => ?_)
              have zb22 := hb22.2.2.2.2
              refine pv_callv (M := mX11_deed) (as := [.int x1, .ref b22]) (st := []) (kc2 := 0) (ks2 := 0) dX11_deed_58 wd483 YX10_copyLetters ⟨wd484, wd485⟩ (mk_get (tl1 hT)) rfl rfl (s_X10_copyLetters g hT I x1 b22 16 hb22) rfl rfl (Nat.le_of_ble_eq_true rfl) (by decide) rfl rfl 61 rfl (fun rv h1 q23 => ?_)
              obtain ⟨m24, n25, rfl, rfl, I26, K27, rm24⟩ := q23
              have K27c := K27
              have w28 : (m24 1 1).toInt = (m 1 1).toInt := congrArg Int32.toInt (K27 1 1 (wr_out (by omega)))
              have K27 := Kp.trans (K27.sub (by first | exact dd_wPd (by omega) (by omega) | first | exact wg_l (by decide) | exact wg_g (by decide) | exact WX_wg | exact la7_wg zR (by decide) | exact wsL_wg zR (by decide)))
              show PV _ _ _ _ _ _ _ 61 [.ref 0, .int x0, .int x1, .int v12] [] _
              refine pv_aload_n (M := mX11_deed) 0 dX11_deed_61 62 rfl rfl rfl ?_
              refine pv_callv (M := mX11_deed) (as := []) (st := []) (kc2 := 0) (ks2 := 0) dX11_deed_62 wd500 YX11_forgetSolved ⟨wd502, wd0⟩ (mk_get (tl0 hT)) rfl rfl (s_X11_forgetSolved_v0 g hT I26 R hc0) rfl rfl (Nat.le_of_ble_eq_true rfl) (by decide) rfl rfl 65 rfl (fun rv h1 q29 => ?_)
              obtain ⟨m30, n31, rfl, rfl, I32, K33, rm30⟩ := q29
              have K33c := K33
              have K33 := K27.trans (K33.sub (by first | exact dd_wPd (by omega) (by omega) | first | exact wg_l (by decide) | exact wg_g (by decide) | exact WX_wg | exact la7_wg zR (by decide) | exact wsL_wg zR (by decide)))
              show PV _ _ _ _ _ _ _ 65 [.ref 0, .int x0, .int x1, .int v12] [] _
              refine pv_aload_n (M := mX11_deed) 0 dX11_deed_65 66 rfl rfl rfl ?_
              refine mv_get (M := mX11_deed) (v := .ref 1) dX11_deed_66 FX11 0 wd407 (by decide) (tl0 hT) rfl rfl 69 rfl ?_
              refine pv_iconst (M := mX11_deed) (v := 0) dX11_deed_69 70 rfl (by decide) ?_
              refine iv_put (M := mX11_deed) (l1 := 0) (l2 := 200) dX11_deed_70 FX10 1 wd164 (by decide) rfl (tl1 hT) rfl rfl rfl I32 rfl (by decide) (by decide) 73 rfl (fun m34 e37 I35 => ?_)
              have K36 := K33.set e37 (by first | rfl | decide)
              have w38 : (m34 1 1).toInt = 0 := by rw [e37, up2_eq] <;> rfl
              refine pv_iload_n (M := mX11_deed) 3 dX11_deed_73 74 rfl rfl rfl ?_
              refine pv_if_eq (M := mX11_deed) (tgt := 81) dX11_deed_74 77 rfl (by decide) (fun c39 => ?_) (fun c39 => ?_)
              · have c39 := iv_eq (X := v12.toInt) (Y := 0) c39 rfl (by decide)
                omega
              · have c39 := iv_ne (X := v12.toInt) (Y := 0) c39 rfl (by decide)
                refine pv_iload_n (M := mX11_deed) 2 dX11_deed_77 78 rfl rfl rfl ?_
                refine pv_goto (M := mX11_deed) (tgt := 83) dX11_deed_78 (by decide) ?_
                exact pv_iret (M := mX11_deed) dX11_deed_83 rfl rfl ⟨_, _, _, rfl, rfl, I35, K36, (iv_rng x1).1, (iv_rng x1).2, (by first | exact Or.inr ⟨by omega, (by first | omega | decide), (by first | omega | decide)⟩ | exact Or.inl ⟨by omega, by omega, by omega, by omega, by omega, (by first | omega | decide), (kf.elim (fun q => Or.inl ⟨q.2, (by first | omega | decide)⟩) (fun q => by exfalso; omega))⟩ | exact Or.inl ⟨by omega, by omega, by omega, by omega, by omega, (by first | omega | decide), (kf.elim (fun q => by exfalso; omega) (fun q => Or.inr ⟨q.2, (by first | omega | decide)⟩))⟩)⟩
          · have c10 := iv_nle (X := x1.toInt) (Y := v9.toInt) c10 rfl rfl
            refine pv_iconst (M := mX11_deed) (v := (-1)) dX11_deed_32 33 rfl (by decide) ?_
            have z40 : ((-1) : Int32).toInt = (-1) := by decide
            exact pv_iret (M := mX11_deed) dX11_deed_33 rfl rfl ⟨_, _, _, rfl, rfl, I, Kp, by decide, by decide, (by first | exact Or.inr ⟨by omega, (by first | omega | decide), (by first | omega | decide)⟩ | exact Or.inl ⟨by omega, by omega, by omega, by omega, by omega, (by first | omega | decide), (kf.elim (fun q => Or.inl ⟨q.2, (by first | omega | decide)⟩) (fun q => by exfalso; omega))⟩ | exact Or.inl ⟨by omega, by omega, by omega, by omega, by omega, (by first | omega | decide), (kf.elim (fun q => by exfalso; omega) (fun q => Or.inr ⟨q.2, (by first | omega | decide)⟩))⟩)⟩

set_option maxHeartbeats 2000000 in
set_option maxRecDepth 20000 in
theorem s_X11_deed_vcx (g : pv_G) {T : List mv_T} {m : Nat → Nat → Int32} {n : Nat → Nat → Int64} {r : Nat → Value} {la lb : Nat} (hT : TX T) (I : IV BB m) (R : RX T r la lb) (hC : TC T) (hc2 : r 2 = .ref 169) (x0 : Int32) (x1 : Int32) : PM g mX11_deed yX11_deed (sqI T BB wPd r m (-2147483648) 2147483647 (fun m' v => DDK x0.toInt x1.toInt (m 1 1).toInt (LET 2 m x1.toInt) v.toInt (m' 1 1).toInt)) 3 0 0 [.ref 0, .int x0, .int x1] (mk T m n r) := by
  have Kp : fr wPd m m := fr.rf
  have R0 := R
  have zR := R.2.2.2.2.1.1
  have zR2 := R.2.2.2.2.2.1
  have hc20 := hc2
  have z41 : 0 ≤ (m 1 1).toInt ∧ (m 1 1).toInt ≤ 200 := I 1 1
  refine PM.of 1 (lo := [.ref 0, .int x0, .int x1, pv_U]) rfl (by decide) rfl rfl (Nat.le_of_ble_eq_true rfl) ?_
  refine pv_iload_n (M := mX11_deed) 1 dX11_deed_0 1 rfl rfl rfl ?_
  refine pv_if_lt (M := mX11_deed) (tgt := 32) dX11_deed_1 4 rfl (by decide) (fun c1 => ?_) (fun c1 => ?_)
  · have c1 := iv_lt (X := x0.toInt) (Y := 0) c1 rfl (by decide)
    refine pv_iconst (M := mX11_deed) (v := (-1)) dX11_deed_32 33 rfl (by decide) ?_
    have z2 : ((-1) : Int32).toInt = (-1) := by decide
    exact pv_iret (M := mX11_deed) dX11_deed_33 rfl rfl ⟨_, _, _, rfl, rfl, I, Kp, by decide, by decide, (by first | exact Or.inr ⟨by omega, (by first | omega | decide), (by first | omega | decide)⟩ | exact Or.inl ⟨by omega, by omega, by omega, by omega, by omega, (by first | omega | decide), (kf.elim (fun q => Or.inl ⟨q.2, (by first | omega | decide)⟩) (fun q => by exfalso; omega))⟩ | exact Or.inl ⟨by omega, by omega, by omega, by omega, by omega, (by first | omega | decide), (kf.elim (fun q => by exfalso; omega) (fun q => Or.inr ⟨q.2, (by first | omega | decide)⟩))⟩)⟩
  · have c1 := iv_nlt (X := x0.toInt) (Y := 0) c1 rfl (by decide)
    refine pv_iload_n (M := mX11_deed) 1 dX11_deed_4 5 rfl rfl rfl ?_
    refine pv_bipush (M := mX11_deed) (v := 8) dX11_deed_5 7 rfl (by decide) ?_
    refine pv_icmp_ge (M := mX11_deed) (tgt := 32) dX11_deed_7 10 rfl (by decide) (fun c3 => ?_) (fun c3 => ?_)
    · have c3 := iv_le (X := 8) (Y := x0.toInt) c3 (by decide) rfl
      refine pv_iconst (M := mX11_deed) (v := (-1)) dX11_deed_32 33 rfl (by decide) ?_
      have z4 : ((-1) : Int32).toInt = (-1) := by decide
      exact pv_iret (M := mX11_deed) dX11_deed_33 rfl rfl ⟨_, _, _, rfl, rfl, I, Kp, by decide, by decide, (by first | exact Or.inr ⟨by omega, (by first | omega | decide), (by first | omega | decide)⟩ | exact Or.inl ⟨by omega, by omega, by omega, by omega, by omega, (by first | omega | decide), (kf.elim (fun q => Or.inl ⟨q.2, (by first | omega | decide)⟩) (fun q => by exfalso; omega))⟩ | exact Or.inl ⟨by omega, by omega, by omega, by omega, by omega, (by first | omega | decide), (kf.elim (fun q => by exfalso; omega) (fun q => Or.inr ⟨q.2, (by first | omega | decide)⟩))⟩)⟩
    · have c3 := iv_nle (X := 8) (Y := x0.toInt) c3 (by decide) rfl
      refine pv_iload_n (M := mX11_deed) 2 dX11_deed_10 11 rfl rfl rfl ?_
      refine pv_iconst (M := mX11_deed) (v := 1) dX11_deed_11 12 rfl (by decide) ?_
      refine pv_icmp_lt (M := mX11_deed) (tgt := 32) dX11_deed_12 15 rfl (by decide) (fun c5 => ?_) (fun c5 => ?_)
      · have c5 := iv_lt (X := x1.toInt) (Y := 1) c5 rfl (by decide)
        refine pv_iconst (M := mX11_deed) (v := (-1)) dX11_deed_32 33 rfl (by decide) ?_
        have z6 : ((-1) : Int32).toInt = (-1) := by decide
        exact pv_iret (M := mX11_deed) dX11_deed_33 rfl rfl ⟨_, _, _, rfl, rfl, I, Kp, by decide, by decide, (by first | exact Or.inr ⟨by omega, (by first | omega | decide), (by first | omega | decide)⟩ | exact Or.inl ⟨by omega, by omega, by omega, by omega, by omega, (by first | omega | decide), (kf.elim (fun q => Or.inl ⟨q.2, (by first | omega | decide)⟩) (fun q => by exfalso; omega))⟩ | exact Or.inl ⟨by omega, by omega, by omega, by omega, by omega, (by first | omega | decide), (kf.elim (fun q => by exfalso; omega) (fun q => Or.inr ⟨q.2, (by first | omega | decide)⟩))⟩)⟩
      · have c5 := iv_nlt (X := x1.toInt) (Y := 1) c5 rfl (by decide)
        refine pv_iload_n (M := mX11_deed) 2 dX11_deed_15 16 rfl rfl rfl ?_
        refine pv_bipush (M := mX11_deed) (v := 16) dX11_deed_16 18 rfl (by decide) ?_
        refine pv_icmp_gt (M := mX11_deed) (tgt := 32) dX11_deed_18 21 rfl (by decide) (fun c7 => ?_) (fun c7 => ?_)
        · have c7 := iv_lt (X := 16) (Y := x1.toInt) c7 (by decide) rfl
          refine pv_iconst (M := mX11_deed) (v := (-1)) dX11_deed_32 33 rfl (by decide) ?_
          have z8 : ((-1) : Int32).toInt = (-1) := by decide
          exact pv_iret (M := mX11_deed) dX11_deed_33 rfl rfl ⟨_, _, _, rfl, rfl, I, Kp, by decide, by decide, (by first | exact Or.inr ⟨by omega, (by first | omega | decide), (by first | omega | decide)⟩ | exact Or.inl ⟨by omega, by omega, by omega, by omega, by omega, (by first | omega | decide), (kf.elim (fun q => Or.inl ⟨q.2, (by first | omega | decide)⟩) (fun q => by exfalso; omega))⟩ | exact Or.inl ⟨by omega, by omega, by omega, by omega, by omega, (by first | omega | decide), (kf.elim (fun q => by exfalso; omega) (fun q => Or.inr ⟨q.2, (by first | omega | decide)⟩))⟩)⟩
        · have c7 := iv_nlt (X := 16) (Y := x1.toInt) c7 (by decide) rfl
          refine pv_iload_n (M := mX11_deed) 2 dX11_deed_21 22 rfl rfl rfl ?_
          refine pv_aload_n (M := mX11_deed) 0 dX11_deed_22 23 rfl rfl rfl ?_
          refine mv_get (M := mX11_deed) (v := .ref 1) dX11_deed_23 FX11 0 wd407 (by decide) (tl0 hT) rfl rfl 26 rfl ?_
          refine iv_get (M := mX11_deed) (l1 := 0) (l2 := 200) dX11_deed_26 FX10 1 wd164 (by decide) (tl1 hT) rfl I rfl 29 rfl (fun v9 ev9 pv9 qv9 => ?_)
          have wv9 : v9.toInt = (m 1 1).toInt := congrArg Int32.toInt ev9
          refine pv_icmp_le (M := mX11_deed) (tgt := 34) dX11_deed_29 32 rfl (by decide) (fun c10 => ?_) (fun c10 => ?_)
          · have c10 := iv_le (X := x1.toInt) (Y := v9.toInt) c10 rfl rfl
            refine pv_aload_n (M := mX11_deed) 0 dX11_deed_34 35 rfl rfl rfl ?_
            refine mv_get (M := mX11_deed) (v := .ref 1) dX11_deed_35 FX11 0 wd407 (by decide) (tl0 hT) rfl rfl 38 rfl ?_
            refine pv_iload_n (M := mX11_deed) 2 dX11_deed_38 39 rfl rfl rfl ?_
            refine pv_callv (M := mX11_deed) (as := [.int x1]) (st := []) (kc2 := 0) (ks2 := 0) dX11_deed_39 wd479 YX10_holdsLetters ⟨wd480, wd481⟩ (mk_get (tl1 hT)) rfl rfl (s_X10_holdsLetters_vx g hT I x1 (by omega) (by omega)) rfl rfl (Nat.le_of_ble_eq_true rfl) (by decide) rfl rfl 42 rfl (fun rv h1 q11 => ?_)
            obtain ⟨v12, rfl, rfl, pv12, qv12, rv12⟩ := q11
            replace rv12 : (v12.toInt = 1 ∧ LET 2 m x1.toInt) ∨ (v12.toInt = 0 ∧ ¬ LET 2 m x1.toInt) := rv12
            show PV _ _ _ _ _ _ _ 42 [.ref 0, .int x0, .int x1, pv_U] [.int v12] _
            have kf := rv12
            refine pv_istore_n (M := mX11_deed) 3 (lo2 := [.ref 0, .int x0, .int x1, .int v12]) dX11_deed_42 43 rfl rfl (by decide) rfl rfl ?_
            refine pv_iload_n (M := mX11_deed) 3 dX11_deed_43 44 rfl rfl rfl ?_
            refine pv_if_eq (M := mX11_deed) (tgt := 65) dX11_deed_44 47 rfl (by decide) (fun c14 => ?_) (fun c14 => ?_)
            · have c14 := iv_eq (X := v12.toInt) (Y := 0) c14 rfl (by decide)
              refine pv_aload_n (M := mX11_deed) 0 dX11_deed_65 66 rfl rfl rfl ?_
              refine mv_get (M := mX11_deed) (v := .ref 1) dX11_deed_66 FX11 0 wd407 (by decide) (tl0 hT) rfl rfl 69 rfl ?_
              refine pv_iconst (M := mX11_deed) (v := 0) dX11_deed_69 70 rfl (by decide) ?_
              refine iv_put (M := mX11_deed) (l1 := 0) (l2 := 200) dX11_deed_70 FX10 1 wd164 (by decide) rfl (tl1 hT) rfl rfl rfl I rfl (by decide) (by decide) 73 rfl (fun m15 e18 I16 => ?_)
              have K17 := Kp.set e18 (by first | rfl | decide)
              have w19 : (m15 1 1).toInt = 0 := by rw [e18, up2_eq] <;> rfl
              refine pv_iload_n (M := mX11_deed) 3 dX11_deed_73 74 rfl rfl rfl ?_
              refine pv_if_eq (M := mX11_deed) (tgt := 81) dX11_deed_74 77 rfl (by decide) (fun c20 => ?_) (fun c20 => ?_)
              · have c20 := iv_eq (X := v12.toInt) (Y := 0) c20 rfl (by decide)
                refine pv_bipush (M := mX11_deed) (v := (-2)) dX11_deed_81 83 rfl (by decide) ?_
                have z21 : ((-2) : Int32).toInt = (-2) := by decide
                exact pv_iret (M := mX11_deed) dX11_deed_83 rfl rfl ⟨_, _, _, rfl, rfl, I16, K17, by decide, by decide, (by first | exact Or.inr ⟨by omega, (by first | omega | decide), (by first | omega | decide)⟩ | exact Or.inl ⟨by omega, by omega, by omega, by omega, by omega, (by first | omega | decide), (kf.elim (fun q => Or.inl ⟨q.2, (by first | omega | decide)⟩) (fun q => by exfalso; omega))⟩ | exact Or.inl ⟨by omega, by omega, by omega, by omega, by omega, (by first | omega | decide), (kf.elim (fun q => by exfalso; omega) (fun q => Or.inr ⟨q.2, (by first | omega | decide)⟩))⟩)⟩
              · have c20 := iv_ne (X := v12.toInt) (Y := 0) c20 rfl (by decide)
                omega
            · have c14 := iv_ne (X := v12.toInt) (Y := 0) c14 rfl (by decide)
              refine pv_aload_n (M := mX11_deed) 0 dX11_deed_47 48 rfl rfl rfl ?_
              refine mv_get (M := mX11_deed) (v := .ref 1) dX11_deed_48 FX11 0 wd407 (by decide) (tl0 hT) rfl rfl 51 rfl ?_
              refine pv_iload_n (M := mX11_deed) 2 dX11_deed_51 52 rfl rfl rfl ?_
              refine pv_aload_n (M := mX11_deed) 0 dX11_deed_52 53 rfl rfl rfl ?_
              refine mv_get (M := mX11_deed) (v := .ref 60) dX11_deed_53 FX11 3 wd410 (by decide) (tl0 hT) rfl rfl 56 rfl ?_
              refine pv_iload_n (M := mX11_deed) 1 dX11_deed_56 57 rfl rfl rfl ?_
              refine iv_qdeed (M := mX11_deed) (X := x0.toInt) dX11_deed_57 hT R rfl (by omega) (by omega) 58 rfl (fun b22 eb22 hb22 => ?_)
              have zb22 := hb22.2.2.2.2
              refine pv_callv (M := mX11_deed) (as := [.int x1, .ref b22]) (st := []) (kc2 := 0) (ks2 := 0) dX11_deed_58 wd483 YX10_copyLetters ⟨wd484, wd485⟩ (mk_get (tl1 hT)) rfl rfl (s_X10_copyLetters g hT I x1 b22 16 hb22) rfl rfl (Nat.le_of_ble_eq_true rfl) (by decide) rfl rfl 61 rfl (fun rv h1 q23 => ?_)
              obtain ⟨m24, n25, rfl, rfl, I26, K27, rm24⟩ := q23
              have K27c := K27
              have w28 : (m24 1 1).toInt = (m 1 1).toInt := congrArg Int32.toInt (K27 1 1 (wr_out (by omega)))
              have K27 := Kp.trans (K27.sub (by first | exact dd_wPd (by omega) (by omega) | first | exact wg_l (by decide) | exact wg_g (by decide) | exact WX_wg | exact la7_wg zR (by decide) | exact wsL_wg zR (by decide)))
              show PV _ _ _ _ _ _ _ 61 [.ref 0, .int x0, .int x1, .int v12] [] _
              refine pv_aload_n (M := mX11_deed) 0 dX11_deed_61 62 rfl rfl rfl ?_
              refine pv_callv (M := mX11_deed) (as := []) (st := []) (kc2 := 0) (ks2 := 0) dX11_deed_62 wd500 YX11_forgetSolved ⟨wd502, wd0⟩ (mk_get (tl0 hT)) rfl rfl (s_X11_forgetSolved_vc g hT I26 R hC hc2) rfl rfl (Nat.le_of_ble_eq_true rfl) (by decide) rfl rfl 65 rfl (fun rv h1 q29 => ?_)
              obtain ⟨m30, n31, rfl, rfl, I32, K33, rm30⟩ := q29
              have K33c := K33
              have K33 := K27.trans (K33.sub (by first | exact dd_wPd (by omega) (by omega) | first | exact wg_l (by decide) | exact wg_g (by decide) | exact WX_wg | exact la7_wg zR (by decide) | exact wsL_wg zR (by decide)))
              show PV _ _ _ _ _ _ _ 65 [.ref 0, .int x0, .int x1, .int v12] [] _
              refine pv_aload_n (M := mX11_deed) 0 dX11_deed_65 66 rfl rfl rfl ?_
              refine mv_get (M := mX11_deed) (v := .ref 1) dX11_deed_66 FX11 0 wd407 (by decide) (tl0 hT) rfl rfl 69 rfl ?_
              refine pv_iconst (M := mX11_deed) (v := 0) dX11_deed_69 70 rfl (by decide) ?_
              refine iv_put (M := mX11_deed) (l1 := 0) (l2 := 200) dX11_deed_70 FX10 1 wd164 (by decide) rfl (tl1 hT) rfl rfl rfl I32 rfl (by decide) (by decide) 73 rfl (fun m34 e37 I35 => ?_)
              have K36 := K33.set e37 (by first | rfl | decide)
              have w38 : (m34 1 1).toInt = 0 := by rw [e37, up2_eq] <;> rfl
              refine pv_iload_n (M := mX11_deed) 3 dX11_deed_73 74 rfl rfl rfl ?_
              refine pv_if_eq (M := mX11_deed) (tgt := 81) dX11_deed_74 77 rfl (by decide) (fun c39 => ?_) (fun c39 => ?_)
              · have c39 := iv_eq (X := v12.toInt) (Y := 0) c39 rfl (by decide)
                omega
              · have c39 := iv_ne (X := v12.toInt) (Y := 0) c39 rfl (by decide)
                refine pv_iload_n (M := mX11_deed) 2 dX11_deed_77 78 rfl rfl rfl ?_
                refine pv_goto (M := mX11_deed) (tgt := 83) dX11_deed_78 (by decide) ?_
                exact pv_iret (M := mX11_deed) dX11_deed_83 rfl rfl ⟨_, _, _, rfl, rfl, I35, K36, (iv_rng x1).1, (iv_rng x1).2, (by first | exact Or.inr ⟨by omega, (by first | omega | decide), (by first | omega | decide)⟩ | exact Or.inl ⟨by omega, by omega, by omega, by omega, by omega, (by first | omega | decide), (kf.elim (fun q => Or.inl ⟨q.2, (by first | omega | decide)⟩) (fun q => by exfalso; omega))⟩ | exact Or.inl ⟨by omega, by omega, by omega, by omega, by omega, (by first | omega | decide), (kf.elim (fun q => by exfalso; omega) (fun q => Or.inr ⟨q.2, (by first | omega | decide)⟩))⟩)⟩
          · have c10 := iv_nle (X := x1.toInt) (Y := v9.toInt) c10 rfl rfl
            refine pv_iconst (M := mX11_deed) (v := (-1)) dX11_deed_32 33 rfl (by decide) ?_
            have z40 : ((-1) : Int32).toInt = (-1) := by decide
            exact pv_iret (M := mX11_deed) dX11_deed_33 rfl rfl ⟨_, _, _, rfl, rfl, I, Kp, by decide, by decide, (by first | exact Or.inr ⟨by omega, (by first | omega | decide), (by first | omega | decide)⟩ | exact Or.inl ⟨by omega, by omega, by omega, by omega, by omega, (by first | omega | decide), (kf.elim (fun q => Or.inl ⟨q.2, (by first | omega | decide)⟩) (fun q => by exfalso; omega))⟩ | exact Or.inl ⟨by omega, by omega, by omega, by omega, by omega, (by first | omega | decide), (kf.elim (fun q => by exfalso; omega) (fun q => Or.inr ⟨q.2, (by first | omega | decide)⟩))⟩)⟩

set_option maxHeartbeats 2000000 in
set_option maxRecDepth 20000 in
theorem s_X12_deed_vx (g : pv_G) {T : List mv_T} {m : Nat → Nat → Int32} {n : Nat → Nat → Int64} {r : Nat → Value} (hT : TX T) (I : IV BB m) (x0 : Int32) (x1 : Int32) : PM g mX12_deed yX12_deed (sqI T BB (wl [(123, 123, some 4), (123, 123, some 11), (126, 126, none), (127, 127, none)]) r m (-2147483648) 2147483647 (fun m' v => DDK x0.toInt x1.toInt (m 123 11).toInt (LET 129 m x1.toInt) v.toInt (m' 123 11).toInt)) 3 0 0 [.ref 123, .int x0, .int x1] (mk T m n r) := by
  have Kp : fr (wl [(123, 123, some 4), (123, 123, some 11), (126, 126, none), (127, 127, none)]) m m := fr.rf
  have z73 : 0 ≤ (m 123 11).toInt ∧ (m 123 11).toInt ≤ 200 := I 123 11
  refine PM.of 1 (lo := [.ref 123, .int x0, .int x1, pv_U]) rfl (by decide) rfl rfl (Nat.le_of_ble_eq_true rfl) ?_
  refine pv_iload_n (M := mX12_deed) 1 dX12_deed_0 1 rfl rfl rfl ?_
  refine pv_iconst (M := mX12_deed) (v := 0) dX12_deed_1 2 rfl (by decide) ?_
  refine pv_bipush (M := mX12_deed) (v := 7) dX12_deed_2 4 rfl (by decide) ?_
  have z1 : (0 : Int32).toInt = 0 := by decide
  have z2 : (7 : Int32).toInt = 7 := by decide
  refine pv_calls (M := mX12_deed) (as := [.int x0, .int 0, .int 7]) (st := []) (kc2 := 0) (ks2 := 0) dX12_deed_4 wd1370 YX12_in wd1371 (s_X12_in_vx g hT I x0 0 7) rfl rfl (Nat.le_of_ble_eq_true rfl) (by decide) rfl rfl 7 rfl (fun rv h1 q3 => ?_)
  obtain ⟨v4, rfl, rfl, pv4, qv4, rv4⟩ := q3
  replace rv4 : (v4 = 0 ∨ ((0 : Int) ≤ x0.toInt ∧ x0.toInt ≤ (7 : Int))) ∧ ((v4.toInt = 1 ∧ (0 : Int) ≤ x0.toInt ∧ x0.toInt ≤ (7 : Int)) ∨ (v4.toInt = 0 ∧ (x0.toInt < (0 : Int) ∨ (7 : Int) < x0.toInt))) := by have q_ := rv4; (try rw [z1] at q_); (try rw [z2] at q_); exact q_
  show PV _ _ _ _ _ _ _ 7 [.ref 123, .int x0, .int x1, pv_U] [.int v4] _
  refine pv_if_eq (M := mX12_deed) (tgt := 28) dX12_deed_7 10 rfl (by decide) (fun c5 => ?_) (fun c5 => ?_)
  · have c5 := iv_eq (X := v4.toInt) (Y := 0) c5 rfl (by decide)
    refine pv_iconst (M := mX12_deed) (v := (-1)) dX12_deed_28 29 rfl (by decide) ?_
    have z6 : ((-1) : Int32).toInt = (-1) := by decide
    exact pv_iret (M := mX12_deed) dX12_deed_29 rfl rfl ⟨_, _, _, rfl, rfl, I, Kp, by decide, by decide, (by first | exact Or.inr ⟨by omega, (by first | omega | decide), (by first | omega | decide)⟩ | exact Or.inl ⟨by omega, by omega, by omega, by omega, by omega, (by first | omega | decide), (kf.elim (fun q => Or.inl ⟨q.2, (by first | omega | decide)⟩) (fun q => by exfalso; omega))⟩ | exact Or.inl ⟨by omega, by omega, by omega, by omega, by omega, (by first | omega | decide), (kf.elim (fun q => by exfalso; omega) (fun q => Or.inr ⟨q.2, (by first | omega | decide)⟩))⟩)⟩
  · have pc5 := rv4.1.resolve_left c5
    have c5 := iv_ne (X := v4.toInt) (Y := 0) c5 rfl (by decide)
    refine pv_iload_n (M := mX12_deed) 2 dX12_deed_10 11 rfl rfl rfl ?_
    refine pv_iconst (M := mX12_deed) (v := 1) dX12_deed_11 12 rfl (by decide) ?_
    refine pv_bipush (M := mX12_deed) (v := 16) dX12_deed_12 14 rfl (by decide) ?_
    have z7 : (1 : Int32).toInt = 1 := by decide
    have z8 : (16 : Int32).toInt = 16 := by decide
    refine pv_calls (M := mX12_deed) (as := [.int x1, .int 1, .int 16]) (st := []) (kc2 := 0) (ks2 := 0) dX12_deed_14 wd1370 YX12_in wd1371 (s_X12_in_vx g hT I x1 1 16) rfl rfl (Nat.le_of_ble_eq_true rfl) (by decide) rfl rfl 17 rfl (fun rv h1 q9 => ?_)
    obtain ⟨v10, rfl, rfl, pv10, qv10, rv10⟩ := q9
    replace rv10 : (v10 = 0 ∨ ((1 : Int) ≤ x1.toInt ∧ x1.toInt ≤ (16 : Int))) ∧ ((v10.toInt = 1 ∧ (1 : Int) ≤ x1.toInt ∧ x1.toInt ≤ (16 : Int)) ∨ (v10.toInt = 0 ∧ (x1.toInt < (1 : Int) ∨ (16 : Int) < x1.toInt))) := by have q_ := rv10; (try rw [z7] at q_); (try rw [z8] at q_); exact q_
    show PV _ _ _ _ _ _ _ 17 [.ref 123, .int x0, .int x1, pv_U] [.int v10] _
    refine pv_if_eq (M := mX12_deed) (tgt := 28) dX12_deed_17 20 rfl (by decide) (fun c11 => ?_) (fun c11 => ?_)
    · have c11 := iv_eq (X := v10.toInt) (Y := 0) c11 rfl (by decide)
      refine pv_iconst (M := mX12_deed) (v := (-1)) dX12_deed_28 29 rfl (by decide) ?_
      have z12 : ((-1) : Int32).toInt = (-1) := by decide
      exact pv_iret (M := mX12_deed) dX12_deed_29 rfl rfl ⟨_, _, _, rfl, rfl, I, Kp, by decide, by decide, (by first | exact Or.inr ⟨by omega, (by first | omega | decide), (by first | omega | decide)⟩ | exact Or.inl ⟨by omega, by omega, by omega, by omega, by omega, (by first | omega | decide), (kf.elim (fun q => Or.inl ⟨q.2, (by first | omega | decide)⟩) (fun q => by exfalso; omega))⟩ | exact Or.inl ⟨by omega, by omega, by omega, by omega, by omega, (by first | omega | decide), (kf.elim (fun q => by exfalso; omega) (fun q => Or.inr ⟨q.2, (by first | omega | decide)⟩))⟩)⟩
    · have pc11 := rv10.1.resolve_left c11
      have c11 := iv_ne (X := v10.toInt) (Y := 0) c11 rfl (by decide)
      refine pv_iload_n (M := mX12_deed) 2 dX12_deed_20 21 rfl rfl rfl ?_
      refine pv_aload_n (M := mX12_deed) 0 dX12_deed_21 22 rfl rfl rfl ?_
      refine iv_get (M := mX12_deed) (l1 := 0) (l2 := 200) dX12_deed_22 FX12 11 wd1184 (by decide) (tl123 hT) rfl I rfl 25 rfl (fun v13 ev13 pv13 qv13 => ?_)
      have wv13 : v13.toInt = (m 123 11).toInt := congrArg Int32.toInt ev13
      refine pv_icmp_le (M := mX12_deed) (tgt := 30) dX12_deed_25 28 rfl (by decide) (fun c14 => ?_) (fun c14 => ?_)
      · have c14 := iv_le (X := x1.toInt) (Y := v13.toInt) c14 rfl rfl
        refine pv_aload_n (M := mX12_deed) 0 dX12_deed_30 31 rfl rfl rfl ?_
        refine pv_iconst (M := mX12_deed) (v := 0) dX12_deed_31 32 rfl (by decide) ?_
        refine iv_put (M := mX12_deed) (l1 := 0) (l2 := 200) dX12_deed_32 FX12 11 wd1184 (by decide) rfl (tl123 hT) rfl rfl rfl I rfl (by decide) (by decide) 35 rfl (fun m15 e18 I16 => ?_)
        have K17 := Kp.set e18 rfl
        have w19 : (m15 123 11).toInt = 0 := by rw [e18, up2_eq] <;> rfl
        refine pv_aload_n (M := mX12_deed) 0 dX12_deed_35 36 rfl rfl rfl ?_
        refine pv_iload_n (M := mX12_deed) 2 dX12_deed_36 37 rfl rfl rfl ?_
        refine pv_callv (M := mX12_deed) (as := [.int x1]) (st := []) (kc2 := 0) (ks2 := 0) dX12_deed_37 wd1377 YX12_areLetters ⟨wd1379, wd54⟩ (mk_get (tl123 hT)) rfl rfl (s_X12_areLetters_vx g hT I16 x1 (by omega) (by omega)) rfl rfl (Nat.le_of_ble_eq_true rfl) (by decide) rfl rfl 40 rfl (fun rv h1 q20 => ?_)
        obtain ⟨v21, rfl, rfl, pv21, qv21, rv21⟩ := q20
        replace rv21 : (v21.toInt = 0 ∧ ¬ LET 129 m15 x1.toInt) ∨ (v21.toInt = 1 ∧ LET 129 m15 x1.toInt) := rv21
        show PV _ _ _ _ _ _ _ 40 [.ref 123, .int x0, .int x1, pv_U] [.int v21] _
        have kRx := rv21
        have kle := LET_eq (c := 129) (m := m) (m2 := m15) (fun j => K17 129 j rfl) x1.toInt
        have kf : (v21.toInt = 1 ∧ LET 129 m x1.toInt) ∨ (v21.toInt = 0 ∧ ¬ LET 129 m x1.toInt) := kRx.elim (fun q => Or.inr ⟨q.1, fun z => q.2 (kle.mpr z)⟩) (fun q => Or.inl ⟨q.1, kle.mp q.2⟩)
        have kR : v21.toInt = 0 ∨ (∀ j : Nat, (j : Int) < x1.toInt → 97 ≤ (m15 129 j).toInt ∧ (m15 129 j).toInt ≤ 122) := kRx.elim (fun q => Or.inl q.1) (fun q => Or.inr q.2)
        refine pv_if_ne (M := mX12_deed) (tgt := 46) dX12_deed_40 43 rfl (by decide) (fun c26 => ?_) (fun c26 => ?_)
        · have c26 := iv_ne (X := v21.toInt) (Y := 0) c26 rfl (by decide)
          refine pv_iconst (M := mX12_deed) (v := 0) dX12_deed_46 47 rfl (by decide) ?_
          refine pv_istore_n (M := mX12_deed) 3 (lo2 := [.ref 123, .int x0, .int x1, .int 0]) dX12_deed_47 48 rfl rfl (by decide) rfl rfl ?_
          have lp33 : ∀ (fuel32 : Nat) (y27 : Int32) (m28 : Nat → Nat → Int32) (n29 : Nat → Nat → Int64), (0 ≤ y27.toInt) → (y27.toInt ≤ 16) → (∀ j : Nat, (j : Int) < x1.toInt → 97 ≤ (m28 129 j).toInt ∧ (m28 129 j).toInt ≤ 122) → ((m28 123 11).toInt = 0) → IV BB m28 → fr (wl [(123, 123, some 4), (123, 123, some 11), (126, 126, none), (127, 127, none)]) m m28 → ((16 - y27.toInt) : Int).toNat < fuel32 → PV none g mX12_deed (sqI T BB (wl [(123, 123, some 4), (123, 123, some 11), (126, 126, none), (127, 127, none)]) r m (-2147483648) 2147483647 (fun m' v => DDK x0.toInt x1.toInt (m 123 11).toInt (LET 129 m x1.toInt) v.toInt (m' 123 11).toInt)) 3 0 0 48 [.ref 123, .int x0, .int x1, .int y27] [] (mk T m28 n29 r) := by
            intro fuel32
            induction fuel32 with
            | zero => intro y27 m28 n29 b35 b36 b37 b38 I30 K31 z39; omega
            | succ fuel32 ih34 =>
              intro y27 m28 n29 b35 b36 b37 b38 I30 K31 z39
              have z40 : 0 ≤ (m28 123 11).toInt ∧ (m28 123 11).toInt ≤ 200 := I30 123 11
              have kA := (show ∀ j : Nat, (j : Int) < x1.toInt → 97 ≤ (m28 129 j).toInt ∧ (m28 129 j).toInt ≤ 122 by assumption)
              refine pv_iload_n (M := mX12_deed) 3 dX12_deed_48 49 rfl rfl rfl ?_
              refine pv_iload_n (M := mX12_deed) 2 dX12_deed_49 50 rfl rfl rfl ?_
              refine pv_icmp_ge (M := mX12_deed) (tgt := 79) dX12_deed_50 53 rfl (by decide) (fun c42 => ?_) (fun c42 => ?_)
              · have c42 := iv_le (X := x1.toInt) (Y := y27.toInt) c42 rfl rfl
                refine pv_aload_n (M := mX12_deed) 0 dX12_deed_79 80 rfl rfl rfl ?_
                refine mv_get (M := mX12_deed) (v := .ref 126) dX12_deed_80 FX12 7 wd1180 (by decide) (tl123 hT) rfl rfl 83 rfl ?_
                refine pv_iload_n (M := mX12_deed) 1 dX12_deed_83 84 rfl rfl rfl ?_
                refine pv_iload_n (M := mX12_deed) 2 dX12_deed_84 85 rfl rfl rfl ?_
                refine iv_iast (M := mX12_deed) (X := x0.toInt) (l1 := 0) (l2 := 16) dX12_deed_85 (tl126 hT) rfl (by omega) (by omega) I30 (fun _ => rfl) (by omega) (by omega) 86 rfl (fun m43 e46 I44 => ?_)
                have K45 := K31.set e46 rfl
                have w47 : (m43 123 11).toInt = (m28 123 11).toInt := by rw [e46, up2_ne (by omega)]
                refine pv_aload_n (M := mX12_deed) 0 dX12_deed_86 87 rfl rfl rfl ?_
                refine pv_aload_n (M := mX12_deed) 0 dX12_deed_87 88 rfl rfl rfl ?_
                refine iv_get (M := mX12_deed) (l1 := 0) (l2 := 255) dX12_deed_88 FX12 4 wd1177 (by decide) (tl123 hT) rfl I44 rfl 91 rfl (fun v48 ev48 pv48 qv48 => ?_)
                refine pv_iconst (M := mX12_deed) (v := 1) dX12_deed_91 92 rfl (by decide) ?_
                refine pv_iload_n (M := mX12_deed) 1 dX12_deed_92 93 rfl rfl rfl ?_
                refine iv_shlU (M := mX12_deed) dX12_deed_93 94 rfl (fun v49 ev49 => ?_)
                have pv49 : 1 ≤ v49.toInt ∧ v49.toInt ≤ 128 := by rw [ev49]; exact iv_sh17 (by omega) (by omega)
                refine iv_orU (M := mX12_deed) dX12_deed_94 95 rfl (fun v50 ev50 => ?_)
                have pv50 : 0 ≤ v50.toInt ∧ v50.toInt ≤ 255 := by rw [ev50]; exact iv_or8 (by omega) (by omega) (by omega) (by omega)
                refine iv_put (M := mX12_deed) (l1 := 0) (l2 := 255) dX12_deed_95 FX12 4 wd1177 (by decide) rfl (tl123 hT) rfl rfl rfl I44 rfl (by omega) (by omega) 98 rfl (fun m51 e54 I52 => ?_)
                have K53 := K45.set e54 rfl
                have w55 : (m51 123 11).toInt = (m43 123 11).toInt := by rw [e54, up2_ne (by omega)]
                refine pv_iload_n (M := mX12_deed) 2 dX12_deed_98 99 rfl rfl rfl ?_
                exact pv_iret (M := mX12_deed) dX12_deed_99 rfl rfl ⟨_, _, _, rfl, rfl, I52, K53, (iv_rng x1).1, (iv_rng x1).2, (by first | exact Or.inr ⟨by omega, (by first | omega | decide), (by first | omega | decide)⟩ | exact Or.inl ⟨by omega, by omega, by omega, by omega, by omega, (by first | omega | decide), (kf.elim (fun q => Or.inl ⟨q.2, (by first | omega | decide)⟩) (fun q => by exfalso; omega))⟩ | exact Or.inl ⟨by omega, by omega, by omega, by omega, by omega, (by first | omega | decide), (kf.elim (fun q => by exfalso; omega) (fun q => Or.inr ⟨q.2, (by first | omega | decide)⟩))⟩)⟩
              · have c42 := iv_nle (X := x1.toInt) (Y := y27.toInt) c42 rfl rfl
                refine pv_aload_n (M := mX12_deed) 0 dX12_deed_53 54 rfl rfl rfl ?_
                refine mv_get (M := mX12_deed) (v := .ref 127) dX12_deed_54 FX12 8 wd1181 (by decide) (tl123 hT) rfl rfl 57 rfl ?_
                refine pv_bipush (M := mX12_deed) (v := 16) dX12_deed_57 59 rfl (by decide) ?_
                refine pv_iload_n (M := mX12_deed) 1 dX12_deed_59 60 rfl rfl rfl ?_
                refine iv_imul (M := mX12_deed) (X := 16) (Y := x0.toInt) dX12_deed_60 61 rfl (by decide) rfl (by omega) (by omega) (fun v56 ev56 => ?_)
                refine pv_iload_n (M := mX12_deed) 3 dX12_deed_61 62 rfl rfl rfl ?_
                refine iv_iadd (M := mX12_deed) (X := v56.toInt) (Y := y27.toInt) dX12_deed_62 63 rfl rfl rfl (by omega) (by omega) (fun v57 ev57 => ?_)
                refine pv_aload_n (M := mX12_deed) 0 dX12_deed_63 64 rfl rfl rfl ?_
                refine mv_get (M := mX12_deed) (v := .ref 129) dX12_deed_64 FX12 10 wd1183 (by decide) (tl123 hT) rfl rfl 67 rfl ?_
                refine pv_iload_n (M := mX12_deed) 3 dX12_deed_67 68 rfl rfl rfl ?_
                refine iv_bald (M := mX12_deed) (X := y27.toInt) (l1 := (-128)) (l2 := 127) dX12_deed_68 (tl129 hT) rfl (by omega) (by omega) I30 (fun _ => rfl) 69 rfl (fun v58 ev58 pv58 qv58 => ?_)
                have kL := ev58
                refine pv_bipush (M := mX12_deed) (v := 97) dX12_deed_69 71 rfl (by decide) ?_
                have kv : 97 ≤ v58.toInt ∧ v58.toInt ≤ 122 := by rw [kL]; exact kA _ (by omega)
                refine iv_isub (M := mX12_deed) (X := v58.toInt) (Y := 97) dX12_deed_71 72 rfl rfl (by decide) (by omega) (by omega) (fun v61 ev61 => ?_)
                refine iv_iast (M := mX12_deed) (X := v57.toInt) (l1 := 0) (l2 := 25) dX12_deed_72 (tl127 hT) rfl (by omega) (by omega) I30 (fun _ => rfl) (by omega) (by omega) 73 rfl (fun m62 e65 I63 => ?_)
                have K64 := K31.set e65 rfl
                have w66 : (m62 123 11).toInt = (m28 123 11).toInt := by rw [e65, up2_ne (by omega)]
                refine iv_inc (M := mX12_deed) (C := 1) dX12_deed_73 76 rfl rfl (by decide) rfl rfl (by decide) (by omega) (by omega) (fun v67 ev67 => ?_)
                show PV _ _ _ _ _ _ _ 76 [.ref 123, .int x0, .int x1, .int v67] [] _
                refine pv_goto (M := mX12_deed) (tgt := 48) dX12_deed_76 (by decide) ?_
                have kAb : ∀ j : Nat, (j : Int) < x1.toInt → 97 ≤ (m62 129 j).toInt ∧ (m62 129 j).toInt ≤ 122 := fun j hj => by rw [st_off e65 (by decide)]; exact kA j hj
                exact ih34 v67 m62 n29 (by first | omega | assumption | exact (iv_rng _).2 | exact (iv_rng _).1 | decide) (by first | omega | assumption | exact (iv_rng _).2 | exact (iv_rng _).1 | decide) kAb (by first | omega | assumption | (show (m62 123 11).toInt = 0; omega) | decide) I63 K64 (by omega)
          have z69 : (0 : Int32).toInt = 0 := by decide
          have kA0 := kR.resolve_left (by omega)
          exact lp33 (((16 - 0) : Int).toNat + 1) 0 m15 n (by first | omega | assumption | exact (iv_rng _).2 | exact (iv_rng _).1 | decide) (by first | omega | assumption | exact (iv_rng _).2 | exact (iv_rng _).1 | decide) kA0 (by first | omega | assumption | (show (m15 123 11).toInt = 0; omega) | decide) I16 K17 (by omega)
        · have c26 := iv_eq (X := v21.toInt) (Y := 0) c26 rfl (by decide)
          refine pv_bipush (M := mX12_deed) (v := (-2)) dX12_deed_43 45 rfl (by decide) ?_
          have z71 : ((-2) : Int32).toInt = (-2) := by decide
          exact pv_iret (M := mX12_deed) dX12_deed_45 rfl rfl ⟨_, _, _, rfl, rfl, I16, K17, by decide, by decide, (by first | exact Or.inr ⟨by omega, (by first | omega | decide), (by first | omega | decide)⟩ | exact Or.inl ⟨by omega, by omega, by omega, by omega, by omega, (by first | omega | decide), (kf.elim (fun q => Or.inl ⟨q.2, (by first | omega | decide)⟩) (fun q => by exfalso; omega))⟩ | exact Or.inl ⟨by omega, by omega, by omega, by omega, by omega, (by first | omega | decide), (kf.elim (fun q => by exfalso; omega) (fun q => Or.inr ⟨q.2, (by first | omega | decide)⟩))⟩)⟩
      · have c14 := iv_nle (X := x1.toInt) (Y := v13.toInt) c14 rfl rfl
        refine pv_iconst (M := mX12_deed) (v := (-1)) dX12_deed_28 29 rfl (by decide) ?_
        have z72 : ((-1) : Int32).toInt = (-1) := by decide
        exact pv_iret (M := mX12_deed) dX12_deed_29 rfl rfl ⟨_, _, _, rfl, rfl, I, Kp, by decide, by decide, (by first | exact Or.inr ⟨by omega, (by first | omega | decide), (by first | omega | decide)⟩ | exact Or.inl ⟨by omega, by omega, by omega, by omega, by omega, (by first | omega | decide), (kf.elim (fun q => Or.inl ⟨q.2, (by first | omega | decide)⟩) (fun q => by exfalso; omega))⟩ | exact Or.inl ⟨by omega, by omega, by omega, by omega, by omega, (by first | omega | decide), (kf.elim (fun q => by exfalso; omega) (fun q => Or.inr ⟨q.2, (by first | omega | decide)⟩))⟩)⟩

set_option maxHeartbeats 2000000 in
set_option maxRecDepth 20000 in
theorem s_X11_law_vx (g : pv_G) {T : List mv_T} {m : Nat → Nat → Int32} {n : Nat → Nat → Int64} {r : Nat → Value} {la lb : Nat} (hT : TX T) (I : IV BB m) (R : RX T r la lb) (hK : TK T) (x0 : Int32) : PM g mX11_law yX11_law (sqIr T BB wV rl r m (-2147483648) 2147483647 (fun m' r' v => RXE T r' ∧ LWK x0.toInt (m 1 1).toInt (m' 1 1).toInt)) 28 0 0 [.ref 0, .int x0] (mk T m n r) := by
  have Kp : fr wV m m := fr.rf
  have R0 := R
  have zR := R.2.2.2.2.1.1
  have zR2 := R.2.2.2.2.2.1
  have z30 : 0 ≤ (m 1 1).toInt ∧ (m 1 1).toInt ≤ 200 := I 1 1
  refine PM.of 1 (lo := [.ref 0, .int x0, pv_U]) rfl (by decide) rfl rfl (Nat.le_of_ble_eq_true rfl) ?_
  refine pv_iload_n (M := mX11_law) 1 dX11_law_0 1 rfl rfl rfl ?_
  refine pv_iconst (M := mX11_law) (v := 1) dX11_law_1 2 rfl (by decide) ?_
  refine pv_icmp_lt (M := mX11_law) (tgt := 23) dX11_law_2 5 rfl (by decide) (fun c1 => ?_) (fun c1 => ?_)
  · have c1 := iv_lt (X := x0.toInt) (Y := 1) c1 rfl (by decide)
    refine pv_iconst (M := mX11_law) (v := (-1)) dX11_law_23 24 rfl (by decide) ?_
    have z2 : ((-1) : Int32).toInt = (-1) := by decide
    exact pv_iret (M := mX11_law) dX11_law_24 rfl rfl ⟨_, _, _, _, rfl, rfl, I, Kp, rl.rf, by decide, by decide, ⟨by first | exact ⟨_, _, R⟩ | exact RX_swap R kx er, (by first | exact Or.inr ⟨by omega, by omega⟩ | exact Or.inl ⟨by omega, by omega, by omega, by first | omega | decide⟩)⟩⟩
  · have c1 := iv_nlt (X := x0.toInt) (Y := 1) c1 rfl (by decide)
    refine pv_iload_n (M := mX11_law) 1 dX11_law_5 6 rfl rfl rfl ?_
    refine pv_sipush (M := mX11_law) (v := 160) dX11_law_6 9 rfl (by decide) ?_
    refine pv_icmp_gt (M := mX11_law) (tgt := 23) dX11_law_9 12 rfl (by decide) (fun c3 => ?_) (fun c3 => ?_)
    · have c3 := iv_lt (X := 160) (Y := x0.toInt) c3 (by decide) rfl
      refine pv_iconst (M := mX11_law) (v := (-1)) dX11_law_23 24 rfl (by decide) ?_
      have z4 : ((-1) : Int32).toInt = (-1) := by decide
      exact pv_iret (M := mX11_law) dX11_law_24 rfl rfl ⟨_, _, _, _, rfl, rfl, I, Kp, rl.rf, by decide, by decide, ⟨by first | exact ⟨_, _, R⟩ | exact RX_swap R kx er, (by first | exact Or.inr ⟨by omega, by omega⟩ | exact Or.inl ⟨by omega, by omega, by omega, by first | omega | decide⟩)⟩⟩
    · have c3 := iv_nlt (X := 160) (Y := x0.toInt) c3 (by decide) rfl
      refine pv_iload_n (M := mX11_law) 1 dX11_law_12 13 rfl rfl rfl ?_
      refine pv_aload_n (M := mX11_law) 0 dX11_law_13 14 rfl rfl rfl ?_
      refine mv_get (M := mX11_law) (v := .ref 1) dX11_law_14 FX11 0 wd407 (by decide) (tl0 hT) rfl rfl 17 rfl ?_
      refine iv_get (M := mX11_law) (l1 := 0) (l2 := 200) dX11_law_17 FX10 1 wd164 (by decide) (tl1 hT) rfl I rfl 20 rfl (fun v5 ev5 pv5 qv5 => ?_)
      have wv5 : v5.toInt = (m 1 1).toInt := congrArg Int32.toInt ev5
      refine pv_icmp_le (M := mX11_law) (tgt := 25) dX11_law_20 23 rfl (by decide) (fun c6 => ?_) (fun c6 => ?_)
      · have c6 := iv_le (X := x0.toInt) (Y := v5.toInt) c6 rfl rfl
        refine pv_aload_n (M := mX11_law) 0 dX11_law_25 26 rfl rfl rfl ?_
        refine mv_get (M := mX11_law) (v := .ref 86) dX11_law_26 FX11 5 wd412 (by decide) (tl0 hT) rfl rfl 29 rfl ?_
        refine pv_aload_n (M := mX11_law) 0 dX11_law_29 30 rfl rfl rfl ?_
        refine mv_get (M := mX11_law) (v := .ref 1) dX11_law_30 FX11 0 wd407 (by decide) (tl0 hT) rfl rfl 33 rfl ?_
        refine mv_get (M := mX11_law) (v := .ref 2) dX11_law_33 FX10 0 wd162 (by decide) (tl1 hT) rfl rfl 36 rfl ?_
        refine pv_iload_n (M := mX11_law) 1 dX11_law_36 37 rfl rfl rfl ?_
        refine pv_callv (M := mX11_law) (as := [.ref 2, .int x0]) (st := []) (kc2 := 0) (ks2 := 0) dX11_law_37 wd508 YX7_read ⟨wd509, wd510⟩ (mk_get (tl86 hT)) rfl rfl (s_X7_read g hT I R x0 (by omega) (by omega)) rfl rfl (Nat.le_of_ble_eq_true rfl) (by decide) rfl rfl 40 rfl (fun rv h1 q7 => ?_)
        obtain ⟨m8, n9, v12, rfl, rfl, I10, K11, pv12, qv12, rv12⟩ := q7
        have K11c := K11
        have w13 : (m8 1 1).toInt = (m 1 1).toInt := congrArg Int32.toInt (K11 1 1 (wr_out (by decide)))
        have K11 := Kp.trans (K11.sub (wr_wV (by omega) (by omega)))
        show PV _ _ _ _ _ _ _ 40 [.ref 0, .int x0, pv_U] [.int v12] _
        refine pv_istore_n (M := mX11_law) 2 (lo2 := [.ref 0, .int x0, .int v12]) dX11_law_40 41 rfl rfl (by decide) rfl rfl ?_
        refine pv_aload_n (M := mX11_law) 0 dX11_law_41 42 rfl rfl rfl ?_
        refine mv_get (M := mX11_law) (v := .ref 1) dX11_law_42 FX11 0 wd407 (by decide) (tl0 hT) rfl rfl 45 rfl ?_
        refine pv_iconst (M := mX11_law) (v := 0) dX11_law_45 46 rfl (by decide) ?_
        refine iv_put (M := mX11_law) (l1 := 0) (l2 := 200) dX11_law_46 FX10 1 wd164 (by decide) rfl (tl1 hT) rfl rfl rfl I10 rfl (by decide) (by decide) 49 rfl (fun m14 e17 I15 => ?_)
        have K16 := K11.set e17 rfl
        have w18 : (m14 1 1).toInt = 0 := by rw [e17, up2_eq] <;> rfl
        refine pv_iload_n (M := mX11_law) 2 dX11_law_49 50 rfl rfl rfl ?_
        refine pv_if_lt (M := mX11_law) (tgt := 68) dX11_law_50 53 rfl (by decide) (fun c19 => ?_) (fun c19 => ?_)
        · have c19 := iv_lt (X := v12.toInt) (Y := 0) c19 rfl (by decide)
          refine pv_iload_n (M := mX11_law) 2 dX11_law_68 69 rfl rfl rfl ?_
          exact pv_iret (M := mX11_law) dX11_law_69 rfl rfl ⟨_, _, _, _, rfl, rfl, I15, K16, rl.rf, (iv_rng v12).1, (iv_rng v12).2, ⟨by first | exact ⟨_, _, R⟩ | exact RX_swap R kx er, (by first | exact Or.inr ⟨by omega, by omega⟩ | exact Or.inl ⟨by omega, by omega, by omega, by first | omega | decide⟩)⟩⟩
        · have c19 := iv_nlt (X := v12.toInt) (Y := 0) c19 rfl (by decide)
          refine pv_aload_n (M := mX11_law) 0 dX11_law_53 54 rfl rfl rfl ?_
          refine pv_aload_n (M := mX11_law) 0 dX11_law_54 55 rfl rfl rfl ?_
          refine mv_get (M := mX11_law) (v := .ref 86) dX11_law_55 FX11 5 wd412 (by decide) (tl0 hT) rfl rfl 58 rfl ?_
          refine pv_aload_n (M := mX11_law) 0 dX11_law_58 59 rfl rfl rfl ?_
          refine mv_get (M := mX11_law) (v := .ref la) dX11_law_59 FX11 4 wd411 (by decide) (tl0 hT) rfl R.2.2.1 62 rfl ?_
          refine pv_callv (M := mX11_law) (as := [.ref la]) (st := [.ref 0]) (kc2 := 0) (ks2 := 0) dX11_law_62 wd687 YX7_exchange ⟨wd688, wd689⟩ (mk_get (tl86 hT)) rfl rfl (s_X7_exchange g hT I15 R hK la R.2.2.2.2.1) rfl rfl (Nat.le_of_ble_eq_true rfl) (by decide) rfl rfl 65 rfl (fun rv h1 q20 => ?_)
          obtain ⟨m21, n22, r25, rfl, rfl, I23, K24, qr25, rm21⟩ := q20
          replace rm21 : r25 = up1 r 3 (.ref la) := rm21
          have or25 := rl.trans rl.rf qr25
          have K24c := K24
          have w26 : (m21 1 1).toInt = (m14 1 1).toInt := congrArg Int32.toInt (K24 1 1 rfl)
          have K24 := K16.trans (K24.sub (wl_wV (by decide)))
          show PV _ _ _ _ _ _ _ 65 [.ref 0, .int x0, .int v12] [.ref lb, .ref 0] _
          have kx := rm21
          refine mv_putr (M := mX11_law) (j := 1) (v := .ref lb) dX11_law_65 FX11 4 wd411 (by decide) rfl (tl0 hT) rfl (hu_of (by decide)) (NM1k hK) (fun _ => rfl) (fun _ => rfl) 68 rfl (fun r28 er28 => ?_)
          have or28 := rl.set or25 er28 (by decide)
          refine pv_iload_n (M := mX11_law) 2 dX11_law_68 69 rfl rfl rfl ?_
          exact pv_iret (M := mX11_law) dX11_law_69 rfl rfl ⟨_, _, _, _, rfl, rfl, I23, K24, or28, (iv_rng v12).1, (iv_rng v12).2, ⟨by first | exact ⟨_, _, R⟩ | exact RX_swap R kx er28, (by first | exact Or.inr ⟨by omega, by omega⟩ | exact Or.inl ⟨by omega, by omega, by omega, by first | omega | decide⟩)⟩⟩
      · have c6 := iv_nle (X := x0.toInt) (Y := v5.toInt) c6 rfl rfl
        refine pv_iconst (M := mX11_law) (v := (-1)) dX11_law_23 24 rfl (by decide) ?_
        have z29 : ((-1) : Int32).toInt = (-1) := by decide
        exact pv_iret (M := mX11_law) dX11_law_24 rfl rfl ⟨_, _, _, _, rfl, rfl, I, Kp, rl.rf, by decide, by decide, ⟨by first | exact ⟨_, _, R⟩ | exact RX_swap R kx er, (by first | exact Or.inr ⟨by omega, by omega⟩ | exact Or.inl ⟨by omega, by omega, by omega, by first | omega | decide⟩)⟩⟩

set_option maxHeartbeats 2000000 in
set_option maxRecDepth 20000 in
theorem s_X12_law_vx (g : pv_G) {T : List mv_T} {m : Nat → Nat → Int32} {n : Nat → Nat → Int64} {r : Nat → Value} (hT : TX T) (I : IV BB m) (x0 : Int32) (hp0 : LX m) : PM g mX12_law yX12_law (sqI T BB (wl [(123, 123, some 11), (123, 123, some 12), (123, 123, some 13), (123, 123, some 14), (123, 123, some 15), (123, 123, some 16), (123, 123, some 17), (123, 123, some 18), (123, 123, some 19), (123, 123, some 20), (130, 130, none), (131, 131, none), (132, 132, none), (133, 133, none), (134, 134, none), (135, 135, none), (136, 136, none), (137, 137, none), (138, 138, none), (139, 139, none), (140, 140, none)]) r m (-2147483648) 2147483647 (fun m' v => LX m' ∧ LWK x0.toInt (m 123 11).toInt (m' 123 11).toInt)) 9 0 0 [.ref 123, .int x0] (mk T m n r) := by
  have Kp : fr (wl [(123, 123, some 11), (123, 123, some 12), (123, 123, some 13), (123, 123, some 14), (123, 123, some 15), (123, 123, some 16), (123, 123, some 17), (123, 123, some 18), (123, 123, some 19), (123, 123, some 20), (130, 130, none), (131, 131, none), (132, 132, none), (133, 133, none), (134, 134, none), (135, 135, none), (136, 136, none), (137, 137, none), (138, 138, none), (139, 139, none), (140, 140, none)]) m m := fr.rf
  have z315 : 0 ≤ (m 123 12).toInt ∧ (m 123 12).toInt ≤ 160 := I 123 12
  have z316 : 0 ≤ (m 123 13).toInt ∧ (m 123 13).toInt ≤ 160 := I 123 13
  have z317 : 0 ≤ (m 123 16).toInt ∧ (m 123 16).toInt ≤ 180 := I 123 16
  have z318 : 0 ≤ (m 123 17).toInt ∧ (m 123 17).toInt ≤ 180 := I 123 17
  have z319 : 0 ≤ (m 123 18).toInt ∧ (m 123 18).toInt ≤ 12 := I 123 18
  have z320 : 0 ≤ (m 123 20).toInt ∧ (m 123 20).toInt ≤ 12 := I 123 20
  have z321 : 0 ≤ (m 123 11).toInt ∧ (m 123 11).toInt ≤ 200 := I 123 11
  refine PM.of 2 (lo := [.ref 123, .int x0, pv_U, pv_U]) rfl (by decide) rfl rfl (Nat.le_of_ble_eq_true rfl) ?_
  refine pv_iload_n (M := mX12_law) 1 dX12_law_0 1 rfl rfl rfl ?_
  refine pv_iconst (M := mX12_law) (v := 1) dX12_law_1 2 rfl (by decide) ?_
  refine pv_sipush (M := mX12_law) (v := 160) dX12_law_2 5 rfl (by decide) ?_
  have z1 : (1 : Int32).toInt = 1 := by decide
  have z2 : (160 : Int32).toInt = 160 := by decide
  refine pv_calls (M := mX12_law) (as := [.int x0, .int 1, .int 160]) (st := []) (kc2 := 0) (ks2 := 0) dX12_law_5 wd1370 YX12_in wd1371 (s_X12_in_vx g hT I x0 1 160) rfl rfl (Nat.le_of_ble_eq_true rfl) (by decide) rfl rfl 8 rfl (fun rv h1 q3 => ?_)
  obtain ⟨v4, rfl, rfl, pv4, qv4, rv4⟩ := q3
  replace rv4 : (v4 = 0 ∨ ((1 : Int) ≤ x0.toInt ∧ x0.toInt ≤ (160 : Int))) ∧ ((v4.toInt = 1 ∧ (1 : Int) ≤ x0.toInt ∧ x0.toInt ≤ (160 : Int)) ∨ (v4.toInt = 0 ∧ (x0.toInt < (1 : Int) ∨ (160 : Int) < x0.toInt))) := by have q_ := rv4; (try rw [z1] at q_); (try rw [z2] at q_); exact q_
  show PV _ _ _ _ _ _ _ 8 [.ref 123, .int x0, pv_U, pv_U] [.int v4] _
  refine pv_if_eq (M := mX12_law) (tgt := 19) dX12_law_8 11 rfl (by decide) (fun c5 => ?_) (fun c5 => ?_)
  · have c5 := iv_eq (X := v4.toInt) (Y := 0) c5 rfl (by decide)
    refine pv_iconst (M := mX12_law) (v := (-1)) dX12_law_19 20 rfl (by decide) ?_
    have z6 : ((-1) : Int32).toInt = (-1) := by decide
    exact pv_iret (M := mX12_law) dX12_law_20 rfl rfl ⟨_, _, _, rfl, rfl, I, Kp, by decide, by decide, ⟨hp0, (by first | exact Or.inr ⟨by omega, by omega⟩ | exact Or.inl ⟨by omega, by omega, by omega, by first | omega | decide⟩)⟩⟩
  · have pc5 := rv4.1.resolve_left c5
    have c5 := iv_ne (X := v4.toInt) (Y := 0) c5 rfl (by decide)
    refine pv_iload_n (M := mX12_law) 1 dX12_law_11 12 rfl rfl rfl ?_
    refine pv_aload_n (M := mX12_law) 0 dX12_law_12 13 rfl rfl rfl ?_
    refine iv_get (M := mX12_law) (l1 := 0) (l2 := 200) dX12_law_13 FX12 11 wd1184 (by decide) (tl123 hT) rfl I rfl 16 rfl (fun v7 ev7 pv7 qv7 => ?_)
    have wv7 : v7.toInt = (m 123 11).toInt := congrArg Int32.toInt ev7
    refine pv_icmp_le (M := mX12_law) (tgt := 21) dX12_law_16 19 rfl (by decide) (fun c8 => ?_) (fun c8 => ?_)
    · have c8 := iv_le (X := x0.toInt) (Y := v7.toInt) c8 rfl rfl
      refine pv_aload_n (M := mX12_law) 0 dX12_law_21 22 rfl rfl rfl ?_
      refine pv_iconst (M := mX12_law) (v := 0) dX12_law_22 23 rfl (by decide) ?_
      refine iv_put (M := mX12_law) (l1 := 0) (l2 := 160) dX12_law_23 FX12 12 wd1185 (by decide) rfl (tl123 hT) rfl rfl rfl I rfl (by decide) (by decide) 26 rfl (fun m9 e12 I10 => ?_)
      have K11 := Kp.set e12 rfl
      have w13 : (m9 123 12).toInt = 0 := by rw [e12, up2_eq] <;> rfl
      have w14 : (m9 123 13).toInt = (m 123 13).toInt := by rw [e12, up2_ne (by omega)]
      have w15 : (m9 123 16).toInt = (m 123 16).toInt := by rw [e12, up2_ne (by omega)]
      have w16 : (m9 123 17).toInt = (m 123 17).toInt := by rw [e12, up2_ne (by omega)]
      have w17 : (m9 123 18).toInt = (m 123 18).toInt := by rw [e12, up2_ne (by omega)]
      have w18 : (m9 123 20).toInt = (m 123 20).toInt := by rw [e12, up2_ne (by omega)]
      have w19 : (m9 123 11).toInt = (m 123 11).toInt := by rw [e12, up2_ne (by omega)]
      refine pv_aload_n (M := mX12_law) 0 dX12_law_26 27 rfl rfl rfl ?_
      refine pv_iload_n (M := mX12_law) 1 dX12_law_27 28 rfl rfl rfl ?_
      refine iv_put (M := mX12_law) (l1 := 0) (l2 := 160) dX12_law_28 FX12 13 wd1186 (by decide) rfl (tl123 hT) rfl rfl rfl I10 rfl (by omega) (by omega) 31 rfl (fun m20 e23 I21 => ?_)
      have K22 := K11.set e23 rfl
      have w24 : (m20 123 12).toInt = (m9 123 12).toInt := by rw [e23, up2_ne (by omega)]
      have w25 : (m20 123 13).toInt = x0.toInt := by rw [e23, up2_eq]
      have w26 : (m20 123 16).toInt = (m9 123 16).toInt := by rw [e23, up2_ne (by omega)]
      have w27 : (m20 123 17).toInt = (m9 123 17).toInt := by rw [e23, up2_ne (by omega)]
      have w28 : (m20 123 18).toInt = (m9 123 18).toInt := by rw [e23, up2_ne (by omega)]
      have w29 : (m20 123 20).toInt = (m9 123 20).toInt := by rw [e23, up2_ne (by omega)]
      have w30 : (m20 123 11).toInt = (m9 123 11).toInt := by rw [e23, up2_ne (by omega)]
      refine pv_aload_n (M := mX12_law) 0 dX12_law_31 32 rfl rfl rfl ?_
      refine pv_iconst (M := mX12_law) (v := 0) dX12_law_32 33 rfl (by decide) ?_
      refine iv_put (M := mX12_law) (l1 := 0) (l2 := 180) dX12_law_33 FX12 16 wd1189 (by decide) rfl (tl123 hT) rfl rfl rfl I21 rfl (by decide) (by decide) 36 rfl (fun m31 e34 I32 => ?_)
      have K33 := K22.set e34 rfl
      have w35 : (m31 123 12).toInt = (m20 123 12).toInt := by rw [e34, up2_ne (by omega)]
      have w36 : (m31 123 13).toInt = (m20 123 13).toInt := by rw [e34, up2_ne (by omega)]
      have w37 : (m31 123 16).toInt = 0 := by rw [e34, up2_eq] <;> rfl
      have w38 : (m31 123 17).toInt = (m20 123 17).toInt := by rw [e34, up2_ne (by omega)]
      have w39 : (m31 123 18).toInt = (m20 123 18).toInt := by rw [e34, up2_ne (by omega)]
      have w40 : (m31 123 20).toInt = (m20 123 20).toInt := by rw [e34, up2_ne (by omega)]
      have w41 : (m31 123 11).toInt = (m20 123 11).toInt := by rw [e34, up2_ne (by omega)]
      refine pv_aload_n (M := mX12_law) 0 dX12_law_36 37 rfl rfl rfl ?_
      refine pv_iconst (M := mX12_law) (v := 0) dX12_law_37 38 rfl (by decide) ?_
      refine iv_put (M := mX12_law) (l1 := 0) (l2 := 12) dX12_law_38 FX12 18 wd1191 (by decide) rfl (tl123 hT) rfl rfl rfl I32 rfl (by decide) (by decide) 41 rfl (fun m42 e45 I43 => ?_)
      have K44 := K33.set e45 rfl
      have w46 : (m42 123 12).toInt = (m31 123 12).toInt := by rw [e45, up2_ne (by omega)]
      have w47 : (m42 123 13).toInt = (m31 123 13).toInt := by rw [e45, up2_ne (by omega)]
      have w48 : (m42 123 16).toInt = (m31 123 16).toInt := by rw [e45, up2_ne (by omega)]
      have w49 : (m42 123 17).toInt = (m31 123 17).toInt := by rw [e45, up2_ne (by omega)]
      have w50 : (m42 123 18).toInt = 0 := by rw [e45, up2_eq] <;> rfl
      have w51 : (m42 123 20).toInt = (m31 123 20).toInt := by rw [e45, up2_ne (by omega)]
      have w52 : (m42 123 11).toInt = (m31 123 11).toInt := by rw [e45, up2_ne (by omega)]
      have kl1 : LX m42 := LX_eq hp0 (by rw [e45, e34, e23, e12, up2_ne (by omega), up2_ne (by omega), up2_ne (by omega), up2_ne (by omega)]) (fun j => by rw [e45, e34, e23, e12, up2_ne (by omega), up2_ne (by omega), up2_ne (by omega), up2_ne (by omega)]) (fun j => by rw [e45, e34, e23, e12, up2_ne (by omega), up2_ne (by omega), up2_ne (by omega), up2_ne (by omega)]) (fun j => by rw [e45, e34, e23, e12, up2_ne (by omega), up2_ne (by omega), up2_ne (by omega), up2_ne (by omega)]) (fun j => by rw [e45, e34, e23, e12, up2_ne (by omega), up2_ne (by omega), up2_ne (by omega), up2_ne (by omega)])
      refine pv_aload_n (M := mX12_law) 0 dX12_law_41 42 rfl rfl rfl ?_
      refine pv_callv (M := mX12_law) (as := []) (st := []) (kc2 := 0) (ks2 := 0) dX12_law_42 wd1413 YX12_readsClause ⟨wd1415, wd59⟩ (mk_get (tl123 hT)) rfl rfl (s_X12_readsClause g hT I43 (by omega) (by omega) (SX_0 (by omega))) rfl rfl (Nat.le_of_ble_eq_true rfl) (by decide) rfl rfl 45 rfl (fun rv h1 q54 => ?_)
      obtain ⟨m55, n56, v59, rfl, rfl, I57, K58, pv59, qv59, rv59⟩ := q54
      replace rv59 : v59.toInt = 0 ∨ (SX m55 ∧ (m55 123 16).toInt ≤ (m55 123 12).toInt ∧ (m42 123 12).toInt + 1 ≤ (m55 123 12).toInt ∧ (m55 123 12).toInt ≤ (m55 123 13).toInt ∧ (m55 123 13).toInt = (m42 123 13).toInt) := rv59
      have K58c := K58
      have w60 : (m55 123 13).toInt = (m42 123 13).toInt := congrArg Int32.toInt (K58 123 13 rfl)
      have w61 : (m55 123 20).toInt = (m42 123 20).toInt := congrArg Int32.toInt (K58 123 20 rfl)
      have w62 : (m55 123 11).toInt = (m42 123 11).toInt := congrArg Int32.toInt (K58 123 11 rfl)
      have K58 := K44.trans (K58.sub (wl_sub (by decide)))
      show PV _ _ _ _ _ _ _ 45 [.ref 123, .int x0, pv_U, pv_U] [.int v59] _
      have kR := rv59
      have kl0 : LX m55 := LX_eq kl1 (K58c 123 20 rfl) (fun j => K58c 136 j rfl) (fun j => K58c 138 j rfl) (fun j => K58c 139 j rfl) (fun j => K58c 140 j rfl)
      have kg0 : v59.toInt ≠ 0 → SX m55 ∧ (m55 123 16).toInt ≤ (m55 123 12).toInt ∧ (m55 123 12).toInt ≤ (m55 123 13).toInt := fun q => by have z := kR.resolve_left q; exact ⟨z.1, z.2.1, z.2.2.2.1⟩
      refine pv_istore_n (M := mX12_law) 2 (lo2 := [.ref 123, .int x0, .int v59, pv_U]) dX12_law_45 46 rfl rfl (by decide) rfl rfl ?_
      have lp72 : ∀ (fuel71 : Nat) (y66 : Int32) (m67 : Nat → Nat → Int32) (n68 : Nat → Nat → Int64), (0 ≤ y66.toInt) → (y66.toInt ≤ 1) → (LX m67) → (y66.toInt ≠ 0 → SX m67 ∧ (m67 123 16).toInt ≤ (m67 123 12).toInt ∧ (m67 123 12).toInt ≤ (m67 123 13).toInt) → ((m67 123 11).toInt = (m 123 11).toInt) → IV BB m67 → fr (wl [(123, 123, some 11), (123, 123, some 12), (123, 123, some 13), (123, 123, some 14), (123, 123, some 15), (123, 123, some 16), (123, 123, some 17), (123, 123, some 18), (123, 123, some 19), (123, 123, some 20), (130, 130, none), (131, 131, none), (132, 132, none), (133, 133, none), (134, 134, none), (135, 135, none), (136, 136, none), (137, 137, none), (138, 138, none), (139, 139, none), (140, 140, none)]) m m67 → ((400 * y66.toInt + (160 - (m67 123 12).toInt)) : Int).toNat < fuel71 → PV none g mX12_law (sqI T BB (wl [(123, 123, some 11), (123, 123, some 12), (123, 123, some 13), (123, 123, some 14), (123, 123, some 15), (123, 123, some 16), (123, 123, some 17), (123, 123, some 18), (123, 123, some 19), (123, 123, some 20), (130, 130, none), (131, 131, none), (132, 132, none), (133, 133, none), (134, 134, none), (135, 135, none), (136, 136, none), (137, 137, none), (138, 138, none), (139, 139, none), (140, 140, none)]) r m (-2147483648) 2147483647 (fun m' v => LX m' ∧ LWK x0.toInt (m 123 11).toInt (m' 123 11).toInt)) 9 0 0 46 [.ref 123, .int x0, .int y66, pv_U] [] (mk T m67 n68 r) := by
        intro fuel71
        induction fuel71 with
        | zero => intro y66 m67 n68 b74 b75 b76 b77 b78 I69 K70 z79; omega
        | succ fuel71 ih73 =>
          intro y66 m67 n68 b74 b75 b76 b77 b78 I69 K70 z79
          have z80 : 0 ≤ (m67 123 12).toInt ∧ (m67 123 12).toInt ≤ 160 := I69 123 12
          have z81 : 0 ≤ (m67 123 13).toInt ∧ (m67 123 13).toInt ≤ 160 := I69 123 13
          have z82 : 0 ≤ (m67 123 16).toInt ∧ (m67 123 16).toInt ≤ 180 := I69 123 16
          have z83 : 0 ≤ (m67 123 17).toInt ∧ (m67 123 17).toInt ≤ 180 := I69 123 17
          have z84 : 0 ≤ (m67 123 18).toInt ∧ (m67 123 18).toInt ≤ 12 := I69 123 18
          have z85 : 0 ≤ (m67 123 20).toInt ∧ (m67 123 20).toInt ≤ 12 := I69 123 20
          have z86 : 0 ≤ (m67 123 11).toInt ∧ (m67 123 11).toInt ≤ 200 := I69 123 11
          have kl := (show LX m67 by assumption)
          have kg := (show y66.toInt ≠ 0 → SX m67 ∧ (m67 123 16).toInt ≤ (m67 123 12).toInt ∧ (m67 123 12).toInt ≤ (m67 123 13).toInt by assumption)
          refine pv_iload_n (M := mX12_law) 2 dX12_law_46 47 rfl rfl rfl ?_
          refine pv_if_eq (M := mX12_law) (tgt := 86) dX12_law_47 50 rfl (by decide) (fun c89 => ?_) (fun c89 => ?_)
          · have c89 := iv_eq (X := y66.toInt) (Y := 0) c89 rfl (by decide)
            refine pv_aload_n (M := mX12_law) 0 dX12_law_86 87 rfl rfl rfl ?_
            refine pv_iconst (M := mX12_law) (v := 0) dX12_law_87 88 rfl (by decide) ?_
            refine iv_put (M := mX12_law) (l1 := 0) (l2 := 200) dX12_law_88 FX12 11 wd1184 (by decide) rfl (tl123 hT) rfl rfl rfl I69 rfl (by decide) (by decide) 91 rfl (fun m90 e93 I91 => ?_)
            have K92 := K70.set e93 rfl
            have w94 : (m90 123 12).toInt = (m67 123 12).toInt := by rw [e93, up2_ne (by omega)]
            have w95 : (m90 123 13).toInt = (m67 123 13).toInt := by rw [e93, up2_ne (by omega)]
            have w96 : (m90 123 16).toInt = (m67 123 16).toInt := by rw [e93, up2_ne (by omega)]
            have w97 : (m90 123 17).toInt = (m67 123 17).toInt := by rw [e93, up2_ne (by omega)]
            have w98 : (m90 123 18).toInt = (m67 123 18).toInt := by rw [e93, up2_ne (by omega)]
            have w99 : (m90 123 20).toInt = (m67 123 20).toInt := by rw [e93, up2_ne (by omega)]
            have w100 : (m90 123 11).toInt = 0 := by rw [e93, up2_eq] <;> rfl
            refine pv_iload_n (M := mX12_law) 2 dX12_law_91 92 rfl rfl rfl ?_
            refine pv_if_ne (M := mX12_law) (tgt := 100) dX12_law_92 95 rfl (by decide) (fun c101 => ?_) (fun c101 => ?_)
            · have c101 := iv_ne (X := y66.toInt) (Y := 0) c101 rfl (by decide)
              omega
            · have c101 := iv_eq (X := y66.toInt) (Y := 0) c101 rfl (by decide)
              have klz : LX m90 := LX_eq kl (by rw [e93, up2_ne (by omega)]) (fun j => by rw [e93, up2_ne (by omega)]) (fun j => by rw [e93, up2_ne (by omega)]) (fun j => by rw [e93, up2_ne (by omega)]) (fun j => by rw [e93, up2_ne (by omega)])
              refine pv_aload_n (M := mX12_law) 0 dX12_law_95 96 rfl rfl rfl ?_
              refine iv_get (M := mX12_law) (l1 := (-2147483648)) (l2 := 2147483647) dX12_law_96 FX12 14 wd1187 (by decide) (tl123 hT) rfl I91 rfl 99 rfl (fun v103 ev103 pv103 qv103 => ?_)
              exact pv_iret (M := mX12_law) dX12_law_99 rfl rfl ⟨_, _, _, rfl, rfl, I91, K92, (iv_rng v103).1, (iv_rng v103).2, ⟨klz, (by first | exact Or.inr ⟨by omega, by omega⟩ | exact Or.inl ⟨by omega, by omega, by omega, by first | omega | decide⟩)⟩⟩
          · have c89 := iv_ne (X := y66.toInt) (Y := 0) c89 rfl (by decide)
            have kG := kg (by omega)
            have kG2 := kG.2.1
            have kG3 := kG.2.2
            refine pv_aload_n (M := mX12_law) 0 dX12_law_50 51 rfl rfl rfl ?_
            refine iv_get (M := mX12_law) (l1 := 0) (l2 := 160) dX12_law_51 FX12 12 wd1185 (by decide) (tl123 hT) rfl I69 rfl 54 rfl (fun v107 ev107 pv107 qv107 => ?_)
            have wv107 : v107.toInt = (m67 123 12).toInt := congrArg Int32.toInt ev107
            refine pv_aload_n (M := mX12_law) 0 dX12_law_54 55 rfl rfl rfl ?_
            refine iv_get (M := mX12_law) (l1 := 0) (l2 := 160) dX12_law_55 FX12 13 wd1186 (by decide) (tl123 hT) rfl I69 rfl 58 rfl (fun v108 ev108 pv108 qv108 => ?_)
            have wv108 : v108.toInt = (m67 123 13).toInt := congrArg Int32.toInt ev108
            refine pv_icmp_ge (M := mX12_law) (tgt := 86) dX12_law_58 61 rfl (by decide) (fun c109 => ?_) (fun c109 => ?_)
            · have c109 := iv_le (X := v108.toInt) (Y := v107.toInt) c109 rfl rfl
              refine pv_aload_n (M := mX12_law) 0 dX12_law_86 87 rfl rfl rfl ?_
              refine pv_iconst (M := mX12_law) (v := 0) dX12_law_87 88 rfl (by decide) ?_
              refine iv_put (M := mX12_law) (l1 := 0) (l2 := 200) dX12_law_88 FX12 11 wd1184 (by decide) rfl (tl123 hT) rfl rfl rfl I69 rfl (by decide) (by decide) 91 rfl (fun m110 e113 I111 => ?_)
              have K112 := K70.set e113 rfl
              have w114 : (m110 123 12).toInt = (m67 123 12).toInt := by rw [e113, up2_ne (by omega)]
              have w115 : (m110 123 13).toInt = (m67 123 13).toInt := by rw [e113, up2_ne (by omega)]
              have w116 : (m110 123 16).toInt = (m67 123 16).toInt := by rw [e113, up2_ne (by omega)]
              have w117 : (m110 123 17).toInt = (m67 123 17).toInt := by rw [e113, up2_ne (by omega)]
              have w118 : (m110 123 18).toInt = (m67 123 18).toInt := by rw [e113, up2_ne (by omega)]
              have w119 : (m110 123 20).toInt = (m67 123 20).toInt := by rw [e113, up2_ne (by omega)]
              have w120 : (m110 123 11).toInt = 0 := by rw [e113, up2_eq] <;> rfl
              refine pv_iload_n (M := mX12_law) 2 dX12_law_91 92 rfl rfl rfl ?_
              refine pv_if_ne (M := mX12_law) (tgt := 100) dX12_law_92 95 rfl (by decide) (fun c121 => ?_) (fun c121 => ?_)
              · have c121 := iv_ne (X := y66.toInt) (Y := 0) c121 rfl (by decide)
                have kG := kg (by omega)
                have kG2 := kG.2.1
                have kG3 := kG.2.2
                refine pv_aload_n (M := mX12_law) 0 dX12_law_100 101 rfl rfl rfl ?_
                refine pv_aload_n (M := mX12_law) 0 dX12_law_101 102 rfl rfl rfl ?_
                refine iv_get (M := mX12_law) (l1 := 0) (l2 := 12) dX12_law_102 FX12 18 wd1191 (by decide) (tl123 hT) rfl I111 rfl 105 rfl (fun v125 ev125 pv125 qv125 => ?_)
                have wv125 : v125.toInt = (m110 123 18).toInt := congrArg Int32.toInt ev125
                refine iv_put (M := mX12_law) (l1 := 0) (l2 := 12) dX12_law_105 FX12 20 wd1193 (by decide) rfl (tl123 hT) rfl rfl rfl I111 rfl (by omega) (by omega) 108 rfl (fun m126 e129 I127 => ?_)
                have K128 := K112.set e129 rfl
                have w130 : (m126 123 12).toInt = (m110 123 12).toInt := by rw [e129, up2_ne (by omega)]
                have w131 : (m126 123 13).toInt = (m110 123 13).toInt := by rw [e129, up2_ne (by omega)]
                have w132 : (m126 123 16).toInt = (m110 123 16).toInt := by rw [e129, up2_ne (by omega)]
                have w133 : (m126 123 17).toInt = (m110 123 17).toInt := by rw [e129, up2_ne (by omega)]
                have w134 : (m126 123 18).toInt = (m110 123 18).toInt := by rw [e129, up2_ne (by omega)]
                have w135 : (m126 123 20).toInt = v125.toInt := by rw [e129, up2_eq]
                have w136 : (m126 123 11).toInt = (m110 123 11).toInt := by rw [e129, up2_ne (by omega)]
                refine pv_iconst (M := mX12_law) (v := 0) dX12_law_108 109 rfl (by decide) ?_
                refine pv_istore_n (M := mX12_law) 3 (lo2 := [.ref 123, .int x0, .int y66, .int 0]) dX12_law_109 110 rfl rfl (by decide) rfl rfl ?_
                have lp143 : ∀ (fuel142 : Nat) (y137 : Int32) (m138 : Nat → Nat → Int32) (n139 : Nat → Nat → Int64), (0 ≤ y137.toInt) → (y137.toInt ≤ 180) → (SX m138) → ((m138 123 16).toInt ≤ 179) → ((m138 123 20).toInt = (m138 123 18).toInt) → (∀ j : Nat, (j : Int) < y137.toInt → m138 136 j = m138 130 j) → ((m138 123 11).toInt = 0) → IV BB m138 → fr (wl [(123, 123, some 11), (123, 123, some 12), (123, 123, some 13), (123, 123, some 14), (123, 123, some 15), (123, 123, some 16), (123, 123, some 17), (123, 123, some 18), (123, 123, some 19), (123, 123, some 20), (130, 130, none), (131, 131, none), (132, 132, none), (133, 133, none), (134, 134, none), (135, 135, none), (136, 136, none), (137, 137, none), (138, 138, none), (139, 139, none), (140, 140, none)]) m m138 → ((180 - y137.toInt) : Int).toNat < fuel142 → PV none g mX12_law (sqI T BB (wl [(123, 123, some 11), (123, 123, some 12), (123, 123, some 13), (123, 123, some 14), (123, 123, some 15), (123, 123, some 16), (123, 123, some 17), (123, 123, some 18), (123, 123, some 19), (123, 123, some 20), (130, 130, none), (131, 131, none), (132, 132, none), (133, 133, none), (134, 134, none), (135, 135, none), (136, 136, none), (137, 137, none), (138, 138, none), (139, 139, none), (140, 140, none)]) r m (-2147483648) 2147483647 (fun m' v => LX m' ∧ LWK x0.toInt (m 123 11).toInt (m' 123 11).toInt)) 9 0 0 110 [.ref 123, .int x0, .int y66, .int y137] [] (mk T m138 n139 r) := by
                  intro fuel142
                  induction fuel142 with
                  | zero => intro y137 m138 n139 b145 b146 b147 b148 b149 b150 b151 I140 K141 z152; omega
                  | succ fuel142 ih144 =>
                    intro y137 m138 n139 b145 b146 b147 b148 b149 b150 b151 I140 K141 z152
                    have z153 : 0 ≤ (m138 123 12).toInt ∧ (m138 123 12).toInt ≤ 160 := I140 123 12
                    have z154 : 0 ≤ (m138 123 13).toInt ∧ (m138 123 13).toInt ≤ 160 := I140 123 13
                    have z155 : 0 ≤ (m138 123 16).toInt ∧ (m138 123 16).toInt ≤ 180 := I140 123 16
                    have z156 : 0 ≤ (m138 123 17).toInt ∧ (m138 123 17).toInt ≤ 180 := I140 123 17
                    have z157 : 0 ≤ (m138 123 18).toInt ∧ (m138 123 18).toInt ≤ 12 := I140 123 18
                    have z158 : 0 ≤ (m138 123 20).toInt ∧ (m138 123 20).toInt ≤ 12 := I140 123 20
                    have z159 : 0 ≤ (m138 123 11).toInt ∧ (m138 123 11).toInt ≤ 200 := I140 123 11
                    have ks := (show SX m138 by assumption)
                    have kc := (show ∀ j : Nat, (j : Int) < y137.toInt → m138 136 j = m138 130 j by assumption)
                    refine pv_iload_n (M := mX12_law) 3 dX12_law_110 111 rfl rfl rfl ?_
                    refine pv_aload_n (M := mX12_law) 0 dX12_law_111 112 rfl rfl rfl ?_
                    refine iv_get (M := mX12_law) (l1 := 0) (l2 := 180) dX12_law_112 FX12 16 wd1189 (by decide) (tl123 hT) rfl I140 rfl 115 rfl (fun v162 ev162 pv162 qv162 => ?_)
                    have wv162 : v162.toInt = (m138 123 16).toInt := congrArg Int32.toInt ev162
                    refine pv_icmp_ge (M := mX12_law) (tgt := 136) dX12_law_115 118 rfl (by decide) (fun c163 => ?_) (fun c163 => ?_)
                    · have c163 := iv_le (X := v162.toInt) (Y := y137.toInt) c163 rfl rfl
                      refine pv_iconst (M := mX12_law) (v := 0) dX12_law_136 137 rfl (by decide) ?_
                      refine pv_istore_n (M := mX12_law) 3 (lo2 := [.ref 123, .int x0, .int y66, .int 0]) dX12_law_137 138 rfl rfl (by decide) rfl rfl ?_
                      have lp170 : ∀ (fuel169 : Nat) (y164 : Int32) (m165 : Nat → Nat → Int32) (n166 : Nat → Nat → Int64), (0 ≤ y164.toInt) → (y164.toInt ≤ 12) → (SX m165) → ((m165 123 16).toInt ≤ 179) → ((m165 123 20).toInt = (m165 123 18).toInt) → (∀ j : Nat, (j : Int) < (m165 123 16).toInt → m165 136 j = m165 130 j) → (∀ j : Nat, (j : Int) < y164.toInt → m165 138 j = m165 133 j ∧ m165 139 j = m165 134 j ∧ m165 140 j = m165 135 j) → ((m165 123 11).toInt = 0) → IV BB m165 → fr (wl [(123, 123, some 11), (123, 123, some 12), (123, 123, some 13), (123, 123, some 14), (123, 123, some 15), (123, 123, some 16), (123, 123, some 17), (123, 123, some 18), (123, 123, some 19), (123, 123, some 20), (130, 130, none), (131, 131, none), (132, 132, none), (133, 133, none), (134, 134, none), (135, 135, none), (136, 136, none), (137, 137, none), (138, 138, none), (139, 139, none), (140, 140, none)]) m m165 → ((12 - y164.toInt) : Int).toNat < fuel169 → PV none g mX12_law (sqI T BB (wl [(123, 123, some 11), (123, 123, some 12), (123, 123, some 13), (123, 123, some 14), (123, 123, some 15), (123, 123, some 16), (123, 123, some 17), (123, 123, some 18), (123, 123, some 19), (123, 123, some 20), (130, 130, none), (131, 131, none), (132, 132, none), (133, 133, none), (134, 134, none), (135, 135, none), (136, 136, none), (137, 137, none), (138, 138, none), (139, 139, none), (140, 140, none)]) r m (-2147483648) 2147483647 (fun m' v => LX m' ∧ LWK x0.toInt (m 123 11).toInt (m' 123 11).toInt)) 9 0 0 138 [.ref 123, .int x0, .int y66, .int y164] [] (mk T m165 n166 r) := by
                        intro fuel169
                        induction fuel169 with
                        | zero => intro y164 m165 n166 b172 b173 b174 b175 b176 b177 b178 b179 I167 K168 z180; omega
                        | succ fuel169 ih171 =>
                          intro y164 m165 n166 b172 b173 b174 b175 b176 b177 b178 b179 I167 K168 z180
                          have z181 : 0 ≤ (m165 123 12).toInt ∧ (m165 123 12).toInt ≤ 160 := I167 123 12
                          have z182 : 0 ≤ (m165 123 13).toInt ∧ (m165 123 13).toInt ≤ 160 := I167 123 13
                          have z183 : 0 ≤ (m165 123 16).toInt ∧ (m165 123 16).toInt ≤ 180 := I167 123 16
                          have z184 : 0 ≤ (m165 123 17).toInt ∧ (m165 123 17).toInt ≤ 180 := I167 123 17
                          have z185 : 0 ≤ (m165 123 18).toInt ∧ (m165 123 18).toInt ≤ 12 := I167 123 18
                          have z186 : 0 ≤ (m165 123 20).toInt ∧ (m165 123 20).toInt ≤ 12 := I167 123 20
                          have z187 : 0 ≤ (m165 123 11).toInt ∧ (m165 123 11).toInt ≤ 200 := I167 123 11
                          have ks := (show SX m165 by assumption)
                          have kc := (show ∀ j : Nat, (j : Int) < (m165 123 16).toInt → m165 136 j = m165 130 j by assumption)
                          have kd := (show ∀ j : Nat, (j : Int) < y164.toInt → m165 138 j = m165 133 j ∧ m165 139 j = m165 134 j ∧ m165 140 j = m165 135 j by assumption)
                          refine pv_iload_n (M := mX12_law) 3 dX12_law_138 139 rfl rfl rfl ?_
                          refine pv_aload_n (M := mX12_law) 0 dX12_law_139 140 rfl rfl rfl ?_
                          refine iv_get (M := mX12_law) (l1 := 0) (l2 := 12) dX12_law_140 FX12 18 wd1191 (by decide) (tl123 hT) rfl I167 rfl 143 rfl (fun v191 ev191 pv191 qv191 => ?_)
                          have wv191 : v191.toInt = (m165 123 18).toInt := congrArg Int32.toInt ev191
                          refine pv_icmp_ge (M := mX12_law) (tgt := 200) dX12_law_143 146 rfl (by decide) (fun c192 => ?_) (fun c192 => ?_)
                          · have c192 := iv_le (X := v191.toInt) (Y := y164.toInt) c192 rfl rfl
                            refine pv_aload_n (M := mX12_law) 0 dX12_law_200 201 rfl rfl rfl ?_
                            refine iv_get (M := mX12_law) (l1 := 0) (l2 := 12) dX12_law_201 FX12 18 wd1191 (by decide) (tl123 hT) rfl I167 rfl 204 rfl (fun v193 ev193 pv193 qv193 => ?_)
                            have wv193 : v193.toInt = (m165 123 18).toInt := congrArg Int32.toInt ev193
                            exact pv_iret (M := mX12_law) dX12_law_204 rfl rfl ⟨_, _, _, rfl, rfl, I167, K168, (iv_rng v193).1, (iv_rng v193).2, ⟨(LX_of ks (by omega) (by omega) kc (fun j hj => kd j (by omega))), (by first | exact Or.inr ⟨by omega, by omega⟩ | exact Or.inl ⟨by omega, by omega, by omega, by first | omega | decide⟩)⟩⟩
                          · have c192 := iv_nle (X := v191.toInt) (Y := y164.toInt) c192 rfl rfl
                            refine pv_aload_n (M := mX12_law) 0 dX12_law_146 147 rfl rfl rfl ?_
                            refine mv_get (M := mX12_law) (v := .ref 137) dX12_law_147 FX12 28 wd1201 (by decide) (tl123 hT) rfl rfl 150 rfl ?_
                            refine pv_iload_n (M := mX12_law) 3 dX12_law_150 151 rfl rfl rfl ?_
                            refine pv_aload_n (M := mX12_law) 0 dX12_law_151 152 rfl rfl rfl ?_
                            refine mv_get (M := mX12_law) (v := .ref 132) dX12_law_152 FX12 23 wd1196 (by decide) (tl123 hT) rfl rfl 155 rfl ?_
                            refine pv_iload_n (M := mX12_law) 3 dX12_law_155 156 rfl rfl rfl ?_
                            refine iv_iald (M := mX12_law) (X := y164.toInt) (l1 := (-2147483648)) (l2 := 2147483647) dX12_law_156 (tl132 hT) rfl (by omega) (by omega) I167 (fun _ => rfl) 157 rfl (fun v194 ev194 pv194 qv194 => ?_)
                            refine iv_iast (M := mX12_law) (X := y164.toInt) (l1 := (-2147483648)) (l2 := 2147483647) dX12_law_157 (tl137 hT) rfl (by omega) (by omega) I167 (fun _ => rfl) (iv_rng v194).1 (iv_rng v194).2 158 rfl (fun m195 e198 I196 => ?_)
                            have K197 := K168.set e198 rfl
                            have w199 : (m195 123 12).toInt = (m165 123 12).toInt := by rw [e198, up2_ne (by omega)]
                            have w200 : (m195 123 13).toInt = (m165 123 13).toInt := by rw [e198, up2_ne (by omega)]
                            have w201 : (m195 123 16).toInt = (m165 123 16).toInt := by rw [e198, up2_ne (by omega)]
                            have w202 : (m195 123 17).toInt = (m165 123 17).toInt := by rw [e198, up2_ne (by omega)]
                            have w203 : (m195 123 18).toInt = (m165 123 18).toInt := by rw [e198, up2_ne (by omega)]
                            have w204 : (m195 123 20).toInt = (m165 123 20).toInt := by rw [e198, up2_ne (by omega)]
                            have w205 : (m195 123 11).toInt = (m165 123 11).toInt := by rw [e198, up2_ne (by omega)]
                            refine pv_aload_n (M := mX12_law) 0 dX12_law_158 159 rfl rfl rfl ?_
                            refine mv_get (M := mX12_law) (v := .ref 138) dX12_law_159 FX12 29 wd1202 (by decide) (tl123 hT) rfl rfl 162 rfl ?_
                            refine pv_iload_n (M := mX12_law) 3 dX12_law_162 163 rfl rfl rfl ?_
                            refine pv_aload_n (M := mX12_law) 0 dX12_law_163 164 rfl rfl rfl ?_
                            refine mv_get (M := mX12_law) (v := .ref 133) dX12_law_164 FX12 24 wd1197 (by decide) (tl123 hT) rfl rfl 167 rfl ?_
                            refine pv_iload_n (M := mX12_law) 3 dX12_law_167 168 rfl rfl rfl ?_
                            refine iv_iald (M := mX12_law) (X := y164.toInt) (l1 := 0) (l2 := 180) dX12_law_168 (tl133 hT) rfl (by omega) (by omega) I196 (fun _ => rfl) 169 rfl (fun v206 ev206 pv206 qv206 => ?_)
                            have k169 := ev206
                            refine iv_iast (M := mX12_law) (X := y164.toInt) (l1 := 0) (l2 := 180) dX12_law_169 (tl138 hT) rfl (by omega) (by omega) I196 (fun _ => rfl) (by omega) (by omega) 170 rfl (fun m208 e211 I209 => ?_)
                            have K210 := K197.set e211 rfl
                            have w212 : (m208 123 12).toInt = (m195 123 12).toInt := by rw [e211, up2_ne (by omega)]
                            have w213 : (m208 123 13).toInt = (m195 123 13).toInt := by rw [e211, up2_ne (by omega)]
                            have w214 : (m208 123 16).toInt = (m195 123 16).toInt := by rw [e211, up2_ne (by omega)]
                            have w215 : (m208 123 17).toInt = (m195 123 17).toInt := by rw [e211, up2_ne (by omega)]
                            have w216 : (m208 123 18).toInt = (m195 123 18).toInt := by rw [e211, up2_ne (by omega)]
                            have w217 : (m208 123 20).toInt = (m195 123 20).toInt := by rw [e211, up2_ne (by omega)]
                            have w218 : (m208 123 11).toInt = (m195 123 11).toInt := by rw [e211, up2_ne (by omega)]
                            refine pv_aload_n (M := mX12_law) 0 dX12_law_170 171 rfl rfl rfl ?_
                            refine mv_get (M := mX12_law) (v := .ref 139) dX12_law_171 FX12 30 wd1203 (by decide) (tl123 hT) rfl rfl 174 rfl ?_
                            refine pv_iload_n (M := mX12_law) 3 dX12_law_174 175 rfl rfl rfl ?_
                            refine pv_aload_n (M := mX12_law) 0 dX12_law_175 176 rfl rfl rfl ?_
                            refine mv_get (M := mX12_law) (v := .ref 134) dX12_law_176 FX12 25 wd1198 (by decide) (tl123 hT) rfl rfl 179 rfl ?_
                            refine pv_iload_n (M := mX12_law) 3 dX12_law_179 180 rfl rfl rfl ?_
                            refine iv_iald (M := mX12_law) (X := y164.toInt) (l1 := 0) (l2 := 180) dX12_law_180 (tl134 hT) rfl (by omega) (by omega) I209 (fun _ => rfl) 181 rfl (fun v219 ev219 pv219 qv219 => ?_)
                            have k181 := ev219
                            refine iv_iast (M := mX12_law) (X := y164.toInt) (l1 := 0) (l2 := 180) dX12_law_181 (tl139 hT) rfl (by omega) (by omega) I209 (fun _ => rfl) (by omega) (by omega) 182 rfl (fun m221 e224 I222 => ?_)
                            have K223 := K210.set e224 rfl
                            have w225 : (m221 123 12).toInt = (m208 123 12).toInt := by rw [e224, up2_ne (by omega)]
                            have w226 : (m221 123 13).toInt = (m208 123 13).toInt := by rw [e224, up2_ne (by omega)]
                            have w227 : (m221 123 16).toInt = (m208 123 16).toInt := by rw [e224, up2_ne (by omega)]
                            have w228 : (m221 123 17).toInt = (m208 123 17).toInt := by rw [e224, up2_ne (by omega)]
                            have w229 : (m221 123 18).toInt = (m208 123 18).toInt := by rw [e224, up2_ne (by omega)]
                            have w230 : (m221 123 20).toInt = (m208 123 20).toInt := by rw [e224, up2_ne (by omega)]
                            have w231 : (m221 123 11).toInt = (m208 123 11).toInt := by rw [e224, up2_ne (by omega)]
                            refine pv_aload_n (M := mX12_law) 0 dX12_law_182 183 rfl rfl rfl ?_
                            refine mv_get (M := mX12_law) (v := .ref 140) dX12_law_183 FX12 31 wd1204 (by decide) (tl123 hT) rfl rfl 186 rfl ?_
                            refine pv_iload_n (M := mX12_law) 3 dX12_law_186 187 rfl rfl rfl ?_
                            refine pv_aload_n (M := mX12_law) 0 dX12_law_187 188 rfl rfl rfl ?_
                            refine mv_get (M := mX12_law) (v := .ref 135) dX12_law_188 FX12 26 wd1199 (by decide) (tl123 hT) rfl rfl 191 rfl ?_
                            refine pv_iload_n (M := mX12_law) 3 dX12_law_191 192 rfl rfl rfl ?_
                            refine iv_iald (M := mX12_law) (X := y164.toInt) (l1 := 0) (l2 := 180) dX12_law_192 (tl135 hT) rfl (by omega) (by omega) I222 (fun _ => rfl) 193 rfl (fun v232 ev232 pv232 qv232 => ?_)
                            have k193 := ev232
                            refine iv_iast (M := mX12_law) (X := y164.toInt) (l1 := 0) (l2 := 180) dX12_law_193 (tl140 hT) rfl (by omega) (by omega) I222 (fun _ => rfl) (by omega) (by omega) 194 rfl (fun m234 e237 I235 => ?_)
                            have K236 := K223.set e237 rfl
                            have w238 : (m234 123 12).toInt = (m221 123 12).toInt := by rw [e237, up2_ne (by omega)]
                            have w239 : (m234 123 13).toInt = (m221 123 13).toInt := by rw [e237, up2_ne (by omega)]
                            have w240 : (m234 123 16).toInt = (m221 123 16).toInt := by rw [e237, up2_ne (by omega)]
                            have w241 : (m234 123 17).toInt = (m221 123 17).toInt := by rw [e237, up2_ne (by omega)]
                            have w242 : (m234 123 18).toInt = (m221 123 18).toInt := by rw [e237, up2_ne (by omega)]
                            have w243 : (m234 123 20).toInt = (m221 123 20).toInt := by rw [e237, up2_ne (by omega)]
                            have w244 : (m234 123 11).toInt = (m221 123 11).toInt := by rw [e237, up2_ne (by omega)]
                            refine iv_inc (M := mX12_law) (C := 1) dX12_law_194 197 rfl rfl (by decide) rfl rfl (by decide) (by omega) (by omega) (fun v245 ev245 => ?_)
                            show PV _ _ _ _ _ _ _ 197 [.ref 123, .int x0, .int y66, .int v245] [] _
                            refine pv_goto (M := mX12_law) (tgt := 138) dX12_law_197 (by decide) ?_
                            have ksb1 : SX m234 := SX_eq ks (by rw [e237, e224, e211, e198, up2_ne (by omega), up2_ne (by omega), up2_ne (by omega), up2_ne (by omega)]) (by rw [e237, e224, e211, e198, up2_ne (by omega), up2_ne (by omega), up2_ne (by omega), up2_ne (by omega)]) (fun j => by rw [e237, e224, e211, e198, up2_ne (by omega), up2_ne (by omega), up2_ne (by omega), up2_ne (by omega)]) (fun j => by rw [e237, e224, e211, e198, up2_ne (by omega), up2_ne (by omega), up2_ne (by omega), up2_ne (by omega)]) (fun j => by rw [e237, e224, e211, e198, up2_ne (by omega), up2_ne (by omega), up2_ne (by omega), up2_ne (by omega)]) (fun j => by rw [e237, e224, e211, e198, up2_ne (by omega), up2_ne (by omega), up2_ne (by omega), up2_ne (by omega)])
                            have kcb1 : ∀ j : Nat, (j : Int) < (m234 123 16).toInt → m234 136 j = m234 130 j := fun j hj => (show m234 136 j = m165 136 j by rw [e237, e224, e211, e198, up2_ne (by omega), up2_ne (by omega), up2_ne (by omega), up2_ne (by omega)]).trans ((kc j (by omega)).trans (show m165 130 j = m234 130 j by rw [e237, e224, e211, e198, up2_ne (by omega), up2_ne (by omega), up2_ne (by omega), up2_ne (by omega)]))
                            have kdb : ∀ j : Nat, (j : Int) < v245.toInt → m234 138 j = m234 133 j ∧ m234 139 j = m234 134 j ∧ m234 140 j = m234 135 j := fun j hj => LW_step e198 e211 e224 e237 k169 k181 k193 kd (by omega)
                            exact ih171 v245 m234 n166 (by first | omega | assumption | exact (iv_rng _).2 | exact (iv_rng _).1 | decide) (by first | omega | assumption | exact (iv_rng _).2 | exact (iv_rng _).1 | decide) ksb1 (by first | omega | assumption | (show (m234 123 16).toInt ≤ 179; omega) | decide) (by first | omega | assumption | (show (m234 123 20).toInt = (m234 123 18).toInt; omega) | decide) kcb1 kdb (by first | omega | assumption | (show (m234 123 11).toInt = 0; omega) | decide) I235 K236 (by omega)
                      have z249 : (0 : Int32).toInt = 0 := by decide
                      have ks1 := ks
                      have kcx : ∀ j : Nat, (j : Int) < (m138 123 16).toInt → m138 136 j = m138 130 j := fun j hj => kc j (by omega)
                      exact lp170 (((12 - 0) : Int).toNat + 1) 0 m138 n139 (by first | omega | assumption | exact (iv_rng _).2 | exact (iv_rng _).1 | decide) (by first | omega | assumption | exact (iv_rng _).2 | exact (iv_rng _).1 | decide) ks1 (by first | omega | assumption | (show (m138 123 16).toInt ≤ 179; omega) | decide) (by first | omega | assumption | (show (m138 123 20).toInt = (m138 123 18).toInt; omega) | decide) kcx (fun j hj => by omega) (by first | omega | assumption | (show (m138 123 11).toInt = 0; omega) | decide) I140 K141 (by omega)
                    · have c163 := iv_nle (X := v162.toInt) (Y := y137.toInt) c163 rfl rfl
                      refine pv_aload_n (M := mX12_law) 0 dX12_law_118 119 rfl rfl rfl ?_
                      refine mv_get (M := mX12_law) (v := .ref 136) dX12_law_119 FX12 27 wd1200 (by decide) (tl123 hT) rfl rfl 122 rfl ?_
                      refine pv_iload_n (M := mX12_law) 3 dX12_law_122 123 rfl rfl rfl ?_
                      refine pv_aload_n (M := mX12_law) 0 dX12_law_123 124 rfl rfl rfl ?_
                      refine mv_get (M := mX12_law) (v := .ref 130) dX12_law_124 FX12 21 wd1194 (by decide) (tl123 hT) rfl rfl 127 rfl ?_
                      refine pv_iload_n (M := mX12_law) 3 dX12_law_127 128 rfl rfl rfl ?_
                      refine iv_iald (M := mX12_law) (X := y137.toInt) (l1 := 0) (l2 := 13631487) dX12_law_128 (tl130 hT) rfl (by omega) (by omega) I140 (fun _ => rfl) 129 rfl (fun v252 ev252 pv252 qv252 => ?_)
                      have k129 := ev252
                      refine iv_iast (M := mX12_law) (X := y137.toInt) (l1 := 0) (l2 := 13631487) dX12_law_129 (tl136 hT) rfl (by omega) (by omega) I140 (fun _ => rfl) (by omega) (by omega) 130 rfl (fun m254 e257 I255 => ?_)
                      have K256 := K141.set e257 rfl
                      have w258 : (m254 123 12).toInt = (m138 123 12).toInt := by rw [e257, up2_ne (by omega)]
                      have w259 : (m254 123 13).toInt = (m138 123 13).toInt := by rw [e257, up2_ne (by omega)]
                      have w260 : (m254 123 16).toInt = (m138 123 16).toInt := by rw [e257, up2_ne (by omega)]
                      have w261 : (m254 123 17).toInt = (m138 123 17).toInt := by rw [e257, up2_ne (by omega)]
                      have w262 : (m254 123 18).toInt = (m138 123 18).toInt := by rw [e257, up2_ne (by omega)]
                      have w263 : (m254 123 20).toInt = (m138 123 20).toInt := by rw [e257, up2_ne (by omega)]
                      have w264 : (m254 123 11).toInt = (m138 123 11).toInt := by rw [e257, up2_ne (by omega)]
                      refine iv_inc (M := mX12_law) (C := 1) dX12_law_130 133 rfl rfl (by decide) rfl rfl (by decide) (by omega) (by omega) (fun v265 ev265 => ?_)
                      show PV _ _ _ _ _ _ _ 133 [.ref 123, .int x0, .int y66, .int v265] [] _
                      refine pv_goto (M := mX12_law) (tgt := 110) dX12_law_133 (by decide) ?_
                      have ksb : SX m254 := SX_eq ks (by rw [e257, up2_ne (by omega)]) (by rw [e257, up2_ne (by omega)]) (fun j => by rw [e257, up2_ne (by omega)]) (fun j => by rw [e257, up2_ne (by omega)]) (fun j => by rw [e257, up2_ne (by omega)]) (fun j => by rw [e257, up2_ne (by omega)])
                      have kcb : ∀ j : Nat, (j : Int) < v265.toInt → m254 136 j = m254 130 j := fun j hj => by rw [e257]; exact (if q : j = (y137.toInt).toNat then (by rw [q, up2_f, up2_ne (by omega)]; exact k129) else (by rw [up2_ne (fun z => q z.2), up2_ne (by omega)]; exact kc j (by omega)))
                      exact ih144 v265 m254 n139 (by first | omega | assumption | exact (iv_rng _).2 | exact (iv_rng _).1 | decide) (by first | omega | assumption | exact (iv_rng _).2 | exact (iv_rng _).1 | decide) ksb (by first | omega | assumption | (show (m254 123 16).toInt ≤ 179; omega) | decide) (by first | omega | assumption | (show (m254 123 20).toInt = (m254 123 18).toInt; omega) | decide) kcb (by first | omega | assumption | (show (m254 123 11).toInt = 0; omega) | decide) I255 K256 (by omega)
                have z268 : (0 : Int32).toInt = 0 := by decide
                have ks0 : SX m126 := SX_eq kG.1 (by rw [e129, e113, up2_ne (by omega), up2_ne (by omega)]) (by rw [e129, e113, up2_ne (by omega), up2_ne (by omega)]) (fun j => by rw [e129, e113, up2_ne (by omega), up2_ne (by omega)]) (fun j => by rw [e129, e113, up2_ne (by omega), up2_ne (by omega)]) (fun j => by rw [e129, e113, up2_ne (by omega), up2_ne (by omega)]) (fun j => by rw [e129, e113, up2_ne (by omega), up2_ne (by omega)])
                exact lp143 (((180 - 0) : Int).toNat + 1) 0 m126 n68 (by first | omega | assumption | exact (iv_rng _).2 | exact (iv_rng _).1 | decide) (by first | omega | assumption | exact (iv_rng _).2 | exact (iv_rng _).1 | decide) ks0 (by first | omega | assumption | (show (m126 123 16).toInt ≤ 179; omega) | decide) (by first | omega | assumption | (show (m126 123 20).toInt = (m126 123 18).toInt; omega) | decide) (fun j hj => by omega) (by first | omega | assumption | (show (m126 123 11).toInt = 0; omega) | decide) I127 K128 (by omega)
              · have c121 := iv_eq (X := y66.toInt) (Y := 0) c121 rfl (by decide)
                omega
            · have c109 := iv_nle (X := v108.toInt) (Y := v107.toInt) c109 rfl rfl
              refine pv_aload_n (M := mX12_law) 0 dX12_law_61 62 rfl rfl rfl ?_
              refine pv_bipush (M := mX12_law) (v := 59) dX12_law_62 64 rfl (by decide) ?_
              have z270 : (59 : Int32).toInt = 59 := by decide
              refine pv_callv (M := mX12_law) (as := [.int 59]) (st := []) (kc2 := 0) (ks2 := 0) dX12_law_64 wd1488 YX12_takes ⟨wd1490, wd76⟩ (mk_get (tl123 hT)) rfl rfl (s_X12_takes g hT I69 59 (by decide) (by decide) (by first | omega | assumption | exact (iv_rng _).2 | exact (iv_rng _).1 | decide)) rfl rfl (Nat.le_of_ble_eq_true rfl) (by decide) rfl rfl 67 rfl (fun rv h1 q271 => ?_)
              obtain ⟨m272, n273, v276, rfl, rfl, I274, K275, pv276, qv276, rv276⟩ := q271
              replace rv276 : (v276.toInt = 0 ∨ (m272 123 12).toInt = (m67 123 12).toInt + 1) ∧ (m67 123 12).toInt ≤ (m272 123 12).toInt ∧ (m272 123 12).toInt ≤ (m272 123 13).toInt ∧ (m272 123 13).toInt = (m67 123 13).toInt := rv276
              have K275c := K275
              have w277 : (m272 123 13).toInt = (m67 123 13).toInt := congrArg Int32.toInt (K275 123 13 rfl)
              have w278 : (m272 123 16).toInt = (m67 123 16).toInt := congrArg Int32.toInt (K275 123 16 rfl)
              have w279 : (m272 123 17).toInt = (m67 123 17).toInt := congrArg Int32.toInt (K275 123 17 rfl)
              have w280 : (m272 123 18).toInt = (m67 123 18).toInt := congrArg Int32.toInt (K275 123 18 rfl)
              have w281 : (m272 123 20).toInt = (m67 123 20).toInt := congrArg Int32.toInt (K275 123 20 rfl)
              have w282 : (m272 123 11).toInt = (m67 123 11).toInt := congrArg Int32.toInt (K275 123 11 rfl)
              have K275 := K70.trans (K275.sub (wl_sub (by decide)))
              show PV _ _ _ _ _ _ _ 67 [.ref 123, .int x0, .int y66, pv_U] [.int v276] _
              have kl2 : LX m272 := LX_eq kl (K275c 123 20 rfl) (fun j => K275c 136 j rfl) (fun j => K275c 138 j rfl) (fun j => K275c 139 j rfl) (fun j => K275c 140 j rfl)
              have kT : SX m272 := SX_eq kG.1 (K275c 123 18 rfl) (K275c 123 16 rfl) (fun j => K275c 130 j rfl) (fun j => K275c 133 j rfl) (fun j => K275c 134 j rfl) (fun j => K275c 135 j rfl)
              have klx : LX m272 := kl2
              refine pv_if_eq (M := mX12_law) (tgt := 81) dX12_law_67 70 rfl (by decide) (fun c286 => ?_) (fun c286 => ?_)
              · have c286 := iv_eq (X := v276.toInt) (Y := 0) c286 rfl (by decide)
                refine pv_iconst (M := mX12_law) (v := 0) dX12_law_81 82 rfl (by decide) ?_
                refine pv_istore_n (M := mX12_law) 2 (lo2 := [.ref 123, .int x0, .int 0, pv_U]) dX12_law_82 83 rfl rfl (by decide) rfl rfl ?_
                refine pv_goto (M := mX12_law) (tgt := 46) dX12_law_83 (by decide) ?_
                have z287 : (0 : Int32).toInt = 0 := by decide
                have klb := klx
                have kub : 0 ≤ (m272 123 12).toInt := (I274 123 12).1
                have kgb : ((0 : Int32)).toInt ≠ 0 → SX m272 ∧ (m272 123 16).toInt ≤ (m272 123 12).toInt ∧ (m272 123 12).toInt ≤ (m272 123 13).toInt := fun q => by first | omega | (have z := kR.resolve_left (by omega); exact ⟨z.1, z.2.1, z.2.2.2.1⟩)
                have kmm : 0 = 0 ∨ (m67 123 12).toInt + 1 ≤ (m272 123 12).toInt := by first | omega | (have z := kR.resolve_left (by omega); have z2 := z.2.2.1; omega)
                exact ih73 0 m272 n273 (by first | omega | assumption | exact (iv_rng _).2 | exact (iv_rng _).1 | decide) (by first | omega | assumption | exact (iv_rng _).2 | exact (iv_rng _).1 | decide) klb kgb (by first | omega | assumption | (show (m272 123 11).toInt = (m 123 11).toInt; omega) | decide) I274 K275 (by omega)
              · have c286 := iv_ne (X := v276.toInt) (Y := 0) c286 rfl (by decide)
                refine pv_aload_n (M := mX12_law) 0 dX12_law_70 71 rfl rfl rfl ?_
                refine pv_callv (M := mX12_law) (as := []) (st := []) (kc2 := 0) (ks2 := 0) dX12_law_71 wd1413 YX12_readsClause ⟨wd1415, wd59⟩ (mk_get (tl123 hT)) rfl rfl (s_X12_readsClause g hT I274 (by omega) (by omega) kT) rfl rfl (Nat.le_of_ble_eq_true rfl) (by decide) rfl rfl 74 rfl (fun rv h1 q292 => ?_)
                obtain ⟨m293, n294, v297, rfl, rfl, I295, K296, pv297, qv297, rv297⟩ := q292
                replace rv297 : v297.toInt = 0 ∨ (SX m293 ∧ (m293 123 16).toInt ≤ (m293 123 12).toInt ∧ (m272 123 12).toInt + 1 ≤ (m293 123 12).toInt ∧ (m293 123 12).toInt ≤ (m293 123 13).toInt ∧ (m293 123 13).toInt = (m272 123 13).toInt) := rv297
                have K296c := K296
                have w298 : (m293 123 13).toInt = (m272 123 13).toInt := congrArg Int32.toInt (K296 123 13 rfl)
                have w299 : (m293 123 20).toInt = (m272 123 20).toInt := congrArg Int32.toInt (K296 123 20 rfl)
                have w300 : (m293 123 11).toInt = (m272 123 11).toInt := congrArg Int32.toInt (K296 123 11 rfl)
                have K296 := K275.trans (K296.sub (wl_sub (by decide)))
                show PV _ _ _ _ _ _ _ 74 [.ref 123, .int x0, .int y66, pv_U] [.int v297] _
                have kR := rv297
                have klx : LX m293 := LX_eq kl2 (K296c 123 20 rfl) (fun j => K296c 136 j rfl) (fun j => K296c 138 j rfl) (fun j => K296c 139 j rfl) (fun j => K296c 140 j rfl)
                refine pv_if_eq (M := mX12_law) (tgt := 81) dX12_law_74 77 rfl (by decide) (fun c303 => ?_) (fun c303 => ?_)
                · have c303 := iv_eq (X := v297.toInt) (Y := 0) c303 rfl (by decide)
                  refine pv_iconst (M := mX12_law) (v := 0) dX12_law_81 82 rfl (by decide) ?_
                  refine pv_istore_n (M := mX12_law) 2 (lo2 := [.ref 123, .int x0, .int 0, pv_U]) dX12_law_82 83 rfl rfl (by decide) rfl rfl ?_
                  refine pv_goto (M := mX12_law) (tgt := 46) dX12_law_83 (by decide) ?_
                  have z304 : (0 : Int32).toInt = 0 := by decide
                  have klb := klx
                  have kub : 0 ≤ (m293 123 12).toInt := (I295 123 12).1
                  have kgb : ((0 : Int32)).toInt ≠ 0 → SX m293 ∧ (m293 123 16).toInt ≤ (m293 123 12).toInt ∧ (m293 123 12).toInt ≤ (m293 123 13).toInt := fun q => by first | omega | (have z := kR.resolve_left (by omega); exact ⟨z.1, z.2.1, z.2.2.2.1⟩)
                  have kmm : 0 = 0 ∨ (m67 123 12).toInt + 1 ≤ (m293 123 12).toInt := by first | omega | (have z := kR.resolve_left (by omega); have z2 := z.2.2.1; omega)
                  exact ih73 0 m293 n294 (by first | omega | assumption | exact (iv_rng _).2 | exact (iv_rng _).1 | decide) (by first | omega | assumption | exact (iv_rng _).2 | exact (iv_rng _).1 | decide) klb kgb (by first | omega | assumption | (show (m293 123 11).toInt = (m 123 11).toInt; omega) | decide) I295 K296 (by omega)
                · have c303 := iv_ne (X := v297.toInt) (Y := 0) c303 rfl (by decide)
                  refine pv_iconst (M := mX12_law) (v := 1) dX12_law_77 78 rfl (by decide) ?_
                  refine pv_goto (M := mX12_law) (tgt := 82) dX12_law_78 (by decide) ?_
                  refine pv_istore_n (M := mX12_law) 2 (lo2 := [.ref 123, .int x0, .int 1, pv_U]) dX12_law_82 83 rfl rfl (by decide) rfl rfl ?_
                  refine pv_goto (M := mX12_law) (tgt := 46) dX12_law_83 (by decide) ?_
                  have z309 : (1 : Int32).toInt = 1 := by decide
                  have klb := klx
                  have kub : 0 ≤ (m293 123 12).toInt := (I295 123 12).1
                  have kgb : ((1 : Int32)).toInt ≠ 0 → SX m293 ∧ (m293 123 16).toInt ≤ (m293 123 12).toInt ∧ (m293 123 12).toInt ≤ (m293 123 13).toInt := fun q => by first | omega | (have z := kR.resolve_left (by omega); exact ⟨z.1, z.2.1, z.2.2.2.1⟩)
                  have kmm : 1 = 0 ∨ (m67 123 12).toInt + 1 ≤ (m293 123 12).toInt := by first | omega | (have z := kR.resolve_left (by omega); have z2 := z.2.2.1; omega)
                  exact ih73 1 m293 n294 (by first | omega | assumption | exact (iv_rng _).2 | exact (iv_rng _).1 | decide) (by first | omega | assumption | exact (iv_rng _).2 | exact (iv_rng _).1 | decide) klb kgb (by first | omega | assumption | (show (m293 123 11).toInt = (m 123 11).toInt; omega) | decide) I295 K296 (by omega)
      exact lp72 (((400 * v59.toInt + (160 - (m55 123 12).toInt)) : Int).toNat + 1) v59 m55 n56 (by first | omega | assumption | exact (iv_rng _).2 | exact (iv_rng _).1 | decide) (by first | omega | assumption | exact (iv_rng _).2 | exact (iv_rng _).1 | decide) kl0 kg0 (by first | omega | assumption | (show (m55 123 11).toInt = (m 123 11).toInt; omega) | decide) I57 K58 (by omega)
    · have c8 := iv_nle (X := x0.toInt) (Y := v7.toInt) c8 rfl rfl
      refine pv_iconst (M := mX12_law) (v := (-1)) dX12_law_19 20 rfl (by decide) ?_
      have z314 : ((-1) : Int32).toInt = (-1) := by decide
      exact pv_iret (M := mX12_law) dX12_law_20 rfl rfl ⟨_, _, _, rfl, rfl, I, Kp, by decide, by decide, ⟨hp0, (by first | exact Or.inr ⟨by omega, by omega⟩ | exact Or.inl ⟨by omega, by omega, by omega, by first | omega | decide⟩)⟩⟩

set_option maxHeartbeats 2000000 in
set_option maxRecDepth 20000 in
theorem s_X11_check_vx (g : pv_G) {T : List mv_T} {m : Nat → Nat → Int32} {n : Nat → Nat → Int64} {r : Nat → Value} {la lb : Nat} (hT : TX T) (I : IV BB m) (R : RX T r la lb) (x0 : Int32) (x1 : Int32) : PM g mX11_check yX11_check (sqI T BB (wl [(1, 1, some 1)]) r m (-2147483648) 2147483647 (fun m' v => CKK x0.toInt x1.toInt (m 0 2).toInt (m 1 1).toInt (m' 1 1).toInt)) 2 0 0 [.ref 0, .int x0, .int x1] (mk T m n r) := by
  have Kp : fr (wl [(1, 1, some 1)]) m m := fr.rf
  have R0 := R
  have zR := R.2.2.2.2.1.1
  have zR2 := R.2.2.2.2.2.1
  have z64 : 0 ≤ (m 1 1).toInt ∧ (m 1 1).toInt ≤ 200 := I 1 1
  have z65 : 0 ≤ (m 0 2).toInt ∧ (m 0 2).toInt ≤ 8 := I 0 2
  refine PM.of 2 (lo := [.ref 0, .int x0, .int x1, pv_U, pv_U]) rfl (by decide) rfl rfl (Nat.le_of_ble_eq_true rfl) ?_
  refine pv_aload_n (M := mX11_check) 0 dX11_check_0 1 rfl rfl rfl ?_
  refine pv_iload_n (M := mX11_check) 1 dX11_check_1 2 rfl rfl rfl ?_
  refine pv_callv (M := mX11_check) (as := [.int x0]) (st := []) (kc2 := 0) (ks2 := 0) dX11_check_2 wd700 YX11_isBlank ⟨wd702, wd16⟩ (mk_get (tl0 hT)) rfl rfl (s_X11_isBlank_vx g hT I R x0) rfl rfl (Nat.le_of_ble_eq_true rfl) (by decide) rfl rfl 5 rfl (fun rv h1 q1 => ?_)
  obtain ⟨v2, rfl, rfl, pv2, qv2, rv2⟩ := q1
  replace rv2 : (v2 = 0 ∨ (0 ≤ x0.toInt ∧ x0.toInt ≤ 7)) ∧ ((v2.toInt = 1 ∧ 0 ≤ x0.toInt ∧ x0.toInt < (m 0 2).toInt) ∨ (v2.toInt = 0 ∧ (x0.toInt < 0 ∨ (m 0 2).toInt ≤ x0.toInt))) := rv2
  show PV _ _ _ _ _ _ _ 5 [.ref 0, .int x0, .int x1, pv_U, pv_U] [.int v2] _
  have kB := rv2.2
  refine pv_if_eq (M := mX11_check) (tgt := 25) dX11_check_5 8 rfl (by decide) (fun c4 => ?_) (fun c4 => ?_)
  · have c4 := iv_eq (X := v2.toInt) (Y := 0) c4 rfl (by decide)
    refine pv_bipush (M := mX11_check) (v := (-2)) dX11_check_25 27 rfl (by decide) ?_
    have z5 : ((-2) : Int32).toInt = (-2) := by decide
    exact pv_iret (M := mX11_check) dX11_check_27 rfl rfl ⟨_, _, _, rfl, rfl, I, Kp, by decide, by decide, (by first | exact Or.inr ⟨by omega, by first | omega | rfl⟩ | exact Or.inl ⟨by omega, by omega, by omega, by omega, by first | omega | decide⟩)⟩
  · have pc4 := rv2.1.resolve_left c4
    have c4 := iv_ne (X := v2.toInt) (Y := 0) c4 rfl (by decide)
    refine pv_iload_n (M := mX11_check) 2 dX11_check_8 9 rfl rfl rfl ?_
    refine pv_if_lt (M := mX11_check) (tgt := 25) dX11_check_9 12 rfl (by decide) (fun c6 => ?_) (fun c6 => ?_)
    · have c6 := iv_lt (X := x1.toInt) (Y := 0) c6 rfl (by decide)
      refine pv_bipush (M := mX11_check) (v := (-2)) dX11_check_25 27 rfl (by decide) ?_
      have z7 : ((-2) : Int32).toInt = (-2) := by decide
      exact pv_iret (M := mX11_check) dX11_check_27 rfl rfl ⟨_, _, _, rfl, rfl, I, Kp, by decide, by decide, (by first | exact Or.inr ⟨by omega, by first | omega | rfl⟩ | exact Or.inl ⟨by omega, by omega, by omega, by omega, by first | omega | decide⟩)⟩
    · have c6 := iv_nlt (X := x1.toInt) (Y := 0) c6 rfl (by decide)
      refine pv_iload_n (M := mX11_check) 2 dX11_check_12 13 rfl rfl rfl ?_
      refine pv_aload_n (M := mX11_check) 0 dX11_check_13 14 rfl rfl rfl ?_
      refine mv_get (M := mX11_check) (v := .ref 1) dX11_check_14 FX11 0 wd407 (by decide) (tl0 hT) rfl rfl 17 rfl ?_
      refine iv_get (M := mX11_check) (l1 := 0) (l2 := 200) dX11_check_17 FX10 1 wd164 (by decide) (tl1 hT) rfl I rfl 20 rfl (fun v8 ev8 pv8 qv8 => ?_)
      have wv8 : v8.toInt = (m 1 1).toInt := congrArg Int32.toInt ev8
      refine pv_iconst (M := mX11_check) (v := 4) dX11_check_20 21 rfl (by decide) ?_
      refine iv_idiv (M := mX11_check) (X := v8.toInt) (Y := 4) dX11_check_21 22 rfl rfl (by decide) (by omega) (by omega) (fun v9 ev9 => ?_)
      refine pv_icmp_le (M := mX11_check) (tgt := 28) dX11_check_22 25 rfl (by decide) (fun c10 => ?_) (fun c10 => ?_)
      · have c10 := iv_le (X := x1.toInt) (Y := v9.toInt) c10 rfl rfl
        refine pv_aload_n (M := mX11_check) 0 dX11_check_28 29 rfl rfl rfl ?_
        refine mv_get (M := mX11_check) (v := .ref 3) dX11_check_29 FX11 1 wd408 (by decide) (tl0 hT) rfl rfl 32 rfl ?_
        refine pv_iload_n (M := mX11_check) 1 dX11_check_32 33 rfl rfl rfl ?_
        refine iv_qblank (M := mX11_check) (X := x0.toInt) dX11_check_33 hT R rfl (by omega) (by omega) 34 rfl (fun b11 eb11 hb11 => ?_)
        have zb11 := hb11.2.2.2.2.2.2.2
        refine mv_get (M := mX11_check) (v := .ref (b11 + 3)) dX11_check_34 FX0 1 wd210 (by decide) hb11.1 rfl rfl 37 rfl ?_
        refine pv_astore_n (M := mX11_check) 3 (lo2 := [.ref 0, .int x0, .int x1, .ref (b11 + 3), pv_U]) dX11_check_37 38 rfl rfl (by decide) rfl rfl ?_
        refine pv_iconst (M := mX11_check) (v := 0) dX11_check_38 39 rfl (by decide) ?_
        refine pv_istore (M := mX11_check) (lo2 := [.ref 0, .int x0, .int x1, .ref (b11 + 3), .int 0]) dX11_check_39 41 rfl (by decide) rfl rfl ?_
        have lp18 : ∀ (fuel17 : Nat) (y12 : Int32), (0 ≤ y12.toInt) → (y12.toInt ≤ 40) → ((40 - y12.toInt) : Int).toNat < fuel17 → PV none g mX11_check (sqI T BB (wl [(1, 1, some 1)]) r m (-2147483648) 2147483647 (fun m' v => CKK x0.toInt x1.toInt (m 0 2).toInt (m 1 1).toInt (m' 1 1).toInt)) 2 0 0 41 [.ref 0, .int x0, .int x1, .ref (b11 + 3), .int y12] [] (mk T m n r) := by
          intro fuel17
          induction fuel17 with
          | zero => intro y12 b20 b21 z22; omega
          | succ fuel17 ih19 =>
            intro y12 b20 b21 z22
            refine pv_iload (M := mX11_check) dX11_check_41 43 rfl rfl ?_
            refine pv_iload_n (M := mX11_check) 2 dX11_check_43 44 rfl rfl rfl ?_
            refine pv_icmp_ge (M := mX11_check) (tgt := 80) dX11_check_44 47 rfl (by decide) (fun c23 => ?_) (fun c23 => ?_)
            · have c23 := iv_le (X := x1.toInt) (Y := y12.toInt) c23 rfl rfl
              refine pv_aload_n (M := mX11_check) 0 dX11_check_80 81 rfl rfl rfl ?_
              refine mv_get (M := mX11_check) (v := .ref 1) dX11_check_81 FX11 0 wd407 (by decide) (tl0 hT) rfl rfl 84 rfl ?_
              refine pv_iconst (M := mX11_check) (v := 0) dX11_check_84 85 rfl (by decide) ?_
              refine iv_put (M := mX11_check) (l1 := 0) (l2 := 200) dX11_check_85 FX10 1 wd164 (by decide) rfl (tl1 hT) rfl rfl rfl I rfl (by decide) (by decide) 88 rfl (fun m24 e27 I25 => ?_)
              have K26 := Kp.set e27 rfl
              have w28 : (m24 1 1).toInt = 0 := by rw [e27, up2_eq] <;> rfl
              have w29 : (m24 0 2).toInt = (m 0 2).toInt := by rw [e27, up2_ne (by omega)]
              refine pv_iload (M := mX11_check) dX11_check_88 90 rfl rfl ?_
              refine pv_iload_n (M := mX11_check) 2 dX11_check_90 91 rfl rfl rfl ?_
              refine pv_icmp_ne (M := mX11_check) (tgt := 107) dX11_check_91 94 rfl (by decide) (fun c30 => ?_) (fun c30 => ?_)
              · have c30 := iv_ne (X := y12.toInt) (Y := x1.toInt) c30 rfl rfl
                refine pv_iload (M := mX11_check) dX11_check_107 109 rfl rfl ?_
                exact pv_iret (M := mX11_check) dX11_check_109 rfl rfl ⟨_, _, _, rfl, rfl, I25, K26, (iv_rng y12).1, (iv_rng y12).2, (by first | exact Or.inr ⟨by omega, by first | omega | rfl⟩ | exact Or.inl ⟨by omega, by omega, by omega, by omega, by first | omega | decide⟩)⟩
              · have c30 := iv_eq (X := y12.toInt) (Y := x1.toInt) c30 rfl rfl
                refine pv_iload (M := mX11_check) dX11_check_94 96 rfl rfl ?_
                refine pv_aload_n (M := mX11_check) 3 dX11_check_96 97 rfl rfl rfl ?_
                refine iv_get (M := mX11_check) (l1 := 0) (l2 := 40) dX11_check_97 FX8 1 wd200 (by decide) hb11.2.2.1.1 rfl I25 hb11.2.2.1.2.2.1 100 rfl (fun v31 ev31 pv31 qv31 => ?_)
                refine pv_icmp_ne (M := mX11_check) (tgt := 107) dX11_check_100 103 rfl (by decide) (fun c32 => ?_) (fun c32 => ?_)
                · have c32 := iv_ne (X := y12.toInt) (Y := v31.toInt) c32 rfl rfl
                  refine pv_iload (M := mX11_check) dX11_check_107 109 rfl rfl ?_
                  exact pv_iret (M := mX11_check) dX11_check_109 rfl rfl ⟨_, _, _, rfl, rfl, I25, K26, (iv_rng y12).1, (iv_rng y12).2, (by first | exact Or.inr ⟨by omega, by first | omega | rfl⟩ | exact Or.inl ⟨by omega, by omega, by omega, by omega, by first | omega | decide⟩)⟩
                · have c32 := iv_eq (X := y12.toInt) (Y := v31.toInt) c32 rfl rfl
                  refine pv_iconst (M := mX11_check) (v := (-1)) dX11_check_103 104 rfl (by decide) ?_
                  refine pv_goto (M := mX11_check) (tgt := 109) dX11_check_104 (by decide) ?_
                  have z33 : ((-1) : Int32).toInt = (-1) := by decide
                  exact pv_iret (M := mX11_check) dX11_check_109 rfl rfl ⟨_, _, _, rfl, rfl, I25, K26, by decide, by decide, (by first | exact Or.inr ⟨by omega, by first | omega | rfl⟩ | exact Or.inl ⟨by omega, by omega, by omega, by omega, by first | omega | decide⟩)⟩
            · have c23 := iv_nle (X := x1.toInt) (Y := y12.toInt) c23 rfl rfl
              refine pv_iload (M := mX11_check) dX11_check_47 49 rfl rfl ?_
              refine pv_aload_n (M := mX11_check) 3 dX11_check_49 50 rfl rfl rfl ?_
              refine iv_get (M := mX11_check) (l1 := 0) (l2 := 40) dX11_check_50 FX8 1 wd200 (by decide) hb11.2.2.1.1 rfl I hb11.2.2.1.2.2.1 53 rfl (fun v34 ev34 pv34 qv34 => ?_)
              refine pv_icmp_ge (M := mX11_check) (tgt := 80) dX11_check_53 56 rfl (by decide) (fun c35 => ?_) (fun c35 => ?_)
              · have c35 := iv_le (X := v34.toInt) (Y := y12.toInt) c35 rfl rfl
                refine pv_aload_n (M := mX11_check) 0 dX11_check_80 81 rfl rfl rfl ?_
                refine mv_get (M := mX11_check) (v := .ref 1) dX11_check_81 FX11 0 wd407 (by decide) (tl0 hT) rfl rfl 84 rfl ?_
                refine pv_iconst (M := mX11_check) (v := 0) dX11_check_84 85 rfl (by decide) ?_
                refine iv_put (M := mX11_check) (l1 := 0) (l2 := 200) dX11_check_85 FX10 1 wd164 (by decide) rfl (tl1 hT) rfl rfl rfl I rfl (by decide) (by decide) 88 rfl (fun m36 e39 I37 => ?_)
                have K38 := Kp.set e39 rfl
                have w40 : (m36 1 1).toInt = 0 := by rw [e39, up2_eq] <;> rfl
                have w41 : (m36 0 2).toInt = (m 0 2).toInt := by rw [e39, up2_ne (by omega)]
                refine pv_iload (M := mX11_check) dX11_check_88 90 rfl rfl ?_
                refine pv_iload_n (M := mX11_check) 2 dX11_check_90 91 rfl rfl rfl ?_
                refine pv_icmp_ne (M := mX11_check) (tgt := 107) dX11_check_91 94 rfl (by decide) (fun c42 => ?_) (fun c42 => ?_)
                · have c42 := iv_ne (X := y12.toInt) (Y := x1.toInt) c42 rfl rfl
                  refine pv_iload (M := mX11_check) dX11_check_107 109 rfl rfl ?_
                  exact pv_iret (M := mX11_check) dX11_check_109 rfl rfl ⟨_, _, _, rfl, rfl, I37, K38, (iv_rng y12).1, (iv_rng y12).2, (by first | exact Or.inr ⟨by omega, by first | omega | rfl⟩ | exact Or.inl ⟨by omega, by omega, by omega, by omega, by first | omega | decide⟩)⟩
                · have c42 := iv_eq (X := y12.toInt) (Y := x1.toInt) c42 rfl rfl
                  refine pv_iload (M := mX11_check) dX11_check_94 96 rfl rfl ?_
                  refine pv_aload_n (M := mX11_check) 3 dX11_check_96 97 rfl rfl rfl ?_
                  refine iv_get (M := mX11_check) (l1 := 0) (l2 := 40) dX11_check_97 FX8 1 wd200 (by decide) hb11.2.2.1.1 rfl I37 hb11.2.2.1.2.2.1 100 rfl (fun v43 ev43 pv43 qv43 => ?_)
                  refine pv_icmp_ne (M := mX11_check) (tgt := 107) dX11_check_100 103 rfl (by decide) (fun c44 => ?_) (fun c44 => ?_)
                  · have c44 := iv_ne (X := y12.toInt) (Y := v43.toInt) c44 rfl rfl
                    refine pv_iload (M := mX11_check) dX11_check_107 109 rfl rfl ?_
                    exact pv_iret (M := mX11_check) dX11_check_109 rfl rfl ⟨_, _, _, rfl, rfl, I37, K38, (iv_rng y12).1, (iv_rng y12).2, (by first | exact Or.inr ⟨by omega, by first | omega | rfl⟩ | exact Or.inl ⟨by omega, by omega, by omega, by omega, by first | omega | decide⟩)⟩
                  · have c44 := iv_eq (X := y12.toInt) (Y := v43.toInt) c44 rfl rfl
                    refine pv_iconst (M := mX11_check) (v := (-1)) dX11_check_103 104 rfl (by decide) ?_
                    refine pv_goto (M := mX11_check) (tgt := 109) dX11_check_104 (by decide) ?_
                    have z45 : ((-1) : Int32).toInt = (-1) := by decide
                    exact pv_iret (M := mX11_check) dX11_check_109 rfl rfl ⟨_, _, _, rfl, rfl, I37, K38, by decide, by decide, (by first | exact Or.inr ⟨by omega, by first | omega | rfl⟩ | exact Or.inl ⟨by omega, by omega, by omega, by omega, by first | omega | decide⟩)⟩
              · have c35 := iv_nle (X := v34.toInt) (Y := y12.toInt) c35 rfl rfl
                refine pv_aload_n (M := mX11_check) 0 dX11_check_56 57 rfl rfl rfl ?_
                refine mv_get (M := mX11_check) (v := .ref 1) dX11_check_57 FX11 0 wd407 (by decide) (tl0 hT) rfl rfl 60 rfl ?_
                refine pv_iload (M := mX11_check) dX11_check_60 62 rfl rfl ?_
                refine pv_callv (M := mX11_check) (as := [.int y12]) (st := []) (kc2 := 0) (ks2 := 0) dX11_check_62 wd1155 YX10_numberAt ⟨wd1156, wd1157⟩ (mk_get (tl1 hT)) rfl rfl (s_X10_numberAt g hT I y12) rfl rfl (Nat.le_of_ble_eq_true rfl) (by decide) rfl rfl 65 rfl (fun rv h1 q46 => ?_)
                obtain ⟨v47, rfl, rfl, pv47, qv47, rv47⟩ := q46
                show PV _ _ _ _ _ _ _ 65 [.ref 0, .int x0, .int x1, .ref (b11 + 3), .int y12] [.int v47] _
                refine pv_aload_n (M := mX11_check) 3 dX11_check_65 66 rfl rfl rfl ?_
                refine pv_iload (M := mX11_check) dX11_check_66 68 rfl rfl ?_
                refine pv_callv (M := mX11_check) (as := [.int y12]) (st := [.int v47]) (kc2 := 0) (ks2 := 0) dX11_check_68 wd704 YX8_at ⟨wd705, wd706⟩ (mk_get hb11.2.2.1.1) rfl rfl (s_X8_at g hT I (b11 + 3) 40 hb11.2.2.1 y12) rfl rfl (Nat.le_of_ble_eq_true rfl) (by decide) rfl rfl 71 rfl (fun rv h1 q48 => ?_)
                obtain ⟨v49, rfl, rfl, pv49, qv49, rv49⟩ := q48
                replace rv49 : v49.toInt = atv m (b11 + 3) y12.toInt := rv49
                show PV _ _ _ _ _ _ _ 71 [.ref 0, .int x0, .int x1, .ref (b11 + 3), .int y12] [.int v49, .int v47] _
                refine pv_icmp_ne (M := mX11_check) (tgt := 80) dX11_check_71 74 rfl (by decide) (fun c50 => ?_) (fun c50 => ?_)
                · have c50 := iv_ne (X := v47.toInt) (Y := v49.toInt) c50 rfl rfl
                  refine pv_aload_n (M := mX11_check) 0 dX11_check_80 81 rfl rfl rfl ?_
                  refine mv_get (M := mX11_check) (v := .ref 1) dX11_check_81 FX11 0 wd407 (by decide) (tl0 hT) rfl rfl 84 rfl ?_
                  refine pv_iconst (M := mX11_check) (v := 0) dX11_check_84 85 rfl (by decide) ?_
                  refine iv_put (M := mX11_check) (l1 := 0) (l2 := 200) dX11_check_85 FX10 1 wd164 (by decide) rfl (tl1 hT) rfl rfl rfl I rfl (by decide) (by decide) 88 rfl (fun m51 e54 I52 => ?_)
                  have K53 := Kp.set e54 rfl
                  have w55 : (m51 1 1).toInt = 0 := by rw [e54, up2_eq] <;> rfl
                  have w56 : (m51 0 2).toInt = (m 0 2).toInt := by rw [e54, up2_ne (by omega)]
                  refine pv_iload (M := mX11_check) dX11_check_88 90 rfl rfl ?_
                  refine pv_iload_n (M := mX11_check) 2 dX11_check_90 91 rfl rfl rfl ?_
                  refine pv_icmp_ne (M := mX11_check) (tgt := 107) dX11_check_91 94 rfl (by decide) (fun c57 => ?_) (fun c57 => ?_)
                  · have c57 := iv_ne (X := y12.toInt) (Y := x1.toInt) c57 rfl rfl
                    refine pv_iload (M := mX11_check) dX11_check_107 109 rfl rfl ?_
                    exact pv_iret (M := mX11_check) dX11_check_109 rfl rfl ⟨_, _, _, rfl, rfl, I52, K53, (iv_rng y12).1, (iv_rng y12).2, (by first | exact Or.inr ⟨by omega, by first | omega | rfl⟩ | exact Or.inl ⟨by omega, by omega, by omega, by omega, by first | omega | decide⟩)⟩
                  · have c57 := iv_eq (X := y12.toInt) (Y := x1.toInt) c57 rfl rfl
                    refine pv_iload (M := mX11_check) dX11_check_94 96 rfl rfl ?_
                    refine pv_aload_n (M := mX11_check) 3 dX11_check_96 97 rfl rfl rfl ?_
                    refine iv_get (M := mX11_check) (l1 := 0) (l2 := 40) dX11_check_97 FX8 1 wd200 (by decide) hb11.2.2.1.1 rfl I52 hb11.2.2.1.2.2.1 100 rfl (fun v58 ev58 pv58 qv58 => ?_)
                    refine pv_icmp_ne (M := mX11_check) (tgt := 107) dX11_check_100 103 rfl (by decide) (fun c59 => ?_) (fun c59 => ?_)
                    · have c59 := iv_ne (X := y12.toInt) (Y := v58.toInt) c59 rfl rfl
                      refine pv_iload (M := mX11_check) dX11_check_107 109 rfl rfl ?_
                      exact pv_iret (M := mX11_check) dX11_check_109 rfl rfl ⟨_, _, _, rfl, rfl, I52, K53, (iv_rng y12).1, (iv_rng y12).2, (by first | exact Or.inr ⟨by omega, by first | omega | rfl⟩ | exact Or.inl ⟨by omega, by omega, by omega, by omega, by first | omega | decide⟩)⟩
                    · have c59 := iv_eq (X := y12.toInt) (Y := v58.toInt) c59 rfl rfl
                      refine pv_iconst (M := mX11_check) (v := (-1)) dX11_check_103 104 rfl (by decide) ?_
                      refine pv_goto (M := mX11_check) (tgt := 109) dX11_check_104 (by decide) ?_
                      have z60 : ((-1) : Int32).toInt = (-1) := by decide
                      exact pv_iret (M := mX11_check) dX11_check_109 rfl rfl ⟨_, _, _, rfl, rfl, I52, K53, by decide, by decide, (by first | exact Or.inr ⟨by omega, by first | omega | rfl⟩ | exact Or.inl ⟨by omega, by omega, by omega, by omega, by first | omega | decide⟩)⟩
                · have c50 := iv_eq (X := v47.toInt) (Y := v49.toInt) c50 rfl rfl
                  refine iv_inc (M := mX11_check) (C := 1) dX11_check_74 77 rfl rfl (by decide) rfl rfl (by decide) (by omega) (by omega) (fun v61 ev61 => ?_)
                  show PV _ _ _ _ _ _ _ 77 [.ref 0, .int x0, .int x1, .ref (b11 + 3), .int v61] [] _
                  refine pv_goto (M := mX11_check) (tgt := 41) dX11_check_77 (by decide) ?_
                  exact ih19 v61 (by first | omega | assumption | exact (iv_rng _).2 | exact (iv_rng _).1 | decide) (by first | omega | assumption | exact (iv_rng _).2 | exact (iv_rng _).1 | decide) (by omega)
        have z62 : (0 : Int32).toInt = 0 := by decide
        exact lp18 (((40 - 0) : Int).toNat + 1) 0 (by first | omega | assumption | exact (iv_rng _).2 | exact (iv_rng _).1 | decide) (by first | omega | assumption | exact (iv_rng _).2 | exact (iv_rng _).1 | decide) (by omega)
      · have c10 := iv_nle (X := x1.toInt) (Y := v9.toInt) c10 rfl rfl
        refine pv_bipush (M := mX11_check) (v := (-2)) dX11_check_25 27 rfl (by decide) ?_
        have z63 : ((-2) : Int32).toInt = (-2) := by decide
        exact pv_iret (M := mX11_check) dX11_check_27 rfl rfl ⟨_, _, _, rfl, rfl, I, Kp, by decide, by decide, (by first | exact Or.inr ⟨by omega, by first | omega | rfl⟩ | exact Or.inl ⟨by omega, by omega, by omega, by omega, by first | omega | decide⟩)⟩

set_option maxHeartbeats 2000000 in
set_option maxRecDepth 20000 in
theorem s_X12_check_vx (g : pv_G) {T : List mv_T} {m : Nat → Nat → Int32} {n : Nat → Nat → Int64} {r : Nat → Value} (hT : TX T) (I : IV BB m) (x0 : Int32) (x1 : Int32) : PM g mX12_check yX12_check (sqI T BB (wl [(123, 123, some 11), (123, 123, some 40), (149, 149, none)]) r m (-2147483648) 2147483647 (fun m' v => CKK x0.toInt x1.toInt (m 123 0).toInt (m 123 11).toInt (m' 123 11).toInt)) 2 0 0 [.ref 123, .int x0, .int x1] (mk T m n r) := by
  have Kp : fr (wl [(123, 123, some 11), (123, 123, some 40), (149, 149, none)]) m m := fr.rf
  have z54 : 0 ≤ (m 123 40).toInt ∧ (m 123 40).toInt ≤ 40 := I 123 40
  have z55 : 0 ≤ (m 123 0).toInt ∧ (m 123 0).toInt ≤ 8 := I 123 0
  have z56 : 0 ≤ (m 123 11).toInt ∧ (m 123 11).toInt ≤ 200 := I 123 11
  refine PM.of 1 (lo := [.ref 123, .int x0, .int x1, pv_U]) rfl (by decide) rfl rfl (Nat.le_of_ble_eq_true rfl) ?_
  refine pv_aload_n (M := mX12_check) 0 dX12_check_0 1 rfl rfl rfl ?_
  refine pv_iload_n (M := mX12_check) 1 dX12_check_1 2 rfl rfl rfl ?_
  refine pv_callv (M := mX12_check) (as := [.int x0]) (st := []) (kc2 := 0) (ks2 := 0) dX12_check_2 wd1389 YX12_isBlank ⟨wd1391, wd55⟩ (mk_get (tl123 hT)) rfl rfl (s_X12_isBlank_vx g hT I x0) rfl rfl (Nat.le_of_ble_eq_true rfl) (by decide) rfl rfl 5 rfl (fun rv h1 q1 => ?_)
  obtain ⟨v2, rfl, rfl, pv2, qv2, rv2⟩ := q1
  replace rv2 : (v2 = 0 ∨ (0 ≤ x0.toInt ∧ x0.toInt ≤ 7)) ∧ ((v2.toInt = 1 ∧ 0 ≤ x0.toInt ∧ x0.toInt < (m 123 0).toInt) ∨ (v2.toInt = 0 ∧ (x0.toInt < 0 ∨ (m 123 0).toInt ≤ x0.toInt))) := rv2
  show PV _ _ _ _ _ _ _ 5 [.ref 123, .int x0, .int x1, pv_U] [.int v2] _
  have kB := rv2.2
  refine pv_if_eq (M := mX12_check) (tgt := 22) dX12_check_5 8 rfl (by decide) (fun c4 => ?_) (fun c4 => ?_)
  · have c4 := iv_eq (X := v2.toInt) (Y := 0) c4 rfl (by decide)
    refine pv_bipush (M := mX12_check) (v := (-2)) dX12_check_22 24 rfl (by decide) ?_
    have z5 : ((-2) : Int32).toInt = (-2) := by decide
    exact pv_iret (M := mX12_check) dX12_check_24 rfl rfl ⟨_, _, _, rfl, rfl, I, Kp, by decide, by decide, (by first | exact Or.inr ⟨by omega, by first | omega | rfl⟩ | exact Or.inl ⟨by omega, by omega, by omega, by omega, by first | omega | decide⟩)⟩
  · have pc4 := rv2.1.resolve_left c4
    have c4 := iv_ne (X := v2.toInt) (Y := 0) c4 rfl (by decide)
    refine pv_iload_n (M := mX12_check) 2 dX12_check_8 9 rfl rfl rfl ?_
    refine pv_if_lt (M := mX12_check) (tgt := 22) dX12_check_9 12 rfl (by decide) (fun c6 => ?_) (fun c6 => ?_)
    · have c6 := iv_lt (X := x1.toInt) (Y := 0) c6 rfl (by decide)
      refine pv_bipush (M := mX12_check) (v := (-2)) dX12_check_22 24 rfl (by decide) ?_
      have z7 : ((-2) : Int32).toInt = (-2) := by decide
      exact pv_iret (M := mX12_check) dX12_check_24 rfl rfl ⟨_, _, _, rfl, rfl, I, Kp, by decide, by decide, (by first | exact Or.inr ⟨by omega, by first | omega | rfl⟩ | exact Or.inl ⟨by omega, by omega, by omega, by omega, by first | omega | decide⟩)⟩
    · have c6 := iv_nlt (X := x1.toInt) (Y := 0) c6 rfl (by decide)
      refine pv_iload_n (M := mX12_check) 2 dX12_check_12 13 rfl rfl rfl ?_
      refine pv_aload_n (M := mX12_check) 0 dX12_check_13 14 rfl rfl rfl ?_
      refine iv_get (M := mX12_check) (l1 := 0) (l2 := 200) dX12_check_14 FX12 11 wd1184 (by decide) (tl123 hT) rfl I rfl 17 rfl (fun v8 ev8 pv8 qv8 => ?_)
      have wv8 : v8.toInt = (m 123 11).toInt := congrArg Int32.toInt ev8
      refine pv_iconst (M := mX12_check) (v := 4) dX12_check_17 18 rfl (by decide) ?_
      refine iv_idiv (M := mX12_check) (X := v8.toInt) (Y := 4) dX12_check_18 19 rfl rfl (by decide) (by omega) (by omega) (fun v9 ev9 => ?_)
      refine pv_icmp_le (M := mX12_check) (tgt := 25) dX12_check_19 22 rfl (by decide) (fun c10 => ?_) (fun c10 => ?_)
      · have c10 := iv_le (X := x1.toInt) (Y := v9.toInt) c10 rfl rfl
        refine pv_aload_n (M := mX12_check) 0 dX12_check_25 26 rfl rfl rfl ?_
        refine pv_iconst (M := mX12_check) (v := 0) dX12_check_26 27 rfl (by decide) ?_
        refine iv_put (M := mX12_check) (l1 := 0) (l2 := 200) dX12_check_27 FX12 11 wd1184 (by decide) rfl (tl123 hT) rfl rfl rfl I rfl (by decide) (by decide) 30 rfl (fun m11 e14 I12 => ?_)
        have K13 := Kp.set e14 rfl
        have w15 : (m11 123 40).toInt = (m 123 40).toInt := by rw [e14, up2_ne (by omega)]
        have w16 : (m11 123 0).toInt = (m 123 0).toInt := by rw [e14, up2_ne (by omega)]
        have w17 : (m11 123 11).toInt = 0 := by rw [e14, up2_eq] <;> rfl
        refine pv_aload_n (M := mX12_check) 0 dX12_check_30 31 rfl rfl rfl ?_
        refine pv_iload_n (M := mX12_check) 1 dX12_check_31 32 rfl rfl rfl ?_
        refine pv_iconst (M := mX12_check) (v := 0) dX12_check_32 33 rfl (by decide) ?_
        have z18 : (0 : Int32).toInt = 0 := by decide
        refine pv_callv (M := mX12_check) (as := [.int x0, .int 0]) (st := []) (kc2 := 0) (ks2 := 0) dX12_check_33 wd1563 YX12_laysBlank ⟨wd1565, wd88⟩ (mk_get (tl123 hT)) rfl rfl (s_X12_laysBlank g hT I12 x0 (by omega) (by omega) 0 (by decide) (by decide)) rfl rfl (Nat.le_of_ble_eq_true rfl) (by decide) rfl rfl 36 rfl (fun rv h1 q19 => ?_)
        obtain ⟨m20, n21, rfl, rfl, I22, K23, rm20⟩ := q19
        replace rm20 : (0 : Int) = 0 → (m20 123 40).toInt = nu m20 x0.toInt 0 := by have q_ := rm20; (try rw [z18] at q_); exact q_
        have K23c := K23
        have w24 : (m20 123 0).toInt = (m11 123 0).toInt := congrArg Int32.toInt (K23 123 0 rfl)
        have w25 : (m20 123 11).toInt = (m11 123 11).toInt := congrArg Int32.toInt (K23 123 11 rfl)
        have K23 := K13.trans (K23.sub (wl_sub (by decide)))
        show PV _ _ _ _ _ _ _ 36 [.ref 123, .int x0, .int x1, pv_U] [] _
        refine pv_iconst (M := mX12_check) (v := 0) dX12_check_36 37 rfl (by decide) ?_
        refine pv_istore_n (M := mX12_check) 3 (lo2 := [.ref 123, .int x0, .int x1, .int 0]) dX12_check_37 38 rfl rfl (by decide) rfl rfl ?_
        have lp32 : ∀ (fuel31 : Nat) (y26 : Int32), (0 ≤ y26.toInt) → (y26.toInt ≤ 40) → (y26.toInt ≤ x1.toInt) → ((m20 123 11).toInt = 0) → ((m20 123 0).toInt = (m 123 0).toInt) → ((40 - y26.toInt) : Int).toNat < fuel31 → PV none g mX12_check (sqI T BB (wl [(123, 123, some 11), (123, 123, some 40), (149, 149, none)]) r m (-2147483648) 2147483647 (fun m' v => CKK x0.toInt x1.toInt (m 123 0).toInt (m 123 11).toInt (m' 123 11).toInt)) 2 0 0 38 [.ref 123, .int x0, .int x1, .int y26] [] (mk T m20 n21 r) := by
          intro fuel31
          induction fuel31 with
          | zero => intro y26 b34 b35 b36 b37 b38 z39; omega
          | succ fuel31 ih33 =>
            intro y26 b34 b35 b36 b37 b38 z39
            refine pv_iload_n (M := mX12_check) 3 dX12_check_38 39 rfl rfl rfl ?_
            refine pv_aload_n (M := mX12_check) 0 dX12_check_39 40 rfl rfl rfl ?_
            refine iv_get (M := mX12_check) (l1 := 0) (l2 := 40) dX12_check_40 FX12 40 wd1213 (by decide) (tl123 hT) rfl I22 rfl 43 rfl (fun v40 ev40 pv40 qv40 => ?_)
            have wv40 : v40.toInt = (m20 123 40).toInt := congrArg Int32.toInt ev40
            refine pv_icmp_ge (M := mX12_check) (tgt := 73) dX12_check_43 46 rfl (by decide) (fun c41 => ?_) (fun c41 => ?_)
            · have c41 := iv_le (X := v40.toInt) (Y := y26.toInt) c41 rfl rfl
              refine pv_aload_n (M := mX12_check) 0 dX12_check_73 74 rfl rfl rfl ?_
              refine iv_get (M := mX12_check) (l1 := 0) (l2 := 40) dX12_check_74 FX12 40 wd1213 (by decide) (tl123 hT) rfl I22 rfl 77 rfl (fun v42 ev42 pv42 qv42 => ?_)
              have wv42 : v42.toInt = (m20 123 40).toInt := congrArg Int32.toInt ev42
              refine pv_iload_n (M := mX12_check) 2 dX12_check_77 78 rfl rfl rfl ?_
              refine pv_icmp_ge (M := mX12_check) (tgt := 88) dX12_check_78 81 rfl (by decide) (fun c43 => ?_) (fun c43 => ?_)
              · have c43 := iv_le (X := x1.toInt) (Y := v42.toInt) c43 rfl rfl
                refine pv_iconst (M := mX12_check) (v := (-1)) dX12_check_88 89 rfl (by decide) ?_
                have z44 : ((-1) : Int32).toInt = (-1) := by decide
                exact pv_iret (M := mX12_check) dX12_check_89 rfl rfl ⟨_, _, _, rfl, rfl, I22, K23, by decide, by decide, (by first | exact Or.inr ⟨by omega, by first | omega | rfl⟩ | exact Or.inl ⟨by omega, by omega, by omega, by omega, by first | omega | decide⟩)⟩
              · have c43 := iv_nle (X := x1.toInt) (Y := v42.toInt) c43 rfl rfl
                refine pv_aload_n (M := mX12_check) 0 dX12_check_81 82 rfl rfl rfl ?_
                refine iv_get (M := mX12_check) (l1 := 0) (l2 := 40) dX12_check_82 FX12 40 wd1213 (by decide) (tl123 hT) rfl I22 rfl 85 rfl (fun v45 ev45 pv45 qv45 => ?_)
                have wv45 : v45.toInt = (m20 123 40).toInt := congrArg Int32.toInt ev45
                refine pv_goto (M := mX12_check) (tgt := 89) dX12_check_85 (by decide) ?_
                exact pv_iret (M := mX12_check) dX12_check_89 rfl rfl ⟨_, _, _, rfl, rfl, I22, K23, (iv_rng v45).1, (iv_rng v45).2, (by first | exact Or.inr ⟨by omega, by first | omega | rfl⟩ | exact Or.inl ⟨by omega, by omega, by omega, by omega, by first | omega | decide⟩)⟩
            · have c41 := iv_nle (X := v40.toInt) (Y := y26.toInt) c41 rfl rfl
              refine pv_iload_n (M := mX12_check) 3 dX12_check_46 47 rfl rfl rfl ?_
              refine pv_iload_n (M := mX12_check) 2 dX12_check_47 48 rfl rfl rfl ?_
              refine pv_icmp_eq (M := mX12_check) (tgt := 65) dX12_check_48 51 rfl (by decide) (fun c46 => ?_) (fun c46 => ?_)
              · have c46 := iv_eq (X := y26.toInt) (Y := x1.toInt) c46 rfl rfl
                refine pv_iload_n (M := mX12_check) 3 dX12_check_65 66 rfl rfl rfl ?_
                exact pv_iret (M := mX12_check) dX12_check_66 rfl rfl ⟨_, _, _, rfl, rfl, I22, K23, (iv_rng y26).1, (iv_rng y26).2, (by first | exact Or.inr ⟨by omega, by first | omega | rfl⟩ | exact Or.inl ⟨by omega, by omega, by omega, by omega, by first | omega | decide⟩)⟩
              · have c46 := iv_ne (X := y26.toInt) (Y := x1.toInt) c46 rfl rfl
                refine pv_aload_n (M := mX12_check) 0 dX12_check_51 52 rfl rfl rfl ?_
                refine pv_iload_n (M := mX12_check) 3 dX12_check_52 53 rfl rfl rfl ?_
                refine pv_callv (M := mX12_check) (as := [.int y26]) (st := []) (kc2 := 0) (ks2 := 0) dX12_check_53 wd1787 YX12_tapeNumber ⟨wd1789, wd122⟩ (mk_get (tl123 hT)) rfl rfl (s_X12_tapeNumber g hT I22 y26 (by omega) (by omega)) rfl rfl (Nat.le_of_ble_eq_true rfl) (by decide) rfl rfl 56 rfl (fun rv h1 q47 => ?_)
                obtain ⟨v48, rfl, rfl, pv48, qv48, rv48⟩ := q47
                show PV _ _ _ _ _ _ _ 56 [.ref 123, .int x0, .int x1, .int y26] [.int v48] _
                refine pv_aload_n (M := mX12_check) 0 dX12_check_56 57 rfl rfl rfl ?_
                refine mv_get (M := mX12_check) (v := .ref 149) dX12_check_57 FX12 42 wd1215 (by decide) (tl123 hT) rfl rfl 60 rfl ?_
                refine pv_iload_n (M := mX12_check) 3 dX12_check_60 61 rfl rfl rfl ?_
                refine iv_iald (M := mX12_check) (X := y26.toInt) (l1 := 0) (l2 := 25) dX12_check_61 (tl149 hT) rfl (by omega) (by omega) I22 (fun _ => rfl) 62 rfl (fun v49 ev49 pv49 qv49 => ?_)
                refine pv_icmp_eq (M := mX12_check) (tgt := 67) dX12_check_62 65 rfl (by decide) (fun c50 => ?_) (fun c50 => ?_)
                · have c50 := iv_eq (X := v48.toInt) (Y := v49.toInt) c50 rfl rfl
                  refine iv_inc (M := mX12_check) (C := 1) dX12_check_67 70 rfl rfl (by decide) rfl rfl (by decide) (by omega) (by omega) (fun v51 ev51 => ?_)
                  show PV _ _ _ _ _ _ _ 70 [.ref 123, .int x0, .int x1, .int v51] [] _
                  refine pv_goto (M := mX12_check) (tgt := 38) dX12_check_70 (by decide) ?_
                  exact ih33 v51 (by first | omega | assumption | exact (iv_rng _).2 | exact (iv_rng _).1 | decide) (by first | omega | assumption | exact (iv_rng _).2 | exact (iv_rng _).1 | decide) (by first | omega | assumption | (show v51.toInt ≤ x1.toInt; omega) | decide) (by first | omega | assumption | (show (m20 123 11).toInt = 0; omega) | decide) (by first | omega | assumption | (show (m20 123 0).toInt = (m 123 0).toInt; omega) | decide) (by omega)
                · have c50 := iv_ne (X := v48.toInt) (Y := v49.toInt) c50 rfl rfl
                  refine pv_iload_n (M := mX12_check) 3 dX12_check_65 66 rfl rfl rfl ?_
                  exact pv_iret (M := mX12_check) dX12_check_66 rfl rfl ⟨_, _, _, rfl, rfl, I22, K23, (iv_rng y26).1, (iv_rng y26).2, (by first | exact Or.inr ⟨by omega, by first | omega | rfl⟩ | exact Or.inl ⟨by omega, by omega, by omega, by omega, by first | omega | decide⟩)⟩
        have z52 : (0 : Int32).toInt = 0 := by decide
        exact lp32 (((40 - 0) : Int).toNat + 1) 0 (by first | omega | assumption | exact (iv_rng _).2 | exact (iv_rng _).1 | decide) (by first | omega | assumption | exact (iv_rng _).2 | exact (iv_rng _).1 | decide) (by first | omega | assumption | (show 0 ≤ x1.toInt; omega) | decide) (by first | omega | assumption | (show (m20 123 11).toInt = 0; omega) | decide) (by first | omega | assumption | (show (m20 123 0).toInt = (m 123 0).toInt; omega) | decide) (by omega)
      · have c10 := iv_nle (X := x1.toInt) (Y := v9.toInt) c10 rfl rfl
        refine pv_bipush (M := mX12_check) (v := (-2)) dX12_check_22 24 rfl (by decide) ?_
        have z53 : ((-2) : Int32).toInt = (-2) := by decide
        exact pv_iret (M := mX12_check) dX12_check_24 rfl rfl ⟨_, _, _, rfl, rfl, I, Kp, by decide, by decide, (by first | exact Or.inr ⟨by omega, by first | omega | rfl⟩ | exact Or.inl ⟨by omega, by omega, by omega, by omega, by first | omega | decide⟩)⟩

set_option maxHeartbeats 2000000 in
set_option maxRecDepth 20000 in
theorem s_X11_day_vx (g : pv_G) {T : List mv_T} {m : Nat → Nat → Int32} {n : Nat → Nat → Int64} {r : Nat → Value} {la lb : Nat} (hT : TX T) (I : IV BB m) (R : RX T r la lb) (x0 : Int32) : PM g mX11_day yX11_day (sqI T BB (wl [(0, 0, some 7)]) r m 0 1 (fun m' v => (v.toInt = 1 ∧ (m 0 7).toInt ≤ x0.toInt ∧ x0.toInt ≤ 999 ∧ (m' 0 7).toInt = x0.toInt) ∨ (v.toInt = 0 ∧ (x0.toInt < (m 0 7).toInt ∨ 999 < x0.toInt) ∧ (m' 0 7).toInt = (m 0 7).toInt))) 1 0 0 [.ref 0, .int x0] (mk T m n r) := by
  have Kp : fr (wl [(0, 0, some 7)]) m m := fr.rf
  have R0 := R
  have zR := R.2.2.2.2.1.1
  have zR2 := R.2.2.2.2.2.1
  have z12 : 0 ≤ (m 0 7).toInt ∧ (m 0 7).toInt ≤ 999 := I 0 7
  refine PM.of 0 (lo := [.ref 0, .int x0]) rfl (by decide) rfl rfl (Nat.le_of_ble_eq_true rfl) ?_
  refine pv_iload_n (M := mX11_day) 1 dX11_day_0 1 rfl rfl rfl ?_
  refine pv_aload_n (M := mX11_day) 0 dX11_day_1 2 rfl rfl rfl ?_
  refine iv_get (M := mX11_day) (l1 := 0) (l2 := 999) dX11_day_2 FX11 7 wd414 (by decide) (tl0 hT) rfl I rfl 5 rfl (fun v1 ev1 pv1 qv1 => ?_)
  have wv1 : v1.toInt = (m 0 7).toInt := congrArg Int32.toInt ev1
  refine pv_icmp_lt (M := mX11_day) (tgt := 15) dX11_day_5 8 rfl (by decide) (fun c2 => ?_) (fun c2 => ?_)
  · have c2 := iv_lt (X := x0.toInt) (Y := v1.toInt) c2 rfl rfl
    refine pv_iconst (M := mX11_day) (v := 0) dX11_day_15 16 rfl (by decide) ?_
    have z3 : (0 : Int32).toInt = 0 := by decide
    exact pv_iret (M := mX11_day) dX11_day_16 rfl rfl ⟨_, _, _, rfl, rfl, I, Kp, by decide, by decide, (Or.inr ⟨by decide, by omega, by omega⟩)⟩
  · have c2 := iv_nlt (X := x0.toInt) (Y := v1.toInt) c2 rfl rfl
    refine pv_iload_n (M := mX11_day) 1 dX11_day_8 9 rfl rfl rfl ?_
    refine pv_sipush (M := mX11_day) (v := 1000) dX11_day_9 12 rfl (by decide) ?_
    refine pv_icmp_lt (M := mX11_day) (tgt := 17) dX11_day_12 15 rfl (by decide) (fun c4 => ?_) (fun c4 => ?_)
    · have c4 := iv_lt (X := x0.toInt) (Y := 1000) c4 rfl (by decide)
      refine pv_aload_n (M := mX11_day) 0 dX11_day_17 18 rfl rfl rfl ?_
      refine pv_iload_n (M := mX11_day) 1 dX11_day_18 19 rfl rfl rfl ?_
      refine iv_put (M := mX11_day) (l1 := 0) (l2 := 999) dX11_day_19 FX11 7 wd414 (by decide) rfl (tl0 hT) rfl rfl rfl I rfl (by omega) (by omega) 22 rfl (fun m5 e8 I6 => ?_)
      have K7 := Kp.set e8 rfl
      have w9 : (m5 0 7).toInt = x0.toInt := by rw [e8, up2_eq]
      refine pv_iconst (M := mX11_day) (v := 1) dX11_day_22 23 rfl (by decide) ?_
      have z10 : (1 : Int32).toInt = 1 := by decide
      exact pv_iret (M := mX11_day) dX11_day_23 rfl rfl ⟨_, _, _, rfl, rfl, I6, K7, by decide, by decide, (Or.inl ⟨by decide, by omega, by omega, by omega⟩)⟩
    · have c4 := iv_nlt (X := x0.toInt) (Y := 1000) c4 rfl (by decide)
      refine pv_iconst (M := mX11_day) (v := 0) dX11_day_15 16 rfl (by decide) ?_
      have z11 : (0 : Int32).toInt = 0 := by decide
      exact pv_iret (M := mX11_day) dX11_day_16 rfl rfl ⟨_, _, _, rfl, rfl, I, Kp, by decide, by decide, (Or.inr ⟨by decide, by omega, by omega⟩)⟩

set_option maxHeartbeats 2000000 in
set_option maxRecDepth 20000 in
theorem s_X12_day_vx (g : pv_G) {T : List mv_T} {m : Nat → Nat → Int32} {n : Nat → Nat → Int64} {r : Nat → Value} (hT : TX T) (I : IV BB m) (x0 : Int32) : PM g mX12_day yX12_day (sqI T BB (wl [(123, 123, some 1)]) r m 0 1 (fun m' v => (v.toInt = 1 ∧ (m 123 1).toInt ≤ x0.toInt ∧ x0.toInt ≤ 999 ∧ (m' 123 1).toInt = x0.toInt) ∨ (v.toInt = 0 ∧ (x0.toInt < (m 123 1).toInt ∨ 999 < x0.toInt) ∧ (m' 123 1).toInt = (m 123 1).toInt))) 2 0 0 [.ref 123, .int x0] (mk T m n r) := by
  have Kp : fr (wl [(123, 123, some 1)]) m m := fr.rf
  have z14 : 0 ≤ (m 123 1).toInt ∧ (m 123 1).toInt ≤ 999 := I 123 1
  refine PM.of 0 (lo := [.ref 123, .int x0]) rfl (by decide) rfl rfl (Nat.le_of_ble_eq_true rfl) ?_
  refine pv_iload_n (M := mX12_day) 1 dX12_day_0 1 rfl rfl rfl ?_
  refine pv_aload_n (M := mX12_day) 0 dX12_day_1 2 rfl rfl rfl ?_
  refine iv_get (M := mX12_day) (l1 := 0) (l2 := 999) dX12_day_2 FX12 1 wd1174 (by decide) (tl123 hT) rfl I rfl 5 rfl (fun v1 ev1 pv1 qv1 => ?_)
  have wv1 : v1.toInt = (m 123 1).toInt := congrArg Int32.toInt ev1
  refine pv_sipush (M := mX12_day) (v := 999) dX12_day_5 8 rfl (by decide) ?_
  have z2 : (999 : Int32).toInt = 999 := by decide
  refine pv_calls (M := mX12_day) (as := [.int x0, .int v1, .int 999]) (st := []) (kc2 := 0) (ks2 := 0) dX12_day_8 wd1370 YX12_in wd1371 (s_X12_in_vx g hT I x0 v1 999) rfl rfl (Nat.le_of_ble_eq_true rfl) (by decide) rfl rfl 11 rfl (fun rv h1 q3 => ?_)
  obtain ⟨v4, rfl, rfl, pv4, qv4, rv4⟩ := q3
  replace rv4 : (v4 = 0 ∨ (v1.toInt ≤ x0.toInt ∧ x0.toInt ≤ (999 : Int))) ∧ ((v4.toInt = 1 ∧ v1.toInt ≤ x0.toInt ∧ x0.toInt ≤ (999 : Int)) ∨ (v4.toInt = 0 ∧ (x0.toInt < v1.toInt ∨ (999 : Int) < x0.toInt))) := by have q_ := rv4; (try rw [z2] at q_); exact q_
  show PV _ _ _ _ _ _ _ 11 [.ref 123, .int x0] [.int v4] _
  have kin := rv4.2
  refine pv_if_ne (M := mX12_day) (tgt := 16) dX12_day_11 14 rfl (by decide) (fun c6 => ?_) (fun c6 => ?_)
  · have pc6 := rv4.1.resolve_left c6
    have c6 := iv_ne (X := v4.toInt) (Y := 0) c6 rfl (by decide)
    refine pv_aload_n (M := mX12_day) 0 dX12_day_16 17 rfl rfl rfl ?_
    refine pv_iload_n (M := mX12_day) 1 dX12_day_17 18 rfl rfl rfl ?_
    refine iv_put (M := mX12_day) (l1 := 0) (l2 := 999) dX12_day_18 FX12 1 wd1174 (by decide) rfl (tl123 hT) rfl rfl rfl I rfl (by omega) (by omega) 21 rfl (fun m7 e10 I8 => ?_)
    have K9 := Kp.set e10 rfl
    have w11 : (m7 123 1).toInt = x0.toInt := by rw [e10, up2_eq]
    refine pv_iconst (M := mX12_day) (v := 1) dX12_day_21 22 rfl (by decide) ?_
    have z12 : (1 : Int32).toInt = 1 := by decide
    exact pv_iret (M := mX12_day) dX12_day_22 rfl rfl ⟨_, _, _, rfl, rfl, I8, K9, by decide, by decide, (Or.inl ⟨by decide, by omega, by omega, by omega⟩)⟩
  · have c6 := iv_eq (X := v4.toInt) (Y := 0) c6 rfl (by decide)
    refine pv_iconst (M := mX12_day) (v := 0) dX12_day_14 15 rfl (by decide) ?_
    have z13 : (0 : Int32).toInt = 0 := by decide
    exact pv_iret (M := mX12_day) dX12_day_15 rfl rfl ⟨_, _, _, rfl, rfl, I, Kp, by decide, by decide, (Or.inr ⟨by decide, by omega, by omega⟩)⟩
