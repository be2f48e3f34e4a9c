set_option maxHeartbeats 2000000 in
set_option maxRecDepth 20000 in
theorem s_X12_in_vx (g : pv_G) {T : List mv_T} {m : Nat → Nat → Int32} {n : Nat → Nat → Int64} {r : Nat → Value} (hT : TX T) (I : IV BB m) (x0 : Int32) (x1 : Int32) (x2 : Int32) : PM g mX12_in yX12_in (sqP (mk T m n r) 0 1 (fun v => (v = 0 ∨ (x1.toInt ≤ x0.toInt ∧ x0.toInt ≤ x2.toInt)) ∧ ((v.toInt = 1 ∧ x1.toInt ≤ x0.toInt ∧ x0.toInt ≤ x2.toInt) ∨ (v.toInt = 0 ∧ (x0.toInt < x1.toInt ∨ x2.toInt < x0.toInt))))) 1 0 0 [.int x0, .int x1, .int x2] (mk T m n r) := by
  have Kp : fr (wl []) m m := fr.rf
  refine PM.of 0 (lo := [.int x0, .int x1, .int x2]) rfl (by decide) rfl rfl (Nat.le_of_ble_eq_true rfl) ?_
  refine pv_iload_n (M := mX12_in) 0 dX12_in_0 1 rfl rfl rfl ?_
  refine pv_iload_n (M := mX12_in) 1 dX12_in_1 2 rfl rfl rfl ?_
  refine pv_icmp_lt (M := mX12_in) (tgt := 14) dX12_in_2 5 rfl (by decide) (fun c1 => ?_) (fun c1 => ?_)
  · have c1 := iv_lt (X := x0.toInt) (Y := x1.toInt) c1 rfl rfl
    refine pv_iconst (M := mX12_in) (v := 0) dX12_in_14 15 rfl (by decide) ?_
    have z2 : (0 : Int32).toInt = 0 := by decide
    exact pv_iret (M := mX12_in) dX12_in_15 rfl rfl ⟨_, rfl, rfl, by decide, by decide, ⟨Or.inl rfl, (Or.inr ⟨by decide, by omega⟩)⟩⟩
  · have c1 := iv_nlt (X := x0.toInt) (Y := x1.toInt) c1 rfl rfl
    refine pv_iload_n (M := mX12_in) 0 dX12_in_5 6 rfl rfl rfl ?_
    refine pv_iload_n (M := mX12_in) 2 dX12_in_6 7 rfl rfl rfl ?_
    refine pv_icmp_gt (M := mX12_in) (tgt := 14) dX12_in_7 10 rfl (by decide) (fun c3 => ?_) (fun c3 => ?_)
    · have c3 := iv_lt (X := x2.toInt) (Y := x0.toInt) c3 rfl rfl
      refine pv_iconst (M := mX12_in) (v := 0) dX12_in_14 15 rfl (by decide) ?_
      have z4 : (0 : Int32).toInt = 0 := by decide
      exact pv_iret (M := mX12_in) dX12_in_15 rfl rfl ⟨_, rfl, rfl, by decide, by decide, ⟨Or.inl rfl, (Or.inr ⟨by decide, by omega⟩)⟩⟩
    · have c3 := iv_nlt (X := x2.toInt) (Y := x0.toInt) c3 rfl rfl
      refine pv_iconst (M := mX12_in) (v := 1) dX12_in_10 11 rfl (by decide) ?_
      refine pv_goto (M := mX12_in) (tgt := 15) dX12_in_11 (by decide) ?_
      have z5 : (1 : Int32).toInt = 1 := by decide
      exact pv_iret (M := mX12_in) dX12_in_15 rfl rfl ⟨_, rfl, rfl, by decide, by decide, ⟨(Or.inr (by omega)), (Or.inl ⟨by decide, by omega, by omega⟩)⟩⟩

set_option maxHeartbeats 2000000 in
set_option maxRecDepth 20000 in
theorem s_X11_isBlank_vx (g : pv_G) {T : List mv_T} {m : Nat → Nat → Int32} {n : Nat → Nat → Int64} {r : Nat → Value} {la lb : Nat} (hT : TX T) (I : IV BB m) (R : RX T r la lb) (x0 : Int32) : PM g mX11_isBlank yX11_isBlank (sqP (mk T m n r) 0 1 (fun v => (v = 0 ∨ (0 ≤ x0.toInt ∧ x0.toInt ≤ 7)) ∧ ((v.toInt = 1 ∧ 0 ≤ x0.toInt ∧ x0.toInt < (m 0 2).toInt) ∨ (v.toInt = 0 ∧ (x0.toInt < 0 ∨ (m 0 2).toInt ≤ x0.toInt))))) 1 0 0 [.ref 0, .int x0] (mk T m n r) := by
  have Kp : fr (wl []) m m := fr.rf
  have R0 := R
  have zR := R.2.2.2.2.1.1
  have zR2 := R.2.2.2.2.2.1
  have z7 : 0 ≤ (m 0 2).toInt ∧ (m 0 2).toInt ≤ 8 := I 0 2
  refine PM.of 0 (lo := [.ref 0, .int x0]) rfl (by decide) rfl rfl (Nat.le_of_ble_eq_true rfl) ?_
  refine pv_iload_n (M := mX11_isBlank) 1 dX11_isBlank_0 1 rfl rfl rfl ?_
  refine pv_if_lt (M := mX11_isBlank) (tgt := 16) dX11_isBlank_1 4 rfl (by decide) (fun c1 => ?_) (fun c1 => ?_)
  · have c1 := iv_lt (X := x0.toInt) (Y := 0) c1 rfl (by decide)
    refine pv_iconst (M := mX11_isBlank) (v := 0) dX11_isBlank_16 17 rfl (by decide) ?_
    have z2 : (0 : Int32).toInt = 0 := by decide
    exact pv_iret (M := mX11_isBlank) dX11_isBlank_17 rfl rfl ⟨_, rfl, rfl, by decide, by decide, ⟨Or.inl rfl, Or.inr ⟨by decide, by omega⟩⟩⟩
  · have c1 := iv_nlt (X := x0.toInt) (Y := 0) c1 rfl (by decide)
    refine pv_iload_n (M := mX11_isBlank) 1 dX11_isBlank_4 5 rfl rfl rfl ?_
    refine pv_aload_n (M := mX11_isBlank) 0 dX11_isBlank_5 6 rfl rfl rfl ?_
    refine iv_get (M := mX11_isBlank) (l1 := 0) (l2 := 8) dX11_isBlank_6 FX11 2 wd409 (by decide) (tl0 hT) rfl I rfl 9 rfl (fun v3 ev3 pv3 qv3 => ?_)
    have wv3 : v3.toInt = (m 0 2).toInt := congrArg Int32.toInt ev3
    refine pv_icmp_ge (M := mX11_isBlank) (tgt := 16) dX11_isBlank_9 12 rfl (by decide) (fun c4 => ?_) (fun c4 => ?_)
    · have c4 := iv_le (X := v3.toInt) (Y := x0.toInt) c4 rfl rfl
      refine pv_iconst (M := mX11_isBlank) (v := 0) dX11_isBlank_16 17 rfl (by decide) ?_
      have z5 : (0 : Int32).toInt = 0 := by decide
      exact pv_iret (M := mX11_isBlank) dX11_isBlank_17 rfl rfl ⟨_, rfl, rfl, by decide, by decide, ⟨Or.inl rfl, Or.inr ⟨by decide, by omega⟩⟩⟩
    · have c4 := iv_nle (X := v3.toInt) (Y := x0.toInt) c4 rfl rfl
      refine pv_iconst (M := mX11_isBlank) (v := 1) dX11_isBlank_12 13 rfl (by decide) ?_
      refine pv_goto (M := mX11_isBlank) (tgt := 17) dX11_isBlank_13 (by decide) ?_
      have z6 : (1 : Int32).toInt = 1 := by decide
      exact pv_iret (M := mX11_isBlank) dX11_isBlank_17 rfl rfl ⟨_, rfl, rfl, by decide, by decide, ⟨Or.inr (by omega), Or.inl ⟨by decide, by omega, by omega⟩⟩⟩

set_option maxHeartbeats 2000000 in
set_option maxRecDepth 20000 in
theorem s_X12_isBlank_vx (g : pv_G) {T : List mv_T} {m : Nat → Nat → Int32} {n : Nat → Nat → Int64} {r : Nat → Value} (hT : TX T) (I : IV BB m) (x0 : Int32) : PM g mX12_isBlank yX12_isBlank (sqP (mk T m n r) 0 1 (fun v => (v = 0 ∨ (0 ≤ x0.toInt ∧ x0.toInt ≤ 7)) ∧ ((v.toInt = 1 ∧ 0 ≤ x0.toInt ∧ x0.toInt < (m 123 0).toInt) ∨ (v.toInt = 0 ∧ (x0.toInt < 0 ∨ (m 123 0).toInt ≤ x0.toInt))))) 1 0 0 [.ref 123, .int x0] (mk T m n r) := by
  have Kp : fr (wl []) m m := fr.rf
  have z7 : 0 ≤ (m 123 0).toInt ∧ (m 123 0).toInt ≤ 8 := I 123 0
  refine PM.of 0 (lo := [.ref 123, .int x0]) rfl (by decide) rfl rfl (Nat.le_of_ble_eq_true rfl) ?_
  refine pv_iload_n (M := mX12_isBlank) 1 dX12_isBlank_0 1 rfl rfl rfl ?_
  refine pv_if_lt (M := mX12_isBlank) (tgt := 16) dX12_isBlank_1 4 rfl (by decide) (fun c1 => ?_) (fun c1 => ?_)
  · have c1 := iv_lt (X := x0.toInt) (Y := 0) c1 rfl (by decide)
    refine pv_iconst (M := mX12_isBlank) (v := 0) dX12_isBlank_16 17 rfl (by decide) ?_
    have z2 : (0 : Int32).toInt = 0 := by decide
    exact pv_iret (M := mX12_isBlank) dX12_isBlank_17 rfl rfl ⟨_, rfl, rfl, by decide, by decide, ⟨Or.inl rfl, Or.inr ⟨by decide, by omega⟩⟩⟩
  · have c1 := iv_nlt (X := x0.toInt) (Y := 0) c1 rfl (by decide)
    refine pv_iload_n (M := mX12_isBlank) 1 dX12_isBlank_4 5 rfl rfl rfl ?_
    refine pv_aload_n (M := mX12_isBlank) 0 dX12_isBlank_5 6 rfl rfl rfl ?_
    refine iv_get (M := mX12_isBlank) (l1 := 0) (l2 := 8) dX12_isBlank_6 FX12 0 wd1173 (by decide) (tl123 hT) rfl I rfl 9 rfl (fun v3 ev3 pv3 qv3 => ?_)
    have wv3 : v3.toInt = (m 123 0).toInt := congrArg Int32.toInt ev3
    refine pv_icmp_ge (M := mX12_isBlank) (tgt := 16) dX12_isBlank_9 12 rfl (by decide) (fun c4 => ?_) (fun c4 => ?_)
    · have c4 := iv_le (X := v3.toInt) (Y := x0.toInt) c4 rfl rfl
      refine pv_iconst (M := mX12_isBlank) (v := 0) dX12_isBlank_16 17 rfl (by decide) ?_
      have z5 : (0 : Int32).toInt = 0 := by decide
      exact pv_iret (M := mX12_isBlank) dX12_isBlank_17 rfl rfl ⟨_, rfl, rfl, by decide, by decide, ⟨Or.inl rfl, Or.inr ⟨by decide, by omega⟩⟩⟩
    · have c4 := iv_nle (X := v3.toInt) (Y := x0.toInt) c4 rfl rfl
      refine pv_iconst (M := mX12_isBlank) (v := 1) dX12_isBlank_12 13 rfl (by decide) ?_
      refine pv_goto (M := mX12_isBlank) (tgt := 17) dX12_isBlank_13 (by decide) ?_
      have z6 : (1 : Int32).toInt = 1 := by decide
      exact pv_iret (M := mX12_isBlank) dX12_isBlank_17 rfl rfl ⟨_, rfl, rfl, by decide, by decide, ⟨Or.inr (by omega), Or.inl ⟨by decide, by omega, by omega⟩⟩⟩

set_option maxHeartbeats 2000000 in
set_option maxRecDepth 20000 in
theorem s_X10_holdsLetters_vx (g : pv_G) {T : List mv_T} {m : Nat → Nat → Int32} {n : Nat → Nat → Int64} {r : Nat → Value} (hT : TX T) (I : IV BB m) (x0 : Int32) (hl0 : -2147483648 ≤ x0.toInt) (hh0 : x0.toInt ≤ 200) : PM g mX10_holdsLetters yX10_holdsLetters (sqP (mk T m n r) 0 1 (fun v => (v.toInt = 1 ∧ LET 2 m x0.toInt) ∨ (v.toInt = 0 ∧ ¬ LET 2 m x0.toInt))) 1 0 0 [.ref 1, .int x0] (mk T m n r) := by
  have Kp : fr (wl []) m m := fr.rf
  refine PM.of 1 (lo := [.ref 1, .int x0, pv_U]) rfl (by decide) rfl rfl (Nat.le_of_ble_eq_true rfl) ?_
  refine pv_iconst (M := mX10_holdsLetters) (v := 0) dX10_holdsLetters_0 1 rfl (by decide) ?_
  refine pv_istore_n (M := mX10_holdsLetters) 2 (lo2 := [.ref 1, .int x0, .int 0]) dX10_holdsLetters_1 2 rfl rfl (by decide) rfl rfl ?_
  have lp7 : ∀ (fuel6 : Nat) (y1 : Int32), (0 ≤ y1.toInt) → (y1.toInt ≤ 200) → (∀ j : Nat, (j : Int) < y1.toInt → 97 ≤ (m 2 j).toInt ∧ (m 2 j).toInt ≤ 122) → ((200 - y1.toInt) : Int).toNat < fuel6 → PV none g mX10_holdsLetters (sqP (mk T m n r) 0 1 (fun v => (v.toInt = 1 ∧ LET 2 m x0.toInt) ∨ (v.toInt = 0 ∧ ¬ LET 2 m x0.toInt))) 1 0 0 2 [.ref 1, .int x0, .int y1] [] (mk T m n r) := by
    intro fuel6
    induction fuel6 with
    | zero => intro y1 b9 b10 b11 z12; omega
    | succ fuel6 ih8 =>
      intro y1 b9 b10 b11 z12
      have kg := (show ∀ j : Nat, (j : Int) < y1.toInt → 97 ≤ (m 2 j).toInt ∧ (m 2 j).toInt ≤ 122 by assumption)
      refine pv_iload_n (M := mX10_holdsLetters) 2 dX10_holdsLetters_2 3 rfl rfl rfl ?_
      refine pv_iload_n (M := mX10_holdsLetters) 1 dX10_holdsLetters_3 4 rfl rfl rfl ?_
      refine pv_icmp_ge (M := mX10_holdsLetters) (tgt := 44) dX10_holdsLetters_4 7 rfl (by decide) (fun c14 => ?_) (fun c14 => ?_)
      · have c14 := iv_le (X := x0.toInt) (Y := y1.toInt) c14 rfl rfl
        refine pv_iconst (M := mX10_holdsLetters) (v := 1) dX10_holdsLetters_44 45 rfl (by decide) ?_
        have z15 : (1 : Int32).toInt = 1 := by decide
        exact pv_iret (M := mX10_holdsLetters) dX10_holdsLetters_45 rfl rfl ⟨_, rfl, rfl, by decide, by decide, (Or.inl ⟨by decide, fun j a => kg j (by omega)⟩)⟩
      · have c14 := iv_nle (X := x0.toInt) (Y := y1.toInt) c14 rfl rfl
        refine pv_iload_n (M := mX10_holdsLetters) 2 dX10_holdsLetters_7 8 rfl rfl rfl ?_
        refine pv_sipush (M := mX10_holdsLetters) (v := 200) dX10_holdsLetters_8 11 rfl (by decide) ?_
        refine pv_icmp_ge (M := mX10_holdsLetters) (tgt := 44) dX10_holdsLetters_11 14 rfl (by decide) (fun c16 => ?_) (fun c16 => ?_)
        · have c16 := iv_le (X := 200) (Y := y1.toInt) c16 (by decide) rfl
          omega
        · have c16 := iv_nle (X := 200) (Y := y1.toInt) c16 (by decide) rfl
          refine pv_aload_n (M := mX10_holdsLetters) 0 dX10_holdsLetters_14 15 rfl rfl rfl ?_
          refine mv_get (M := mX10_holdsLetters) (v := .ref 2) dX10_holdsLetters_15 FX10 0 wd161 (by decide) (tl1 hT) rfl rfl 18 rfl ?_
          refine pv_iload_n (M := mX10_holdsLetters) 2 dX10_holdsLetters_18 19 rfl rfl rfl ?_
          refine iv_iald (M := mX10_holdsLetters) (X := y1.toInt) (l1 := 0) (l2 := 255) dX10_holdsLetters_19 (tl2 hT) rfl (by omega) (by omega) I (fun _ => rfl) 20 rfl (fun v17 ev17 pv17 qv17 => ?_)
          have k20 : v17.toInt = (m 2 y1.toInt.toNat).toInt := congrArg Int32.toInt ev17
          refine pv_bipush (M := mX10_holdsLetters) (v := 97) dX10_holdsLetters_20 22 rfl (by decide) ?_
          refine pv_icmp_lt (M := mX10_holdsLetters) (tgt := 36) dX10_holdsLetters_22 25 rfl (by decide) (fun c19 => ?_) (fun c19 => ?_)
          · have c19 := iv_lt (X := v17.toInt) (Y := 97) c19 rfl (by decide)
            refine pv_iconst (M := mX10_holdsLetters) (v := 0) dX10_holdsLetters_36 37 rfl (by decide) ?_
            have z20 : (0 : Int32).toInt = 0 := by decide
            exact pv_iret (M := mX10_holdsLetters) dX10_holdsLetters_37 rfl rfl ⟨_, rfl, rfl, by decide, by decide, (Or.inr ⟨by decide, fun q => by have a := q y1.toInt.toNat (by omega); omega⟩)⟩
          · have c19 := iv_nlt (X := v17.toInt) (Y := 97) c19 rfl (by decide)
            refine pv_aload_n (M := mX10_holdsLetters) 0 dX10_holdsLetters_25 26 rfl rfl rfl ?_
            refine mv_get (M := mX10_holdsLetters) (v := .ref 2) dX10_holdsLetters_26 FX10 0 wd161 (by decide) (tl1 hT) rfl rfl 29 rfl ?_
            refine pv_iload_n (M := mX10_holdsLetters) 2 dX10_holdsLetters_29 30 rfl rfl rfl ?_
            refine iv_iald (M := mX10_holdsLetters) (X := y1.toInt) (l1 := 0) (l2 := 255) dX10_holdsLetters_30 (tl2 hT) rfl (by omega) (by omega) I (fun _ => rfl) 31 rfl (fun v21 ev21 pv21 qv21 => ?_)
            have k31 : v21.toInt = (m 2 y1.toInt.toNat).toInt := congrArg Int32.toInt ev21
            refine pv_bipush (M := mX10_holdsLetters) (v := 122) dX10_holdsLetters_31 33 rfl (by decide) ?_
            refine pv_icmp_le (M := mX10_holdsLetters) (tgt := 38) dX10_holdsLetters_33 36 rfl (by decide) (fun c23 => ?_) (fun c23 => ?_)
            · have c23 := iv_le (X := v21.toInt) (Y := 122) c23 rfl (by decide)
              refine iv_inc (M := mX10_holdsLetters) (C := 1) dX10_holdsLetters_38 41 rfl rfl (by decide) rfl rfl (by decide) (by omega) (by omega) (fun v24 ev24 => ?_)
              show PV _ _ _ _ _ _ _ 41 [.ref 1, .int x0, .int v24] [] _
              refine pv_goto (M := mX10_holdsLetters) (tgt := 2) dX10_holdsLetters_41 (by decide) ?_
              have kb : ∀ j : Nat, (j : Int) < v24.toInt → 97 ≤ (m 2 j).toInt ∧ (m 2 j).toInt ≤ 122 := fun j a => if z : (j : Int) = y1.toInt then by rw [show j = (y1.toInt).toNat by omega]; omega else kg j (by omega)
              exact ih8 v24 (by first | omega | assumption | exact (iv_rng _).2 | exact (iv_rng _).1 | decide) (by first | omega | assumption | exact (iv_rng _).2 | exact (iv_rng _).1 | decide) kb (by omega)
            · have c23 := iv_nle (X := v21.toInt) (Y := 122) c23 rfl (by decide)
              refine pv_iconst (M := mX10_holdsLetters) (v := 0) dX10_holdsLetters_36 37 rfl (by decide) ?_
              have z26 : (0 : Int32).toInt = 0 := by decide
              exact pv_iret (M := mX10_holdsLetters) dX10_holdsLetters_37 rfl rfl ⟨_, rfl, rfl, by decide, by decide, (Or.inr ⟨by decide, fun q => by have a := q y1.toInt.toNat (by omega); omega⟩)⟩
  have z27 : (0 : Int32).toInt = 0 := by decide
  exact lp7 (((200 - 0) : Int).toNat + 1) 0 (by first | omega | assumption | exact (iv_rng _).2 | exact (iv_rng _).1 | decide) (by first | omega | assumption | exact (iv_rng _).2 | exact (iv_rng _).1 | decide) (fun j a => by rw [Int32.toInt_zero] at a; omega) (by omega)

set_option maxHeartbeats 2000000 in
set_option maxRecDepth 20000 in
theorem s_X12_areLetters_vx (g : pv_G) {T : List mv_T} {m : Nat → Nat → Int32} {n : Nat → Nat → Int64} {r : Nat → Value} (hT : TX T) (I : IV BB m) (x0 : Int32) (hl0 : 0 ≤ x0.toInt) (hh0 : x0.toInt ≤ 200) : PM g mX12_areLetters yX12_areLetters (sqP (mk T m n r) 0 1 (fun v => (v.toInt = 0 ∧ ¬ LET 129 m x0.toInt) ∨ (v.toInt = 1 ∧ LET 129 m x0.toInt))) 2 0 0 [.ref 123, .int x0] (mk T m n r) := by
  have Kp : fr (wl []) m m := fr.rf
  refine PM.of 1 (lo := [.ref 123, .int x0, pv_U]) rfl (by decide) rfl rfl (Nat.le_of_ble_eq_true rfl) ?_
  refine pv_iconst (M := mX12_areLetters) (v := 0) dX12_areLetters_0 1 rfl (by decide) ?_
  refine pv_istore_n (M := mX12_areLetters) 2 (lo2 := [.ref 123, .int x0, .int 0]) dX12_areLetters_1 2 rfl rfl (by decide) rfl rfl ?_
  have lp7 : ∀ (fuel6 : Nat) (y1 : Int32), (0 ≤ y1.toInt) → (y1.toInt ≤ 200) → (∀ j : Nat, (j : Int) < y1.toInt → 97 ≤ (m 129 j).toInt ∧ (m 129 j).toInt ≤ 122) → ((200 - y1.toInt) : Int).toNat < fuel6 → PV none g mX12_areLetters (sqP (mk T m n r) 0 1 (fun v => (v.toInt = 0 ∧ ¬ LET 129 m x0.toInt) ∨ (v.toInt = 1 ∧ LET 129 m x0.toInt))) 2 0 0 2 [.ref 123, .int x0, .int y1] [] (mk T m n r) := by
    intro fuel6
    induction fuel6 with
    | zero => intro y1 b9 b10 b11 z12; omega
    | succ fuel6 ih8 =>
      intro y1 b9 b10 b11 z12
      have kg := (show ∀ j : Nat, (j : Int) < y1.toInt → 97 ≤ (m 129 j).toInt ∧ (m 129 j).toInt ≤ 122 by assumption)
      refine pv_iload_n (M := mX12_areLetters) 2 dX12_areLetters_2 3 rfl rfl rfl ?_
      refine pv_iload_n (M := mX12_areLetters) 1 dX12_areLetters_3 4 rfl rfl rfl ?_
      refine pv_icmp_ge (M := mX12_areLetters) (tgt := 31) dX12_areLetters_4 7 rfl (by decide) (fun c14 => ?_) (fun c14 => ?_)
      · have c14 := iv_le (X := x0.toInt) (Y := y1.toInt) c14 rfl rfl
        refine pv_iconst (M := mX12_areLetters) (v := 1) dX12_areLetters_31 32 rfl (by decide) ?_
        have z15 : (1 : Int32).toInt = 1 := by decide
        exact pv_iret (M := mX12_areLetters) dX12_areLetters_32 rfl rfl ⟨_, rfl, rfl, by decide, by decide, (Or.inr ⟨by decide, fun j a => kg j (by omega)⟩)⟩
      · have c14 := iv_nle (X := x0.toInt) (Y := y1.toInt) c14 rfl rfl
        refine pv_aload_n (M := mX12_areLetters) 0 dX12_areLetters_7 8 rfl rfl rfl ?_
        refine mv_get (M := mX12_areLetters) (v := .ref 129) dX12_areLetters_8 FX12 10 wd1183 (by decide) (tl123 hT) rfl rfl 11 rfl ?_
        refine pv_iload_n (M := mX12_areLetters) 2 dX12_areLetters_11 12 rfl rfl rfl ?_
        refine iv_bald (M := mX12_areLetters) (X := y1.toInt) (l1 := (-128)) (l2 := 127) dX12_areLetters_12 (tl129 hT) rfl (by omega) (by omega) I (fun _ => rfl) 13 rfl (fun v16 ev16 pv16 qv16 => ?_)
        have k13 : v16.toInt = (m 129 y1.toInt.toNat).toInt := congrArg Int32.toInt ev16
        refine pv_bipush (M := mX12_areLetters) (v := 97) dX12_areLetters_13 15 rfl (by decide) ?_
        refine pv_bipush (M := mX12_areLetters) (v := 122) dX12_areLetters_15 17 rfl (by decide) ?_
        have z18 : (97 : Int32).toInt = 97 := by decide
        have z19 : (122 : Int32).toInt = 122 := by decide
        refine pv_calls (M := mX12_areLetters) (as := [.int v16, .int 97, .int 122]) (st := []) (kc2 := 0) (ks2 := 0) dX12_areLetters_17 wd1370 YX12_in wd1371 (s_X12_in_vx g hT I v16 97 122) rfl rfl (Nat.le_of_ble_eq_true rfl) (by decide) rfl rfl 20 rfl (fun rv h1 q20 => ?_)
        obtain ⟨v21, rfl, rfl, pv21, qv21, rv21⟩ := q20
        replace rv21 : (v21 = 0 ∨ ((97 : Int) ≤ v16.toInt ∧ v16.toInt ≤ (122 : Int))) ∧ ((v21.toInt = 1 ∧ (97 : Int) ≤ v16.toInt ∧ v16.toInt ≤ (122 : Int)) ∨ (v21.toInt = 0 ∧ (v16.toInt < (97 : Int) ∨ (122 : Int) < v16.toInt))) := by have q_ := rv21; (try rw [z18] at q_); (try rw [z19] at q_); exact q_
        show PV _ _ _ _ _ _ _ 20 [.ref 123, .int x0, .int y1] [.int v21] _
        have k20 := rv21.2
        refine pv_if_ne (M := mX12_areLetters) (tgt := 25) dX12_areLetters_20 23 rfl (by decide) (fun c23 => ?_) (fun c23 => ?_)
        · have pc23 := rv21.1.resolve_left c23
          have c23 := iv_ne (X := v21.toInt) (Y := 0) c23 rfl (by decide)
          refine iv_inc (M := mX12_areLetters) (C := 1) dX12_areLetters_25 28 rfl rfl (by decide) rfl rfl (by decide) (by omega) (by omega) (fun v24 ev24 => ?_)
          show PV _ _ _ _ _ _ _ 28 [.ref 123, .int x0, .int v24] [] _
          refine pv_goto (M := mX12_areLetters) (tgt := 2) dX12_areLetters_28 (by decide) ?_
          have kb : ∀ j : Nat, (j : Int) < v24.toInt → 97 ≤ (m 129 j).toInt ∧ (m 129 j).toInt ≤ 122 := fun j a => if z : (j : Int) = y1.toInt then by rw [show j = (y1.toInt).toNat by omega]; omega else kg j (by omega)
          exact ih8 v24 (by first | omega | assumption | exact (iv_rng _).2 | exact (iv_rng _).1 | decide) (by first | omega | assumption | exact (iv_rng _).2 | exact (iv_rng _).1 | decide) kb (by omega)
        · have c23 := iv_eq (X := v21.toInt) (Y := 0) c23 rfl (by decide)
          refine pv_iconst (M := mX12_areLetters) (v := 0) dX12_areLetters_23 24 rfl (by decide) ?_
          have z26 : (0 : Int32).toInt = 0 := by decide
          exact pv_iret (M := mX12_areLetters) dX12_areLetters_24 rfl rfl ⟨_, rfl, rfl, by decide, by decide, (Or.inl ⟨by decide, fun q => by have a := q y1.toInt.toNat (by omega); omega⟩)⟩
  have z27 : (0 : Int32).toInt = 0 := by decide
  exact lp7 (((200 - 0) : Int).toNat + 1) 0 (by first | omega | assumption | exact (iv_rng _).2 | exact (iv_rng _).1 | decide) (by first | omega | assumption | exact (iv_rng _).2 | exact (iv_rng _).1 | decide) (fun j a => by rw [Int32.toInt_zero] at a; omega) (by omega)

set_option maxHeartbeats 2000000 in
set_option maxRecDepth 20000 in
theorem s_X10_hasRoom_vx (g : pv_G) {T : List mv_T} {m : Nat → Nat → Int32} {n : Nat → Nat → Int64} {r : Nat → Value} (hT : TX T) (I : IV BB m) (x0 : Int32) (hl0 : 0 ≤ x0.toInt) (hh0 : x0.toInt ≤ 1000) : PM g mX10_hasRoom yX10_hasRoom (sqP (mk T m n r) 0 1 (fun v => (v.toInt = 1 ∧ (m 1 1).toInt + x0.toInt ≤ 200) ∨ (v.toInt = 0 ∧ 200 < (m 1 1).toInt + x0.toInt))) 1 0 0 [.ref 1, .int x0] (mk T m n r) := by
  have Kp : fr (wl []) m m := fr.rf
  have z6 : 0 ≤ (m 1 1).toInt ∧ (m 1 1).toInt ≤ 200 := I 1 1
  refine PM.of 0 (lo := [.ref 1, .int x0]) rfl (by decide) rfl rfl (Nat.le_of_ble_eq_true rfl) ?_
  refine pv_aload_n (M := mX10_hasRoom) 0 dX10_hasRoom_0 1 rfl rfl rfl ?_
  refine iv_get (M := mX10_hasRoom) (l1 := 0) (l2 := 200) dX10_hasRoom_1 FX10 1 wd163 (by decide) (tl1 hT) rfl I rfl 4 rfl (fun v1 ev1 pv1 qv1 => ?_)
  have wv1 : v1.toInt = (m 1 1).toInt := congrArg Int32.toInt ev1
  refine pv_iload_n (M := mX10_hasRoom) 1 dX10_hasRoom_4 5 rfl rfl rfl ?_
  refine iv_iadd (M := mX10_hasRoom) (X := v1.toInt) (Y := x0.toInt) dX10_hasRoom_5 6 rfl rfl rfl (by omega) (by omega) (fun v2 ev2 => ?_)
  refine pv_sipush (M := mX10_hasRoom) (v := 200) dX10_hasRoom_6 9 rfl (by decide) ?_
  refine pv_icmp_gt (M := mX10_hasRoom) (tgt := 16) dX10_hasRoom_9 12 rfl (by decide) (fun c3 => ?_) (fun c3 => ?_)
  · have c3 := iv_lt (X := 200) (Y := v2.toInt) c3 (by decide) rfl
    refine pv_iconst (M := mX10_hasRoom) (v := 0) dX10_hasRoom_16 17 rfl (by decide) ?_
    have z4 : (0 : Int32).toInt = 0 := by decide
    exact pv_iret (M := mX10_hasRoom) dX10_hasRoom_17 rfl rfl ⟨_, rfl, rfl, by decide, by decide, (Or.inr ⟨by decide, by omega⟩)⟩
  · have c3 := iv_nlt (X := 200) (Y := v2.toInt) c3 (by decide) rfl
    refine pv_iconst (M := mX10_hasRoom) (v := 1) dX10_hasRoom_12 13 rfl (by decide) ?_
    refine pv_goto (M := mX10_hasRoom) (tgt := 17) dX10_hasRoom_13 (by decide) ?_
    have z5 : (1 : Int32).toInt = 1 := by decide
    exact pv_iret (M := mX10_hasRoom) dX10_hasRoom_17 rfl rfl ⟨_, rfl, rfl, by decide, by decide, (Or.inl ⟨by decide, by omega⟩)⟩

set_option maxHeartbeats 2000000 in
set_option maxRecDepth 20000 in
theorem s_X10_put_vx (g : pv_G) {T : List mv_T} {m : Nat → Nat → Int32} {n : Nat → Nat → Int64} {r : Nat → Value} (hT : TX T) (I : IV BB m) (x0 : Int32) (hp0 : (m 1 1).toInt ≤ 196) : PM g mX10_put yX10_put (sqV T BB (wl [(1, 1, some 1), (2, 2, none)]) r m (fun m' => PUT 2 1 1 id x0 m m')) 1 0 0 [.ref 1, .int x0] (mk T m n r) := by
  have Kp : fr (wl [(1, 1, some 1), (2, 2, none)]) m m := fr.rf
  have z43 : 0 ≤ (m 1 1).toInt ∧ (m 1 1).toInt ≤ 200 := I 1 1
  refine PM.of 1 (lo := [.ref 1, .int x0, pv_U]) rfl (by decide) rfl rfl (Nat.le_of_ble_eq_true rfl) ?_
  refine pv_bipush (M := mX10_put) (v := 24) dX10_put_0 2 rfl (by decide) ?_
  refine pv_istore_n (M := mX10_put) 2 (lo2 := [.ref 1, .int x0, .int 24]) dX10_put_2 3 rfl rfl (by decide) rfl rfl ?_
  have lp7 : ∀ (fuel6 : Nat) (y1 : Int32) (m2 : Nat → Nat → Int32) (n3 : Nat → Nat → Int64), (-8 ≤ y1.toInt) → (y1.toInt ≤ 24) → (8 * ((m2 1 1).toInt - (m 1 1).toInt) = 24 - y1.toInt) → (∀ j : Nat, (j : Int) < (m 1 1).toInt → m2 2 j = m 2 j) → (∀ k : Nat, (k : Int) < (m2 1 1).toInt - (m 1 1).toInt → (m2 2 ((m 1 1).toInt.toNat + k)).toInt = BT x0 (24 - 8 * k)) → IV BB m2 → fr (wl [(1, 1, some 1), (2, 2, none)]) m m2 → ((y1.toInt - (-8)) : Int).toNat < fuel6 → PV none g mX10_put (sqV T BB (wl [(1, 1, some 1), (2, 2, none)]) r m (fun m' => PUT 2 1 1 id x0 m m')) 1 0 0 3 [.ref 1, .int x0, .int y1] [] (mk T m2 n3 r) := by
    intro fuel6
    induction fuel6 with
    | zero => intro y1 m2 n3 b9 b10 b11 b12 b13 I4 K5 z14; omega
    | succ fuel6 ih8 =>
      intro y1 m2 n3 b9 b10 b11 b12 b13 I4 K5 z14
      have z15 : 0 ≤ (m2 1 1).toInt ∧ (m2 1 1).toInt ≤ 200 := I4 1 1
      have kga := (show ∀ j : Nat, (j : Int) < (m 1 1).toInt → m2 2 j = m 2 j by assumption)
      have kgb := (show ∀ k : Nat, (k : Int) < (m2 1 1).toInt - (m 1 1).toInt → (m2 2 ((m 1 1).toInt.toNat + k)).toInt = BT x0 (24 - 8 * k) by assumption)
      refine pv_iload_n (M := mX10_put) 2 dX10_put_3 4 rfl rfl rfl ?_
      refine pv_if_lt (M := mX10_put) (tgt := 49) dX10_put_4 7 rfl (by decide) (fun c18 => ?_) (fun c18 => ?_)
      · have c18 := iv_lt (X := y1.toInt) (Y := 0) c18 rfl (by decide)
        exact pv_vret (M := mX10_put) dX10_put_49 rfl ⟨_, _, rfl, rfl, I4, K5, (by first | exact ⟨by omega, kga, fun k h => kgb k (by omega)⟩ | (exfalso; omega))⟩
      · have c18 := iv_nlt (X := y1.toInt) (Y := 0) c18 rfl (by decide)
        refine pv_aload_n (M := mX10_put) 0 dX10_put_7 8 rfl rfl rfl ?_
        refine iv_get (M := mX10_put) (l1 := 0) (l2 := 200) dX10_put_8 FX10 1 wd163 (by decide) (tl1 hT) rfl I4 rfl 11 rfl (fun v19 ev19 pv19 qv19 => ?_)
        have wv19 : v19.toInt = (m2 1 1).toInt := congrArg Int32.toInt ev19
        refine pv_sipush (M := mX10_put) (v := 200) dX10_put_11 14 rfl (by decide) ?_
        refine pv_icmp_ge (M := mX10_put) (tgt := 49) dX10_put_14 17 rfl (by decide) (fun c20 => ?_) (fun c20 => ?_)
        · have c20 := iv_le (X := 200) (Y := v19.toInt) c20 (by decide) rfl
          exact pv_vret (M := mX10_put) dX10_put_49 rfl ⟨_, _, rfl, rfl, I4, K5, (by first | exact ⟨by omega, kga, fun k h => kgb k (by omega)⟩ | (exfalso; omega))⟩
        · have c20 := iv_nle (X := 200) (Y := v19.toInt) c20 (by decide) rfl
          refine pv_aload_n (M := mX10_put) 0 dX10_put_17 18 rfl rfl rfl ?_
          refine mv_get (M := mX10_put) (v := .ref 2) dX10_put_18 FX10 0 wd161 (by decide) (tl1 hT) rfl rfl 21 rfl ?_
          refine pv_aload_n (M := mX10_put) 0 dX10_put_21 22 rfl rfl rfl ?_
          refine iv_get (M := mX10_put) (l1 := 0) (l2 := 200) dX10_put_22 FX10 1 wd163 (by decide) (tl1 hT) rfl I4 rfl 25 rfl (fun v21 ev21 pv21 qv21 => ?_)
          have wv21 : v21.toInt = (m2 1 1).toInt := congrArg Int32.toInt ev21
          refine pv_iload_n (M := mX10_put) 1 dX10_put_25 26 rfl rfl rfl ?_
          refine pv_iload_n (M := mX10_put) 2 dX10_put_26 27 rfl rfl rfl ?_
          refine iv_ushrU (M := mX10_put) dX10_put_27 28 rfl (fun v22 ev22 => ?_)
          have k28 := ev22
          refine pv_sipush (M := mX10_put) (v := 255) dX10_put_28 31 rfl (by decide) ?_
          refine iv_iandm (M := mX10_put) dX10_put_31 32 rfl 8 (by decide) (by decide) (fun v24 ev24 pv24 qv24 => ?_)
          have qv24 : v24.toInt < 256 := qv24
          have k32 := ush_bt x0 (s := y1) (by unfold SH4; omega) k28 ev24
          refine iv_iast (M := mX10_put) (X := v21.toInt) (l1 := 0) (l2 := 255) dX10_put_32 (tl2 hT) rfl (by omega) (by omega) I4 (fun _ => rfl) (by omega) (by omega) 33 rfl (fun m26 e29 I27 => ?_)
          have K28 := K5.set e29 rfl
          have w30 : (m26 1 1).toInt = (m2 1 1).toInt := by rw [e29, up2_ne (by omega)]
          have k33 := (e29).trans (up2_ix (j := (m2 1 1).toInt.toNat) (by omega))
          refine pv_aload_n (M := mX10_put) 0 dX10_put_33 34 rfl rfl rfl ?_
          refine pv_dup (M := mX10_put) dX10_put_34 35 rfl rfl ?_
          refine iv_get (M := mX10_put) (l1 := 0) (l2 := 200) dX10_put_35 FX10 1 wd163 (by decide) (tl1 hT) rfl I27 rfl 38 rfl (fun v32 ev32 pv32 qv32 => ?_)
          have wv32 : v32.toInt = (m26 1 1).toInt := congrArg Int32.toInt ev32
          refine pv_iconst (M := mX10_put) (v := 1) dX10_put_38 39 rfl (by decide) ?_
          refine iv_iadd (M := mX10_put) (X := v32.toInt) (Y := 1) dX10_put_39 40 rfl rfl (by decide) (by omega) (by omega) (fun v33 ev33 => ?_)
          refine iv_put (M := mX10_put) (l1 := 0) (l2 := 200) dX10_put_40 FX10 1 wd163 (by decide) rfl (tl1 hT) rfl rfl rfl I27 rfl (by omega) (by omega) 43 rfl (fun m34 e37 I35 => ?_)
          have K36 := K28.set e37 rfl
          have w38 : (m34 1 1).toInt = v33.toInt := by rw [e37, up2_eq]
          refine iv_inc (M := mX10_put) (C := (-8)) dX10_put_43 46 rfl rfl (by decide) rfl rfl (by decide) (by omega) (by omega) (fun v39 ev39 => ?_)
          show PV _ _ _ _ _ _ _ 46 [.ref 1, .int x0, .int v39] [] _
          refine pv_goto (M := mX10_put) (tgt := 3) dX10_put_46 (by decide) ?_
          have kba : ∀ j : Nat, (j : Int) < (m 1 1).toInt → m34 2 j = m 2 j := fun j a => by rw [e37, up2_ne (by omega), k33, up2_ne (by omega)]; exact kga j a
          have kbb : ∀ k : Nat, (k : Int) < (m34 1 1).toInt - (m 1 1).toInt → (m34 2 ((m 1 1).toInt.toNat + k)).toInt = BT x0 (24 - 8 * k) := fun k a => if z : (k : Int) = (m2 1 1).toInt - (m 1 1).toInt then (by rw [e37, up2_ne (by omega), k33, show (m 1 1).toInt.toNat + k = (m2 1 1).toInt.toNat by omega, up2_eq, show 24 - 8 * k = (y1.toInt).toNat by omega]; exact k32) else (by rw [e37, up2_ne (by omega), k33, up2_ne (by omega)]; exact kgb k (by omega))
          exact ih8 v39 m34 n3 (by first | omega | assumption | exact (iv_rng _).2 | exact (iv_rng _).1 | decide) (by first | omega | assumption | exact (iv_rng _).2 | exact (iv_rng _).1 | decide) (by first | omega | assumption | (show 8 * ((m34 1 1).toInt - (m 1 1).toInt) = 24 - v39.toInt; omega) | decide) kba kbb I35 K36 (by omega)
  have z42 : (24 : Int32).toInt = 24 := by decide
  exact lp7 (((24 - (-8)) : Int).toNat + 1) 24 m n (by first | omega | assumption | exact (iv_rng _).2 | exact (iv_rng _).1 | decide) (by first | omega | assumption | exact (iv_rng _).2 | exact (iv_rng _).1 | decide) (by first | omega | assumption | (show 8 * ((m 1 1).toInt - (m 1 1).toInt) = 24 - 24; omega) | decide) (fun _ _ => rfl) (fun k a => by omega) I Kp (by omega)

set_option maxHeartbeats 2000000 in
set_option maxRecDepth 20000 in
theorem s_X12_types_vx (g : pv_G) {T : List mv_T} {m : Nat → Nat → Int32} {n : Nat → Nat → Int64} {r : Nat → Value} (hT : TX T) (I : IV BB m) (x0 : Int32) (hp0 : (m 123 11).toInt ≤ 196) : PM g mX12_types yX12_types (sqV T BB (wl [(123, 123, some 11), (129, 129, none)]) r m (fun m' => PUT 129 123 11 (fun z => z % 256) x0 m m')) 1 0 0 [.ref 123, .int x0] (mk T m n r) := by
  have Kp : fr (wl [(123, 123, some 11), (129, 129, none)]) m m := fr.rf
  have z44 : 0 ≤ (m 123 11).toInt ∧ (m 123 11).toInt ≤ 200 := I 123 11
  refine PM.of 1 (lo := [.ref 123, .int x0, pv_U]) rfl (by decide) rfl rfl (Nat.le_of_ble_eq_true rfl) ?_
  refine pv_iconst (M := mX12_types) (v := 3) dX12_types_0 1 rfl (by decide) ?_
  refine pv_istore_n (M := mX12_types) 2 (lo2 := [.ref 123, .int x0, .int 3]) dX12_types_1 2 rfl rfl (by decide) rfl rfl ?_
  have lp7 : ∀ (fuel6 : Nat) (y1 : Int32) (m2 : Nat → Nat → Int32) (n3 : Nat → Nat → Int64), (-1 ≤ y1.toInt) → (y1.toInt ≤ 3) → ((m2 123 11).toInt = (m 123 11).toInt + 3 - y1.toInt) → (∀ j : Nat, (j : Int) < (m 123 11).toInt → m2 129 j = m 129 j) → (∀ k : Nat, (k : Int) < (m2 123 11).toInt - (m 123 11).toInt → (m2 129 ((m 123 11).toInt.toNat + k)).toInt % 256 = BT x0 (24 - 8 * k)) → IV BB m2 → fr (wl [(123, 123, some 11), (129, 129, none)]) m m2 → ((y1.toInt - (-1)) : Int).toNat < fuel6 → PV none g mX12_types (sqV T BB (wl [(123, 123, some 11), (129, 129, none)]) r m (fun m' => PUT 129 123 11 (fun z => z % 256) x0 m m')) 1 0 0 2 [.ref 123, .int x0, .int y1] [] (mk T m2 n3 r) := by
    intro fuel6
    induction fuel6 with
    | zero => intro y1 m2 n3 b9 b10 b11 b12 b13 I4 K5 z14; omega
    | succ fuel6 ih8 =>
      intro y1 m2 n3 b9 b10 b11 b12 b13 I4 K5 z14
      have z15 : 0 ≤ (m2 123 11).toInt ∧ (m2 123 11).toInt ≤ 200 := I4 123 11
      have kga := (show ∀ j : Nat, (j : Int) < (m 123 11).toInt → m2 129 j = m 129 j by assumption)
      have kgb := (show ∀ k : Nat, (k : Int) < (m2 123 11).toInt - (m 123 11).toInt → (m2 129 ((m 123 11).toInt.toNat + k)).toInt % 256 = BT x0 (24 - 8 * k) by assumption)
      refine pv_iload_n (M := mX12_types) 2 dX12_types_2 3 rfl rfl rfl ?_
      refine pv_if_lt (M := mX12_types) (tgt := 38) dX12_types_3 6 rfl (by decide) (fun c18 => ?_) (fun c18 => ?_)
      · have c18 := iv_lt (X := y1.toInt) (Y := 0) c18 rfl (by decide)
        exact pv_vret (M := mX12_types) dX12_types_38 rfl ⟨_, _, rfl, rfl, I4, K5, ⟨by omega, kga, fun k h => kgb k (by omega)⟩⟩
      · have c18 := iv_nlt (X := y1.toInt) (Y := 0) c18 rfl (by decide)
        refine pv_aload_n (M := mX12_types) 0 dX12_types_6 7 rfl rfl rfl ?_
        refine mv_get (M := mX12_types) (v := .ref 129) dX12_types_7 FX12 10 wd1183 (by decide) (tl123 hT) rfl rfl 10 rfl ?_
        refine pv_aload_n (M := mX12_types) 0 dX12_types_10 11 rfl rfl rfl ?_
        refine iv_get (M := mX12_types) (l1 := 0) (l2 := 200) dX12_types_11 FX12 11 wd1184 (by decide) (tl123 hT) rfl I4 rfl 14 rfl (fun v19 ev19 pv19 qv19 => ?_)
        have wv19 : v19.toInt = (m2 123 11).toInt := congrArg Int32.toInt ev19
        refine pv_iload_n (M := mX12_types) 1 dX12_types_14 15 rfl rfl rfl ?_
        refine pv_bipush (M := mX12_types) (v := 8) dX12_types_15 17 rfl (by decide) ?_
        refine pv_iload_n (M := mX12_types) 2 dX12_types_17 18 rfl rfl rfl ?_
        refine iv_imul (M := mX12_types) (X := 8) (Y := y1.toInt) dX12_types_18 19 rfl (by decide) rfl (by omega) (by omega) (fun v20 ev20 => ?_)
        have k19e : v20.toInt = 8 * y1.toInt := by omega
        have k19 : SH4 v20 := by unfold SH4; omega
        refine iv_shrU (M := mX12_types) dX12_types_19 20 rfl (fun v23 ev23 => ?_)
        have k20 := ev23
        refine iv_i2b (M := mX12_types) dX12_types_20 21 rfl (fun v25 ev25 pv25 qv25 => ?_)
        have k21 : v25.toInt % 256 = BT x0 (8 * y1.toInt).toNat := by rw [← k19e]; exact shr_bt x0 k19 k20 ev25
        refine iv_bast (M := mX12_types) (X := v19.toInt) (l1 := (-128)) (l2 := 127) dX12_types_21 (tl129 hT) rfl (by omega) (by omega) I4 (fun _ => rfl) (y := v25) (iv_nb (by omega) (by omega)) (by omega) (by omega) 22 rfl (fun m27 e30 I28 => ?_)
        have K29 := K5.set e30 rfl
        have w31 : (m27 123 11).toInt = (m2 123 11).toInt := by rw [e30, up2_ne (by omega)]
        have k22 := (e30).trans (up2_ix (j := (m2 123 11).toInt.toNat) (by omega))
        refine pv_aload_n (M := mX12_types) 0 dX12_types_22 23 rfl rfl rfl ?_
        refine pv_aload_n (M := mX12_types) 0 dX12_types_23 24 rfl rfl rfl ?_
        refine iv_get (M := mX12_types) (l1 := 0) (l2 := 200) dX12_types_24 FX12 11 wd1184 (by decide) (tl123 hT) rfl I28 rfl 27 rfl (fun v33 ev33 pv33 qv33 => ?_)
        have wv33 : v33.toInt = (m27 123 11).toInt := congrArg Int32.toInt ev33
        refine pv_iconst (M := mX12_types) (v := 1) dX12_types_27 28 rfl (by decide) ?_
        refine iv_iadd (M := mX12_types) (X := v33.toInt) (Y := 1) dX12_types_28 29 rfl rfl (by decide) (by omega) (by omega) (fun v34 ev34 => ?_)
        refine iv_put (M := mX12_types) (l1 := 0) (l2 := 200) dX12_types_29 FX12 11 wd1184 (by decide) rfl (tl123 hT) rfl rfl rfl I28 rfl (by omega) (by omega) 32 rfl (fun m35 e38 I36 => ?_)
        have K37 := K29.set e38 rfl
        have w39 : (m35 123 11).toInt = v34.toInt := by rw [e38, up2_eq]
        refine iv_inc (M := mX12_types) (C := (-1)) dX12_types_32 35 rfl rfl (by decide) rfl rfl (by decide) (by omega) (by omega) (fun v40 ev40 => ?_)
        show PV _ _ _ _ _ _ _ 35 [.ref 123, .int x0, .int v40] [] _
        refine pv_goto (M := mX12_types) (tgt := 2) dX12_types_35 (by decide) ?_
        have kba : ∀ j : Nat, (j : Int) < (m 123 11).toInt → m35 129 j = m 129 j := fun j a => by rw [e38, up2_ne (by omega), k22, up2_ne (by omega)]; exact kga j a
        have kbb : ∀ k : Nat, (k : Int) < (m35 123 11).toInt - (m 123 11).toInt → (m35 129 ((m 123 11).toInt.toNat + k)).toInt % 256 = BT x0 (24 - 8 * k) := fun k a => if z : (k : Int) = (m2 123 11).toInt - (m 123 11).toInt then (by rw [e38, up2_ne (by omega), k22, show (m 123 11).toInt.toNat + k = (m2 123 11).toInt.toNat by omega, up2_eq, show 24 - 8 * k = (8 * y1.toInt).toNat by omega]; exact k21) else (by rw [e38, up2_ne (by omega), k22, up2_ne (by omega)]; exact kgb k (by omega))
        exact ih8 v40 m35 n3 (by first | omega | assumption | exact (iv_rng _).2 | exact (iv_rng _).1 | decide) (by first | omega | assumption | exact (iv_rng _).2 | exact (iv_rng _).1 | decide) (by first | omega | assumption | (show (m35 123 11).toInt = (m 123 11).toInt + 3 - v40.toInt; omega) | decide) kba kbb I36 K37 (by omega)
  have z43 : (3 : Int32).toInt = 3 := by decide
  exact lp7 (((3 - (-1)) : Int).toNat + 1) 3 m n (by first | omega | assumption | exact (iv_rng _).2 | exact (iv_rng _).1 | decide) (by first | omega | assumption | exact (iv_rng _).2 | exact (iv_rng _).1 | decide) (by first | omega | assumption | (show (m 123 11).toInt = (m 123 11).toInt + 3 - 3; omega) | decide) (fun _ _ => rfl) (fun k a => by omega) I Kp (by omega)

set_option maxHeartbeats 2000000 in
set_option maxRecDepth 20000 in
theorem s_X11_feed_vx (g : pv_G) {T : List mv_T} {m : Nat → Nat → Int32} {n : Nat → Nat → Int64} {r : Nat → Value} {la lb : Nat} (hT : TX T) (I : IV BB m) (R : RX T r la lb) (x0 : Int32) (x1 : Int32) (x2 : Int32) (x3 : Int32) (x4 : Int32) : PM g mX11_feed yX11_feed (sqI T BB (wl [(1, 1, some 1), (2, 2, none)]) r m (-2147483648) 2147483647 (fun m' v => FDK 2 1 1 id [x0, x1, x2, x3, x4] m m' v.toInt)) 2 0 0 [.ref 0, .int x0, .int x1, .int x2, .int x3, .int x4] (mk T m n r) := by
  have Kp : fr (wl [(1, 1, some 1), (2, 2, none)]) m m := fr.rf
  have R0 := R
  have zR := R.2.2.2.2.1.1
  have zR2 := R.2.2.2.2.2.1
  have z43 : 0 ≤ (m 1 1).toInt ∧ (m 1 1).toInt ≤ 200 := I 1 1
  refine PM.of 0 (lo := [.ref 0, .int x0, .int x1, .int x2, .int x3, .int x4]) rfl (by decide) rfl rfl (Nat.le_of_ble_eq_true rfl) ?_
  refine pv_aload_n (M := mX11_feed) 0 dX11_feed_0 1 rfl rfl rfl ?_
  refine mv_get (M := mX11_feed) (v := .ref 1) dX11_feed_1 FX11 0 wd407 (by decide) (tl0 hT) rfl rfl 4 rfl ?_
  refine pv_bipush (M := mX11_feed) (v := 20) dX11_feed_4 6 rfl (by decide) ?_
  have z1 : (20 : Int32).toInt = 20 := by decide
  refine pv_callv (M := mX11_feed) (as := [.int 20]) (st := []) (kc2 := 0) (ks2 := 0) dX11_feed_6 wd467 YX10_hasRoom ⟨wd468, wd469⟩ (mk_get (tl1 hT)) rfl rfl (s_X10_hasRoom_vx g hT I 20 (by decide) (by decide)) rfl rfl (Nat.le_of_ble_eq_true rfl) (by decide) rfl rfl 9 rfl (fun rv h1 q2 => ?_)
  obtain ⟨v3, rfl, rfl, pv3, qv3, rv3⟩ := q2
  replace rv3 : (v3.toInt = 1 ∧ (m 1 1).toInt + (20 : Int) ≤ 200) ∨ (v3.toInt = 0 ∧ 200 < (m 1 1).toInt + (20 : Int)) := by have q_ := rv3; (try rw [z1] at q_); exact q_
  show PV _ _ _ _ _ _ _ 9 [.ref 0, .int x0, .int x1, .int x2, .int x3, .int x4] [.int v3] _
  have kf := rv3
  refine pv_if_ne (M := mX11_feed) (tgt := 14) dX11_feed_9 12 rfl (by decide) (fun c5 => ?_) (fun c5 => ?_)
  · have c5 := iv_ne (X := v3.toInt) (Y := 0) c5 rfl (by decide)
    refine pv_aload_n (M := mX11_feed) 0 dX11_feed_14 15 rfl rfl rfl ?_
    refine mv_get (M := mX11_feed) (v := .ref 1) dX11_feed_15 FX11 0 wd407 (by decide) (tl0 hT) rfl rfl 18 rfl ?_
    refine pv_iload_n (M := mX11_feed) 1 dX11_feed_18 19 rfl rfl rfl ?_
    refine pv_callv (M := mX11_feed) (as := [.int x0]) (st := []) (kc2 := 0) (ks2 := 0) dX11_feed_19 wd471 YX10_put ⟨wd472, wd473⟩ (mk_get (tl1 hT)) rfl rfl (s_X10_put_vx g hT I x0 (by first | omega | assumption | exact (iv_rng _).2 | exact (iv_rng _).1 | decide)) rfl rfl (Nat.le_of_ble_eq_true rfl) (by decide) rfl rfl 22 rfl (fun rv h1 q6 => ?_)
    obtain ⟨m7, n8, rfl, rfl, I9, K10, rm7⟩ := q6
    replace rm7 : PUT 2 1 1 id x0 m m7 := rm7
    have K10c := K10
    have K10 := Kp.trans (K10.sub (fun _ _ q => q))
    show PV _ _ _ _ _ _ _ 22 [.ref 0, .int x0, .int x1, .int x2, .int x3, .int x4] [] _
    have t1 : TAP 2 1 1 id [x0] m m7 := TAP_put (by omega) TAP_0 rm7
    have s1 : (m7 1 1).toInt = (m 1 1).toInt + 4 := by have z := t1.1; simpa using z
    refine pv_aload_n (M := mX11_feed) 0 dX11_feed_22 23 rfl rfl rfl ?_
    refine mv_get (M := mX11_feed) (v := .ref 1) dX11_feed_23 FX11 0 wd407 (by decide) (tl0 hT) rfl rfl 26 rfl ?_
    refine pv_iload_n (M := mX11_feed) 2 dX11_feed_26 27 rfl rfl rfl ?_
    refine pv_callv (M := mX11_feed) (as := [.int x1]) (st := []) (kc2 := 0) (ks2 := 0) dX11_feed_27 wd471 YX10_put ⟨wd472, wd473⟩ (mk_get (tl1 hT)) rfl rfl (s_X10_put_vx g hT I9 x1 (by first | omega | assumption | exact (iv_rng _).2 | exact (iv_rng _).1 | decide)) rfl rfl (Nat.le_of_ble_eq_true rfl) (by decide) rfl rfl 30 rfl (fun rv h1 q13 => ?_)
    obtain ⟨m14, n15, rfl, rfl, I16, K17, rm14⟩ := q13
    replace rm14 : PUT 2 1 1 id x1 m7 m14 := rm14
    have K17c := K17
    have K17 := K10.trans (K17.sub (fun _ _ q => q))
    show PV _ _ _ _ _ _ _ 30 [.ref 0, .int x0, .int x1, .int x2, .int x3, .int x4] [] _
    have t2 : TAP 2 1 1 id [x0, x1] m m14 := TAP_put (by omega) t1 rm14
    have s2 : (m14 1 1).toInt = (m 1 1).toInt + 8 := by have z := t2.1; simpa using z
    refine pv_aload_n (M := mX11_feed) 0 dX11_feed_30 31 rfl rfl rfl ?_
    refine mv_get (M := mX11_feed) (v := .ref 1) dX11_feed_31 FX11 0 wd407 (by decide) (tl0 hT) rfl rfl 34 rfl ?_
    refine pv_iload_n (M := mX11_feed) 3 dX11_feed_34 35 rfl rfl rfl ?_
    refine pv_callv (M := mX11_feed) (as := [.int x2]) (st := []) (kc2 := 0) (ks2 := 0) dX11_feed_35 wd471 YX10_put ⟨wd472, wd473⟩ (mk_get (tl1 hT)) rfl rfl (s_X10_put_vx g hT I16 x2 (by first | omega | assumption | exact (iv_rng _).2 | exact (iv_rng _).1 | decide)) rfl rfl (Nat.le_of_ble_eq_true rfl) (by decide) rfl rfl 38 rfl (fun rv h1 q20 => ?_)
    obtain ⟨m21, n22, rfl, rfl, I23, K24, rm21⟩ := q20
    replace rm21 : PUT 2 1 1 id x2 m14 m21 := rm21
    have K24c := K24
    have K24 := K17.trans (K24.sub (fun _ _ q => q))
    show PV _ _ _ _ _ _ _ 38 [.ref 0, .int x0, .int x1, .int x2, .int x3, .int x4] [] _
    have t3 : TAP 2 1 1 id [x0, x1, x2] m m21 := TAP_put (by omega) t2 rm21
    have s3 : (m21 1 1).toInt = (m 1 1).toInt + 12 := by have z := t3.1; simpa using z
    refine pv_aload_n (M := mX11_feed) 0 dX11_feed_38 39 rfl rfl rfl ?_
    refine mv_get (M := mX11_feed) (v := .ref 1) dX11_feed_39 FX11 0 wd407 (by decide) (tl0 hT) rfl rfl 42 rfl ?_
    refine pv_iload (M := mX11_feed) dX11_feed_42 44 rfl rfl ?_
    refine pv_callv (M := mX11_feed) (as := [.int x3]) (st := []) (kc2 := 0) (ks2 := 0) dX11_feed_44 wd471 YX10_put ⟨wd472, wd473⟩ (mk_get (tl1 hT)) rfl rfl (s_X10_put_vx g hT I23 x3 (by first | omega | assumption | exact (iv_rng _).2 | exact (iv_rng _).1 | decide)) rfl rfl (Nat.le_of_ble_eq_true rfl) (by decide) rfl rfl 47 rfl (fun rv h1 q27 => ?_)
    obtain ⟨m28, n29, rfl, rfl, I30, K31, rm28⟩ := q27
    replace rm28 : PUT 2 1 1 id x3 m21 m28 := rm28
    have K31c := K31
    have K31 := K24.trans (K31.sub (fun _ _ q => q))
    show PV _ _ _ _ _ _ _ 47 [.ref 0, .int x0, .int x1, .int x2, .int x3, .int x4] [] _
    have t4 : TAP 2 1 1 id [x0, x1, x2, x3] m m28 := TAP_put (by omega) t3 rm28
    have s4 : (m28 1 1).toInt = (m 1 1).toInt + 16 := by have z := t4.1; simpa using z
    refine pv_aload_n (M := mX11_feed) 0 dX11_feed_47 48 rfl rfl rfl ?_
    refine mv_get (M := mX11_feed) (v := .ref 1) dX11_feed_48 FX11 0 wd407 (by decide) (tl0 hT) rfl rfl 51 rfl ?_
    refine pv_iload (M := mX11_feed) dX11_feed_51 53 rfl rfl ?_
    refine pv_callv (M := mX11_feed) (as := [.int x4]) (st := []) (kc2 := 0) (ks2 := 0) dX11_feed_53 wd471 YX10_put ⟨wd472, wd473⟩ (mk_get (tl1 hT)) rfl rfl (s_X10_put_vx g hT I30 x4 (by first | omega | assumption | exact (iv_rng _).2 | exact (iv_rng _).1 | decide)) rfl rfl (Nat.le_of_ble_eq_true rfl) (by decide) rfl rfl 56 rfl (fun rv h1 q34 => ?_)
    obtain ⟨m35, n36, rfl, rfl, I37, K38, rm35⟩ := q34
    replace rm35 : PUT 2 1 1 id x4 m28 m35 := rm35
    have K38c := K38
    have K38 := K31.trans (K38.sub (fun _ _ q => q))
    show PV _ _ _ _ _ _ _ 56 [.ref 0, .int x0, .int x1, .int x2, .int x3, .int x4] [] _
    have t5 : TAP 2 1 1 id [x0, x1, x2, x3, x4] m m35 := TAP_put (by omega) t4 rm35
    have s5 : (m35 1 1).toInt = (m 1 1).toInt + 20 := by have z := t5.1; simpa using z
    refine pv_aload_n (M := mX11_feed) 0 dX11_feed_56 57 rfl rfl rfl ?_
    refine mv_get (M := mX11_feed) (v := .ref 1) dX11_feed_57 FX11 0 wd407 (by decide) (tl0 hT) rfl rfl 60 rfl ?_
    refine iv_get (M := mX11_feed) (l1 := 0) (l2 := 200) dX11_feed_60 FX10 1 wd164 (by decide) (tl1 hT) rfl I37 rfl 63 rfl (fun v41 ev41 pv41 qv41 => ?_)
    have wv41 : v41.toInt = (m35 1 1).toInt := congrArg Int32.toInt ev41
    exact pv_iret (M := mX11_feed) dX11_feed_63 rfl rfl ⟨_, _, _, rfl, rfl, I37, K38, (iv_rng v41).1, (iv_rng v41).2, (by first | exact Or.inl ⟨by omega, by omega, t5⟩ | exact Or.inr ⟨by omega, by decide, rfl, fun _ => rfl⟩)⟩
  · have c5 := iv_eq (X := v3.toInt) (Y := 0) c5 rfl (by decide)
    refine pv_iconst (M := mX11_feed) (v := (-1)) dX11_feed_12 13 rfl (by decide) ?_
    have z42 : ((-1) : Int32).toInt = (-1) := by decide
    exact pv_iret (M := mX11_feed) dX11_feed_13 rfl rfl ⟨_, _, _, rfl, rfl, I, Kp, by decide, by decide, (by first | exact Or.inl ⟨by omega, by omega, t5⟩ | exact Or.inr ⟨by omega, by decide, rfl, fun _ => rfl⟩)⟩

set_option maxHeartbeats 2000000 in
set_option maxRecDepth 20000 in
theorem s_X12_feed_vx (g : pv_G) {T : List mv_T} {m : Nat → Nat → Int32} {n : Nat → Nat → Int64} {r : Nat → Value} (hT : TX T) (I : IV BB m) (x0 : Int32) (x1 : Int32) (x2 : Int32) (x3 : Int32) (x4 : Int32) : PM g mX12_feed yX12_feed (sqI T BB (wl [(123, 123, some 11), (129, 129, none)]) r m (-2147483648) 2147483647 (fun m' v => FDK 129 123 11 (fun z => z % 256) [x0, x1, x2, x3, x4] m m' v.toInt)) 2 0 0 [.ref 123, .int x0, .int x1, .int x2, .int x3, .int x4] (mk T m n r) := by
  have Kp : fr (wl [(123, 123, some 11), (129, 129, none)]) m m := fr.rf
  have z41 : 0 ≤ (m 123 11).toInt ∧ (m 123 11).toInt ≤ 200 := I 123 11
  refine PM.of 0 (lo := [.ref 123, .int x0, .int x1, .int x2, .int x3, .int x4]) rfl (by decide) rfl rfl (Nat.le_of_ble_eq_true rfl) ?_
  refine pv_aload_n (M := mX12_feed) 0 dX12_feed_0 1 rfl rfl rfl ?_
  refine iv_get (M := mX12_feed) (l1 := 0) (l2 := 200) dX12_feed_1 FX12 11 wd1184 (by decide) (tl123 hT) rfl I rfl 4 rfl (fun v1 ev1 pv1 qv1 => ?_)
  have wv1 : v1.toInt = (m 123 11).toInt := congrArg Int32.toInt ev1
  refine pv_bipush (M := mX12_feed) (v := 20) dX12_feed_4 6 rfl (by decide) ?_
  refine iv_iadd (M := mX12_feed) (X := v1.toInt) (Y := 20) dX12_feed_6 7 rfl rfl (by decide) (by omega) (by omega) (fun v2 ev2 => ?_)
  refine pv_sipush (M := mX12_feed) (v := 200) dX12_feed_7 10 rfl (by decide) ?_
  refine pv_icmp_le (M := mX12_feed) (tgt := 15) dX12_feed_10 13 rfl (by decide) (fun c3 => ?_) (fun c3 => ?_)
  · have c3 := iv_le (X := v2.toInt) (Y := 200) c3 rfl (by decide)
    refine pv_aload_n (M := mX12_feed) 0 dX12_feed_15 16 rfl rfl rfl ?_
    refine pv_iload_n (M := mX12_feed) 1 dX12_feed_16 17 rfl rfl rfl ?_
    refine pv_callv (M := mX12_feed) (as := [.int x0]) (st := []) (kc2 := 0) (ks2 := 0) dX12_feed_17 wd1405 YX12_types ⟨wd1407, wd58⟩ (mk_get (tl123 hT)) rfl rfl (s_X12_types_vx g hT I x0 (by first | omega | assumption | exact (iv_rng _).2 | exact (iv_rng _).1 | decide)) rfl rfl (Nat.le_of_ble_eq_true rfl) (by decide) rfl rfl 20 rfl (fun rv h1 q4 => ?_)
    obtain ⟨m5, n6, rfl, rfl, I7, K8, rm5⟩ := q4
    replace rm5 : PUT 129 123 11 (fun z => z % 256) x0 m m5 := rm5
    have K8c := K8
    have K8 := Kp.trans (K8.sub (fun _ _ q => q))
    show PV _ _ _ _ _ _ _ 20 [.ref 123, .int x0, .int x1, .int x2, .int x3, .int x4] [] _
    have t1 : TAP 129 123 11 (fun z => z % 256) [x0] m m5 := TAP_put (by omega) TAP_0 rm5
    have s1 : (m5 123 11).toInt = (m 123 11).toInt + 4 := by have z := t1.1; simpa using z
    refine pv_aload_n (M := mX12_feed) 0 dX12_feed_20 21 rfl rfl rfl ?_
    refine pv_iload_n (M := mX12_feed) 2 dX12_feed_21 22 rfl rfl rfl ?_
    refine pv_callv (M := mX12_feed) (as := [.int x1]) (st := []) (kc2 := 0) (ks2 := 0) dX12_feed_22 wd1405 YX12_types ⟨wd1407, wd58⟩ (mk_get (tl123 hT)) rfl rfl (s_X12_types_vx g hT I7 x1 (by first | omega | assumption | exact (iv_rng _).2 | exact (iv_rng _).1 | decide)) rfl rfl (Nat.le_of_ble_eq_true rfl) (by decide) rfl rfl 25 rfl (fun rv h1 q11 => ?_)
    obtain ⟨m12, n13, rfl, rfl, I14, K15, rm12⟩ := q11
    replace rm12 : PUT 129 123 11 (fun z => z % 256) x1 m5 m12 := rm12
    have K15c := K15
    have K15 := K8.trans (K15.sub (fun _ _ q => q))
    show PV _ _ _ _ _ _ _ 25 [.ref 123, .int x0, .int x1, .int x2, .int x3, .int x4] [] _
    have t2 : TAP 129 123 11 (fun z => z % 256) [x0, x1] m m12 := TAP_put (by omega) t1 rm12
    have s2 : (m12 123 11).toInt = (m 123 11).toInt + 8 := by have z := t2.1; simpa using z
    refine pv_aload_n (M := mX12_feed) 0 dX12_feed_25 26 rfl rfl rfl ?_
    refine pv_iload_n (M := mX12_feed) 3 dX12_feed_26 27 rfl rfl rfl ?_
    refine pv_callv (M := mX12_feed) (as := [.int x2]) (st := []) (kc2 := 0) (ks2 := 0) dX12_feed_27 wd1405 YX12_types ⟨wd1407, wd58⟩ (mk_get (tl123 hT)) rfl rfl (s_X12_types_vx g hT I14 x2 (by first | omega | assumption | exact (iv_rng _).2 | exact (iv_rng _).1 | decide)) rfl rfl (Nat.le_of_ble_eq_true rfl) (by decide) rfl rfl 30 rfl (fun rv h1 q18 => ?_)
    obtain ⟨m19, n20, rfl, rfl, I21, K22, rm19⟩ := q18
    replace rm19 : PUT 129 123 11 (fun z => z % 256) x2 m12 m19 := rm19
    have K22c := K22
    have K22 := K15.trans (K22.sub (fun _ _ q => q))
    show PV _ _ _ _ _ _ _ 30 [.ref 123, .int x0, .int x1, .int x2, .int x3, .int x4] [] _
    have t3 : TAP 129 123 11 (fun z => z % 256) [x0, x1, x2] m m19 := TAP_put (by omega) t2 rm19
    have s3 : (m19 123 11).toInt = (m 123 11).toInt + 12 := by have z := t3.1; simpa using z
    refine pv_aload_n (M := mX12_feed) 0 dX12_feed_30 31 rfl rfl rfl ?_
    refine pv_iload (M := mX12_feed) dX12_feed_31 33 rfl rfl ?_
    refine pv_callv (M := mX12_feed) (as := [.int x3]) (st := []) (kc2 := 0) (ks2 := 0) dX12_feed_33 wd1405 YX12_types ⟨wd1407, wd58⟩ (mk_get (tl123 hT)) rfl rfl (s_X12_types_vx g hT I21 x3 (by first | omega | assumption | exact (iv_rng _).2 | exact (iv_rng _).1 | decide)) rfl rfl (Nat.le_of_ble_eq_true rfl) (by decide) rfl rfl 36 rfl (fun rv h1 q25 => ?_)
    obtain ⟨m26, n27, rfl, rfl, I28, K29, rm26⟩ := q25
    replace rm26 : PUT 129 123 11 (fun z => z % 256) x3 m19 m26 := rm26
    have K29c := K29
    have K29 := K22.trans (K29.sub (fun _ _ q => q))
    show PV _ _ _ _ _ _ _ 36 [.ref 123, .int x0, .int x1, .int x2, .int x3, .int x4] [] _
    have t4 : TAP 129 123 11 (fun z => z % 256) [x0, x1, x2, x3] m m26 := TAP_put (by omega) t3 rm26
    have s4 : (m26 123 11).toInt = (m 123 11).toInt + 16 := by have z := t4.1; simpa using z
    refine pv_aload_n (M := mX12_feed) 0 dX12_feed_36 37 rfl rfl rfl ?_
    refine pv_iload (M := mX12_feed) dX12_feed_37 39 rfl rfl ?_
    refine pv_callv (M := mX12_feed) (as := [.int x4]) (st := []) (kc2 := 0) (ks2 := 0) dX12_feed_39 wd1405 YX12_types ⟨wd1407, wd58⟩ (mk_get (tl123 hT)) rfl rfl (s_X12_types_vx g hT I28 x4 (by first | omega | assumption | exact (iv_rng _).2 | exact (iv_rng _).1 | decide)) rfl rfl (Nat.le_of_ble_eq_true rfl) (by decide) rfl rfl 42 rfl (fun rv h1 q32 => ?_)
    obtain ⟨m33, n34, rfl, rfl, I35, K36, rm33⟩ := q32
    replace rm33 : PUT 129 123 11 (fun z => z % 256) x4 m26 m33 := rm33
    have K36c := K36
    have K36 := K29.trans (K36.sub (fun _ _ q => q))
    show PV _ _ _ _ _ _ _ 42 [.ref 123, .int x0, .int x1, .int x2, .int x3, .int x4] [] _
    have t5 : TAP 129 123 11 (fun z => z % 256) [x0, x1, x2, x3, x4] m m33 := TAP_put (by omega) t4 rm33
    have s5 : (m33 123 11).toInt = (m 123 11).toInt + 20 := by have z := t5.1; simpa using z
    refine pv_aload_n (M := mX12_feed) 0 dX12_feed_42 43 rfl rfl rfl ?_
    refine iv_get (M := mX12_feed) (l1 := 0) (l2 := 200) dX12_feed_43 FX12 11 wd1184 (by decide) (tl123 hT) rfl I35 rfl 46 rfl (fun v39 ev39 pv39 qv39 => ?_)
    have wv39 : v39.toInt = (m33 123 11).toInt := congrArg Int32.toInt ev39
    exact pv_iret (M := mX12_feed) dX12_feed_46 rfl rfl ⟨_, _, _, rfl, rfl, I35, K36, (iv_rng v39).1, (iv_rng v39).2, (by first | exact Or.inl ⟨by omega, by omega, t5⟩ | exact Or.inr ⟨by omega, by decide, rfl, fun _ => rfl⟩)⟩
  · have c3 := iv_nle (X := v2.toInt) (Y := 200) c3 rfl (by decide)
    refine pv_iconst (M := mX12_feed) (v := (-1)) dX12_feed_13 14 rfl (by decide) ?_
    have z40 : ((-1) : Int32).toInt = (-1) := by decide
    exact pv_iret (M := mX12_feed) dX12_feed_14 rfl rfl ⟨_, _, _, rfl, rfl, I, Kp, by decide, by decide, (by first | exact Or.inl ⟨by omega, by omega, t5⟩ | exact Or.inr ⟨by omega, by decide, rfl, fun _ => rfl⟩)⟩

set_option maxHeartbeats 2000000 in
set_option maxRecDepth 20000 in
theorem s_X11_check_vx (g : pv_G) {T : List mv_T} {m : Nat → Nat → Int32} {n : Nat → Nat → Int64} {r : Nat → Value} {la lb : Nat} (hT : TX T) (I : IV BB m) (R : RX T r la lb) (x0 : Int32) (x1 : Int32) : PM g mX11_check yX11_check (sqI T BB (wl [(1, 1, some 1)]) r m (-2147483648) 2147483647 (fun m' v => CKK x0.toInt x1.toInt (m 0 2).toInt (m 1 1).toInt (m' 1 1).toInt)) 2 0 0 [.ref 0, .int x0, .int x1] (mk T m n r) := by
  have Kp : fr (wl [(1, 1, some 1)]) m m := fr.rf
  have R0 := R
  have zR := R.2.2.2.2.1.1
  have zR2 := R.2.2.2.2.2.1
  have z64 : 0 ≤ (m 1 1).toInt ∧ (m 1 1).toInt ≤ 200 := I 1 1
  have z65 : 0 ≤ (m 0 2).toInt ∧ (m 0 2).toInt ≤ 8 := I 0 2
  refine PM.of 2 (lo := [.ref 0, .int x0, .int x1, pv_U, pv_U]) rfl (by decide) rfl rfl (Nat.le_of_ble_eq_true rfl) ?_
  refine pv_aload_n (M := mX11_check) 0 dX11_check_0 1 rfl rfl rfl ?_
  refine pv_iload_n (M := mX11_check) 1 dX11_check_1 2 rfl rfl rfl ?_
  refine pv_callv (M := mX11_check) (as := [.int x0]) (st := []) (kc2 := 0) (ks2 := 0) dX11_check_2 wd700 YX11_isBlank ⟨wd702, wd16⟩ (mk_get (tl0 hT)) rfl rfl (s_X11_isBlank_vx g hT I R x0) rfl rfl (Nat.le_of_ble_eq_true rfl) (by decide) rfl rfl 5 rfl (fun rv h1 q1 => ?_)
  obtain ⟨v2, rfl, rfl, pv2, qv2, rv2⟩ := q1
  replace rv2 : (v2 = 0 ∨ (0 ≤ x0.toInt ∧ x0.toInt ≤ 7)) ∧ ((v2.toInt = 1 ∧ 0 ≤ x0.toInt ∧ x0.toInt < (m 0 2).toInt) ∨ (v2.toInt = 0 ∧ (x0.toInt < 0 ∨ (m 0 2).toInt ≤ x0.toInt))) := rv2
  show PV _ _ _ _ _ _ _ 5 [.ref 0, .int x0, .int x1, pv_U, pv_U] [.int v2] _
  have kB := rv2.2
  refine pv_if_eq (M := mX11_check) (tgt := 25) dX11_check_5 8 rfl (by decide) (fun c4 => ?_) (fun c4 => ?_)
  · have c4 := iv_eq (X := v2.toInt) (Y := 0) c4 rfl (by decide)
    refine pv_bipush (M := mX11_check) (v := (-2)) dX11_check_25 27 rfl (by decide) ?_
    have z5 : ((-2) : Int32).toInt = (-2) := by decide
    exact pv_iret (M := mX11_check) dX11_check_27 rfl rfl ⟨_, _, _, rfl, rfl, I, Kp, by decide, by decide, (by first | exact Or.inr ⟨by omega, by first | omega | rfl⟩ | exact Or.inl ⟨by omega, by omega, by omega, by omega, by first | omega | decide⟩)⟩
  · have pc4 := rv2.1.resolve_left c4
    have c4 := iv_ne (X := v2.toInt) (Y := 0) c4 rfl (by decide)
    refine pv_iload_n (M := mX11_check) 2 dX11_check_8 9 rfl rfl rfl ?_
    refine pv_if_lt (M := mX11_check) (tgt := 25) dX11_check_9 12 rfl (by decide) (fun c6 => ?_) (fun c6 => ?_)
    · have c6 := iv_lt (X := x1.toInt) (Y := 0) c6 rfl (by decide)
      refine pv_bipush (M := mX11_check) (v := (-2)) dX11_check_25 27 rfl (by decide) ?_
      have z7 : ((-2) : Int32).toInt = (-2) := by decide
      exact pv_iret (M := mX11_check) dX11_check_27 rfl rfl ⟨_, _, _, rfl, rfl, I, Kp, by decide, by decide, (by first | exact Or.inr ⟨by omega, by first | omega | rfl⟩ | exact Or.inl ⟨by omega, by omega, by omega, by omega, by first | omega | decide⟩)⟩
    · have c6 := iv_nlt (X := x1.toInt) (Y := 0) c6 rfl (by decide)
      refine pv_iload_n (M := mX11_check) 2 dX11_check_12 13 rfl rfl rfl ?_
      refine pv_aload_n (M := mX11_check) 0 dX11_check_13 14 rfl rfl rfl ?_
      refine mv_get (M := mX11_check) (v := .ref 1) dX11_check_14 FX11 0 wd407 (by decide) (tl0 hT) rfl rfl 17 rfl ?_
      refine iv_get (M := mX11_check) (l1 := 0) (l2 := 200) dX11_check_17 FX10 1 wd164 (by decide) (tl1 hT) rfl I rfl 20 rfl (fun v8 ev8 pv8 qv8 => ?_)
      have wv8 : v8.toInt = (m 1 1).toInt := congrArg Int32.toInt ev8
      refine pv_iconst (M := mX11_check) (v := 4) dX11_check_20 21 rfl (by decide) ?_
      refine iv_idiv (M := mX11_check) (X := v8.toInt) (Y := 4) dX11_check_21 22 rfl rfl (by decide) (by omega) (by omega) (fun v9 ev9 => ?_)
      refine pv_icmp_le (M := mX11_check) (tgt := 28) dX11_check_22 25 rfl (by decide) (fun c10 => ?_) (fun c10 => ?_)
      · have c10 := iv_le (X := x1.toInt) (Y := v9.toInt) c10 rfl rfl
        refine pv_aload_n (M := mX11_check) 0 dX11_check_28 29 rfl rfl rfl ?_
        refine mv_get (M := mX11_check) (v := .ref 3) dX11_check_29 FX11 1 wd408 (by decide) (tl0 hT) rfl rfl 32 rfl ?_
        refine pv_iload_n (M := mX11_check) 1 dX11_check_32 33 rfl rfl rfl ?_
        refine iv_qblank (M := mX11_check) (X := x0.toInt) dX11_check_33 hT R rfl (by omega) (by omega) 34 rfl (fun b11 eb11 hb11 => ?_)
        have zb11 := hb11.2.2.2.2.2.2.2
        refine mv_get (M := mX11_check) (v := .ref (b11 + 3)) dX11_check_34 FX0 1 wd210 (by decide) hb11.1 rfl rfl 37 rfl ?_
        refine pv_astore_n (M := mX11_check) 3 (lo2 := [.ref 0, .int x0, .int x1, .ref (b11 + 3), pv_U]) dX11_check_37 38 rfl rfl (by decide) rfl rfl ?_
        refine pv_iconst (M := mX11_check) (v := 0) dX11_check_38 39 rfl (by decide) ?_
        refine pv_istore (M := mX11_check) (lo2 := [.ref 0, .int x0, .int x1, .ref (b11 + 3), .int 0]) dX11_check_39 41 rfl (by decide) rfl rfl ?_
        have lp18 : ∀ (fuel17 : Nat) (y12 : Int32), (0 ≤ y12.toInt) → (y12.toInt ≤ 40) → ((40 - y12.toInt) : Int).toNat < fuel17 → PV none g mX11_check (sqI T BB (wl [(1, 1, some 1)]) r m (-2147483648) 2147483647 (fun m' v => CKK x0.toInt x1.toInt (m 0 2).toInt (m 1 1).toInt (m' 1 1).toInt)) 2 0 0 41 [.ref 0, .int x0, .int x1, .ref (b11 + 3), .int y12] [] (mk T m n r) := by
          intro fuel17
          induction fuel17 with
          | zero => intro y12 b20 b21 z22; omega
          | succ fuel17 ih19 =>
            intro y12 b20 b21 z22
            refine pv_iload (M := mX11_check) dX11_check_41 43 rfl rfl ?_
            refine pv_iload_n (M := mX11_check) 2 dX11_check_43 44 rfl rfl rfl ?_
            refine pv_icmp_ge (M := mX11_check) (tgt := 80) dX11_check_44 47 rfl (by decide) (fun c23 => ?_) (fun c23 => ?_)
            · have c23 := iv_le (X := x1.toInt) (Y := y12.toInt) c23 rfl rfl
              refine pv_aload_n (M := mX11_check) 0 dX11_check_80 81 rfl rfl rfl ?_
              refine mv_get (M := mX11_check) (v := .ref 1) dX11_check_81 FX11 0 wd407 (by decide) (tl0 hT) rfl rfl 84 rfl ?_
              refine pv_iconst (M := mX11_check) (v := 0) dX11_check_84 85 rfl (by decide) ?_
              refine iv_put (M := mX11_check) (l1 := 0) (l2 := 200) dX11_check_85 FX10 1 wd164 (by decide) rfl (tl1 hT) rfl rfl rfl I rfl (by decide) (by decide) 88 rfl (fun m24 e27 I25 => ?_)
              have K26 := Kp.set e27 rfl
              have w28 : (m24 1 1).toInt = 0 := by rw [e27, up2_eq] <;> rfl
              have w29 : (m24 0 2).toInt = (m 0 2).toInt := by rw [e27, up2_ne (by omega)]
              refine pv_iload (M := mX11_check) dX11_check_88 90 rfl rfl ?_
              refine pv_iload_n (M := mX11_check) 2 dX11_check_90 91 rfl rfl rfl ?_
              refine pv_icmp_ne (M := mX11_check) (tgt := 107) dX11_check_91 94 rfl (by decide) (fun c30 => ?_) (fun c30 => ?_)
              · have c30 := iv_ne (X := y12.toInt) (Y := x1.toInt) c30 rfl rfl
                refine pv_iload (M := mX11_check) dX11_check_107 109 rfl rfl ?_
                exact pv_iret (M := mX11_check) dX11_check_109 rfl rfl ⟨_, _, _, rfl, rfl, I25, K26, (iv_rng y12).1, (iv_rng y12).2, (by first | exact Or.inr ⟨by omega, by first | omega | rfl⟩ | exact Or.inl ⟨by omega, by omega, by omega, by omega, by first | omega | decide⟩)⟩
              · have c30 := iv_eq (X := y12.toInt) (Y := x1.toInt) c30 rfl rfl
                refine pv_iload (M := mX11_check) dX11_check_94 96 rfl rfl ?_
                refine pv_aload_n (M := mX11_check) 3 dX11_check_96 97 rfl rfl rfl ?_
                refine iv_get (M := mX11_check) (l1 := 0) (l2 := 40) dX11_check_97 FX8 1 wd200 (by decide) hb11.2.2.1.1 rfl I25 hb11.2.2.1.2.2.1 100 rfl (fun v31 ev31 pv31 qv31 => ?_)
                refine pv_icmp_ne (M := mX11_check) (tgt := 107) dX11_check_100 103 rfl (by decide) (fun c32 => ?_) (fun c32 => ?_)
                · have c32 := iv_ne (X := y12.toInt) (Y := v31.toInt) c32 rfl rfl
                  refine pv_iload (M := mX11_check) dX11_check_107 109 rfl rfl ?_
                  exact pv_iret (M := mX11_check) dX11_check_109 rfl rfl ⟨_, _, _, rfl, rfl, I25, K26, (iv_rng y12).1, (iv_rng y12).2, (by first | exact Or.inr ⟨by omega, by first | omega | rfl⟩ | exact Or.inl ⟨by omega, by omega, by omega, by omega, by first | omega | decide⟩)⟩
                · have c32 := iv_eq (X := y12.toInt) (Y := v31.toInt) c32 rfl rfl
                  refine pv_iconst (M := mX11_check) (v := (-1)) dX11_check_103 104 rfl (by decide) ?_
                  refine pv_goto (M := mX11_check) (tgt := 109) dX11_check_104 (by decide) ?_
                  have z33 : ((-1) : Int32).toInt = (-1) := by decide
                  exact pv_iret (M := mX11_check) dX11_check_109 rfl rfl ⟨_, _, _, rfl, rfl, I25, K26, by decide, by decide, (by first | exact Or.inr ⟨by omega, by first | omega | rfl⟩ | exact Or.inl ⟨by omega, by omega, by omega, by omega, by first | omega | decide⟩)⟩
            · have c23 := iv_nle (X := x1.toInt) (Y := y12.toInt) c23 rfl rfl
              refine pv_iload (M := mX11_check) dX11_check_47 49 rfl rfl ?_
              refine pv_aload_n (M := mX11_check) 3 dX11_check_49 50 rfl rfl rfl ?_
              refine iv_get (M := mX11_check) (l1 := 0) (l2 := 40) dX11_check_50 FX8 1 wd200 (by decide) hb11.2.2.1.1 rfl I hb11.2.2.1.2.2.1 53 rfl (fun v34 ev34 pv34 qv34 => ?_)
              refine pv_icmp_ge (M := mX11_check) (tgt := 80) dX11_check_53 56 rfl (by decide) (fun c35 => ?_) (fun c35 => ?_)
              · have c35 := iv_le (X := v34.toInt) (Y := y12.toInt) c35 rfl rfl
                refine pv_aload_n (M := mX11_check) 0 dX11_check_80 81 rfl rfl rfl ?_
                refine mv_get (M := mX11_check) (v := .ref 1) dX11_check_81 FX11 0 wd407 (by decide) (tl0 hT) rfl rfl 84 rfl ?_
                refine pv_iconst (M := mX11_check) (v := 0) dX11_check_84 85 rfl (by decide) ?_
                refine iv_put (M := mX11_check) (l1 := 0) (l2 := 200) dX11_check_85 FX10 1 wd164 (by decide) rfl (tl1 hT) rfl rfl rfl I rfl (by decide) (by decide) 88 rfl (fun m36 e39 I37 => ?_)
                have K38 := Kp.set e39 rfl
                have w40 : (m36 1 1).toInt = 0 := by rw [e39, up2_eq] <;> rfl
                have w41 : (m36 0 2).toInt = (m 0 2).toInt := by rw [e39, up2_ne (by omega)]
                refine pv_iload (M := mX11_check) dX11_check_88 90 rfl rfl ?_
                refine pv_iload_n (M := mX11_check) 2 dX11_check_90 91 rfl rfl rfl ?_
                refine pv_icmp_ne (M := mX11_check) (tgt := 107) dX11_check_91 94 rfl (by decide) (fun c42 => ?_) (fun c42 => ?_)
                · have c42 := iv_ne (X := y12.toInt) (Y := x1.toInt) c42 rfl rfl
                  refine pv_iload (M := mX11_check) dX11_check_107 109 rfl rfl ?_
                  exact pv_iret (M := mX11_check) dX11_check_109 rfl rfl ⟨_, _, _, rfl, rfl, I37, K38, (iv_rng y12).1, (iv_rng y12).2, (by first | exact Or.inr ⟨by omega, by first | omega | rfl⟩ | exact Or.inl ⟨by omega, by omega, by omega, by omega, by first | omega | decide⟩)⟩
                · have c42 := iv_eq (X := y12.toInt) (Y := x1.toInt) c42 rfl rfl
                  refine pv_iload (M := mX11_check) dX11_check_94 96 rfl rfl ?_
                  refine pv_aload_n (M := mX11_check) 3 dX11_check_96 97 rfl rfl rfl ?_
                  refine iv_get (M := mX11_check) (l1 := 0) (l2 := 40) dX11_check_97 FX8 1 wd200 (by decide) hb11.2.2.1.1 rfl I37 hb11.2.2.1.2.2.1 100 rfl (fun v43 ev43 pv43 qv43 => ?_)
                  refine pv_icmp_ne (M := mX11_check) (tgt := 107) dX11_check_100 103 rfl (by decide) (fun c44 => ?_) (fun c44 => ?_)
                  · have c44 := iv_ne (X := y12.toInt) (Y := v43.toInt) c44 rfl rfl
                    refine pv_iload (M := mX11_check) dX11_check_107 109 rfl rfl ?_
                    exact pv_iret (M := mX11_check) dX11_check_109 rfl rfl ⟨_, _, _, rfl, rfl, I37, K38, (iv_rng y12).1, (iv_rng y12).2, (by first | exact Or.inr ⟨by omega, by first | omega | rfl⟩ | exact Or.inl ⟨by omega, by omega, by omega, by omega, by first | omega | decide⟩)⟩
                  · have c44 := iv_eq (X := y12.toInt) (Y := v43.toInt) c44 rfl rfl
                    refine pv_iconst (M := mX11_check) (v := (-1)) dX11_check_103 104 rfl (by decide) ?_
                    refine pv_goto (M := mX11_check) (tgt := 109) dX11_check_104 (by decide) ?_
                    have z45 : ((-1) : Int32).toInt = (-1) := by decide
                    exact pv_iret (M := mX11_check) dX11_check_109 rfl rfl ⟨_, _, _, rfl, rfl, I37, K38, by decide, by decide, (by first | exact Or.inr ⟨by omega, by first | omega | rfl⟩ | exact Or.inl ⟨by omega, by omega, by omega, by omega, by first | omega | decide⟩)⟩
              · have c35 := iv_nle (X := v34.toInt) (Y := y12.toInt) c35 rfl rfl
                refine pv_aload_n (M := mX11_check) 0 dX11_check_56 57 rfl rfl rfl ?_
                refine mv_get (M := mX11_check) (v := .ref 1) dX11_check_57 FX11 0 wd407 (by decide) (tl0 hT) rfl rfl 60 rfl ?_
                refine pv_iload (M := mX11_check) dX11_check_60 62 rfl rfl ?_
                refine pv_callv (M := mX11_check) (as := [.int y12]) (st := []) (kc2 := 0) (ks2 := 0) dX11_check_62 wd1155 YX10_numberAt ⟨wd1156, wd1157⟩ (mk_get (tl1 hT)) rfl rfl (s_X10_numberAt g hT I y12) rfl rfl (Nat.le_of_ble_eq_true rfl) (by decide) rfl rfl 65 rfl (fun rv h1 q46 => ?_)
                obtain ⟨v47, rfl, rfl, pv47, qv47, rv47⟩ := q46
                show PV _ _ _ _ _ _ _ 65 [.ref 0, .int x0, .int x1, .ref (b11 + 3), .int y12] [.int v47] _
                refine pv_aload_n (M := mX11_check) 3 dX11_check_65 66 rfl rfl rfl ?_
                refine pv_iload (M := mX11_check) dX11_check_66 68 rfl rfl ?_
                refine pv_callv (M := mX11_check) (as := [.int y12]) (st := [.int v47]) (kc2 := 0) (ks2 := 0) dX11_check_68 wd704 YX8_at ⟨wd705, wd706⟩ (mk_get hb11.2.2.1.1) rfl rfl (s_X8_at g hT I (b11 + 3) 40 hb11.2.2.1 y12) rfl rfl (Nat.le_of_ble_eq_true rfl) (by decide) rfl rfl 71 rfl (fun rv h1 q48 => ?_)
                obtain ⟨v49, rfl, rfl, pv49, qv49, rv49⟩ := q48
                replace rv49 : v49.toInt = atv m (b11 + 3) y12.toInt := rv49
                show PV _ _ _ _ _ _ _ 71 [.ref 0, .int x0, .int x1, .ref (b11 + 3), .int y12] [.int v49, .int v47] _
                refine pv_icmp_ne (M := mX11_check) (tgt := 80) dX11_check_71 74 rfl (by decide) (fun c50 => ?_) (fun c50 => ?_)
                · have c50 := iv_ne (X := v47.toInt) (Y := v49.toInt) c50 rfl rfl
                  refine pv_aload_n (M := mX11_check) 0 dX11_check_80 81 rfl rfl rfl ?_
                  refine mv_get (M := mX11_check) (v := .ref 1) dX11_check_81 FX11 0 wd407 (by decide) (tl0 hT) rfl rfl 84 rfl ?_
                  refine pv_iconst (M := mX11_check) (v := 0) dX11_check_84 85 rfl (by decide) ?_
                  refine iv_put (M := mX11_check) (l1 := 0) (l2 := 200) dX11_check_85 FX10 1 wd164 (by decide) rfl (tl1 hT) rfl rfl rfl I rfl (by decide) (by decide) 88 rfl (fun m51 e54 I52 => ?_)
                  have K53 := Kp.set e54 rfl
                  have w55 : (m51 1 1).toInt = 0 := by rw [e54, up2_eq] <;> rfl
                  have w56 : (m51 0 2).toInt = (m 0 2).toInt := by rw [e54, up2_ne (by omega)]
                  refine pv_iload (M := mX11_check) dX11_check_88 90 rfl rfl ?_
                  refine pv_iload_n (M := mX11_check) 2 dX11_check_90 91 rfl rfl rfl ?_
                  refine pv_icmp_ne (M := mX11_check) (tgt := 107) dX11_check_91 94 rfl (by decide) (fun c57 => ?_) (fun c57 => ?_)
                  · have c57 := iv_ne (X := y12.toInt) (Y := x1.toInt) c57 rfl rfl
                    refine pv_iload (M := mX11_check) dX11_check_107 109 rfl rfl ?_
                    exact pv_iret (M := mX11_check) dX11_check_109 rfl rfl ⟨_, _, _, rfl, rfl, I52, K53, (iv_rng y12).1, (iv_rng y12).2, (by first | exact Or.inr ⟨by omega, by first | omega | rfl⟩ | exact Or.inl ⟨by omega, by omega, by omega, by omega, by first | omega | decide⟩)⟩
                  · have c57 := iv_eq (X := y12.toInt) (Y := x1.toInt) c57 rfl rfl
                    refine pv_iload (M := mX11_check) dX11_check_94 96 rfl rfl ?_
                    refine pv_aload_n (M := mX11_check) 3 dX11_check_96 97 rfl rfl rfl ?_
                    refine iv_get (M := mX11_check) (l1 := 0) (l2 := 40) dX11_check_97 FX8 1 wd200 (by decide) hb11.2.2.1.1 rfl I52 hb11.2.2.1.2.2.1 100 rfl (fun v58 ev58 pv58 qv58 => ?_)
                    refine pv_icmp_ne (M := mX11_check) (tgt := 107) dX11_check_100 103 rfl (by decide) (fun c59 => ?_) (fun c59 => ?_)
                    · have c59 := iv_ne (X := y12.toInt) (Y := v58.toInt) c59 rfl rfl
                      refine pv_iload (M := mX11_check) dX11_check_107 109 rfl rfl ?_
                      exact pv_iret (M := mX11_check) dX11_check_109 rfl rfl ⟨_, _, _, rfl, rfl, I52, K53, (iv_rng y12).1, (iv_rng y12).2, (by first | exact Or.inr ⟨by omega, by first | omega | rfl⟩ | exact Or.inl ⟨by omega, by omega, by omega, by omega, by first | omega | decide⟩)⟩
                    · have c59 := iv_eq (X := y12.toInt) (Y := v58.toInt) c59 rfl rfl
                      refine pv_iconst (M := mX11_check) (v := (-1)) dX11_check_103 104 rfl (by decide) ?_
                      refine pv_goto (M := mX11_check) (tgt := 109) dX11_check_104 (by decide) ?_
                      have z60 : ((-1) : Int32).toInt = (-1) := by decide
                      exact pv_iret (M := mX11_check) dX11_check_109 rfl rfl ⟨_, _, _, rfl, rfl, I52, K53, by decide, by decide, (by first | exact Or.inr ⟨by omega, by first | omega | rfl⟩ | exact Or.inl ⟨by omega, by omega, by omega, by omega, by first | omega | decide⟩)⟩
                · have c50 := iv_eq (X := v47.toInt) (Y := v49.toInt) c50 rfl rfl
                  refine iv_inc (M := mX11_check) (C := 1) dX11_check_74 77 rfl rfl (by decide) rfl rfl (by decide) (by omega) (by omega) (fun v61 ev61 => ?_)
                  show PV _ _ _ _ _ _ _ 77 [.ref 0, .int x0, .int x1, .ref (b11 + 3), .int v61] [] _
                  refine pv_goto (M := mX11_check) (tgt := 41) dX11_check_77 (by decide) ?_
                  exact ih19 v61 (by first | omega | assumption | exact (iv_rng _).2 | exact (iv_rng _).1 | decide) (by first | omega | assumption | exact (iv_rng _).2 | exact (iv_rng _).1 | decide) (by omega)
        have z62 : (0 : Int32).toInt = 0 := by decide
        exact lp18 (((40 - 0) : Int).toNat + 1) 0 (by first | omega | assumption | exact (iv_rng _).2 | exact (iv_rng _).1 | decide) (by first | omega | assumption | exact (iv_rng _).2 | exact (iv_rng _).1 | decide) (by omega)
      · have c10 := iv_nle (X := x1.toInt) (Y := v9.toInt) c10 rfl rfl
        refine pv_bipush (M := mX11_check) (v := (-2)) dX11_check_25 27 rfl (by decide) ?_
        have z63 : ((-2) : Int32).toInt = (-2) := by decide
        exact pv_iret (M := mX11_check) dX11_check_27 rfl rfl ⟨_, _, _, rfl, rfl, I, Kp, by decide, by decide, (by first | exact Or.inr ⟨by omega, by first | omega | rfl⟩ | exact Or.inl ⟨by omega, by omega, by omega, by omega, by first | omega | decide⟩)⟩

set_option maxHeartbeats 2000000 in
set_option maxRecDepth 20000 in
theorem s_X12_check_vx (g : pv_G) {T : List mv_T} {m : Nat → Nat → Int32} {n : Nat → Nat → Int64} {r : Nat → Value} (hT : TX T) (I : IV BB m) (x0 : Int32) (x1 : Int32) : PM g mX12_check yX12_check (sqI T BB (wl [(123, 123, some 11), (123, 123, some 40), (149, 149, none)]) r m (-2147483648) 2147483647 (fun m' v => CKK x0.toInt x1.toInt (m 123 0).toInt (m 123 11).toInt (m' 123 11).toInt)) 2 0 0 [.ref 123, .int x0, .int x1] (mk T m n r) := by
  have Kp : fr (wl [(123, 123, some 11), (123, 123, some 40), (149, 149, none)]) m m := fr.rf
  have z54 : 0 ≤ (m 123 40).toInt ∧ (m 123 40).toInt ≤ 40 := I 123 40
  have z55 : 0 ≤ (m 123 0).toInt ∧ (m 123 0).toInt ≤ 8 := I 123 0
  have z56 : 0 ≤ (m 123 11).toInt ∧ (m 123 11).toInt ≤ 200 := I 123 11
  refine PM.of 1 (lo := [.ref 123, .int x0, .int x1, pv_U]) rfl (by decide) rfl rfl (Nat.le_of_ble_eq_true rfl) ?_
  refine pv_aload_n (M := mX12_check) 0 dX12_check_0 1 rfl rfl rfl ?_
  refine pv_iload_n (M := mX12_check) 1 dX12_check_1 2 rfl rfl rfl ?_
  refine pv_callv (M := mX12_check) (as := [.int x0]) (st := []) (kc2 := 0) (ks2 := 0) dX12_check_2 wd1389 YX12_isBlank ⟨wd1391, wd55⟩ (mk_get (tl123 hT)) rfl rfl (s_X12_isBlank_vx g hT I x0) rfl rfl (Nat.le_of_ble_eq_true rfl) (by decide) rfl rfl 5 rfl (fun rv h1 q1 => ?_)
  obtain ⟨v2, rfl, rfl, pv2, qv2, rv2⟩ := q1
  replace rv2 : (v2 = 0 ∨ (0 ≤ x0.toInt ∧ x0.toInt ≤ 7)) ∧ ((v2.toInt = 1 ∧ 0 ≤ x0.toInt ∧ x0.toInt < (m 123 0).toInt) ∨ (v2.toInt = 0 ∧ (x0.toInt < 0 ∨ (m 123 0).toInt ≤ x0.toInt))) := rv2
  show PV _ _ _ _ _ _ _ 5 [.ref 123, .int x0, .int x1, pv_U] [.int v2] _
  have kB := rv2.2
  refine pv_if_eq (M := mX12_check) (tgt := 22) dX12_check_5 8 rfl (by decide) (fun c4 => ?_) (fun c4 => ?_)
  · have c4 := iv_eq (X := v2.toInt) (Y := 0) c4 rfl (by decide)
    refine pv_bipush (M := mX12_check) (v := (-2)) dX12_check_22 24 rfl (by decide) ?_
    have z5 : ((-2) : Int32).toInt = (-2) := by decide
    exact pv_iret (M := mX12_check) dX12_check_24 rfl rfl ⟨_, _, _, rfl, rfl, I, Kp, by decide, by decide, (by first | exact Or.inr ⟨by omega, by first | omega | rfl⟩ | exact Or.inl ⟨by omega, by omega, by omega, by omega, by first | omega | decide⟩)⟩
  · have pc4 := rv2.1.resolve_left c4
    have c4 := iv_ne (X := v2.toInt) (Y := 0) c4 rfl (by decide)
    refine pv_iload_n (M := mX12_check) 2 dX12_check_8 9 rfl rfl rfl ?_
    refine pv_if_lt (M := mX12_check) (tgt := 22) dX12_check_9 12 rfl (by decide) (fun c6 => ?_) (fun c6 => ?_)
    · have c6 := iv_lt (X := x1.toInt) (Y := 0) c6 rfl (by decide)
      refine pv_bipush (M := mX12_check) (v := (-2)) dX12_check_22 24 rfl (by decide) ?_
      have z7 : ((-2) : Int32).toInt = (-2) := by decide
      exact pv_iret (M := mX12_check) dX12_check_24 rfl rfl ⟨_, _, _, rfl, rfl, I, Kp, by decide, by decide, (by first | exact Or.inr ⟨by omega, by first | omega | rfl⟩ | exact Or.inl ⟨by omega, by omega, by omega, by omega, by first | omega | decide⟩)⟩
    · have c6 := iv_nlt (X := x1.toInt) (Y := 0) c6 rfl (by decide)
      refine pv_iload_n (M := mX12_check) 2 dX12_check_12 13 rfl rfl rfl ?_
      refine pv_aload_n (M := mX12_check) 0 dX12_check_13 14 rfl rfl rfl ?_
      refine iv_get (M := mX12_check) (l1 := 0) (l2 := 200) dX12_check_14 FX12 11 wd1184 (by decide) (tl123 hT) rfl I rfl 17 rfl (fun v8 ev8 pv8 qv8 => ?_)
      have wv8 : v8.toInt = (m 123 11).toInt := congrArg Int32.toInt ev8
      refine pv_iconst (M := mX12_check) (v := 4) dX12_check_17 18 rfl (by decide) ?_
      refine iv_idiv (M := mX12_check) (X := v8.toInt) (Y := 4) dX12_check_18 19 rfl rfl (by decide) (by omega) (by omega) (fun v9 ev9 => ?_)
      refine pv_icmp_le (M := mX12_check) (tgt := 25) dX12_check_19 22 rfl (by decide) (fun c10 => ?_) (fun c10 => ?_)
      · have c10 := iv_le (X := x1.toInt) (Y := v9.toInt) c10 rfl rfl
        refine pv_aload_n (M := mX12_check) 0 dX12_check_25 26 rfl rfl rfl ?_
        refine pv_iconst (M := mX12_check) (v := 0) dX12_check_26 27 rfl (by decide) ?_
        refine iv_put (M := mX12_check) (l1 := 0) (l2 := 200) dX12_check_27 FX12 11 wd1184 (by decide) rfl (tl123 hT) rfl rfl rfl I rfl (by decide) (by decide) 30 rfl (fun m11 e14 I12 => ?_)
        have K13 := Kp.set e14 rfl
        have w15 : (m11 123 40).toInt = (m 123 40).toInt := by rw [e14, up2_ne (by omega)]
        have w16 : (m11 123 0).toInt = (m 123 0).toInt := by rw [e14, up2_ne (by omega)]
        have w17 : (m11 123 11).toInt = 0 := by rw [e14, up2_eq] <;> rfl
        refine pv_aload_n (M := mX12_check) 0 dX12_check_30 31 rfl rfl rfl ?_
        refine pv_iload_n (M := mX12_check) 1 dX12_check_31 32 rfl rfl rfl ?_
        refine pv_iconst (M := mX12_check) (v := 0) dX12_check_32 33 rfl (by decide) ?_
        have z18 : (0 : Int32).toInt = 0 := by decide
        refine pv_callv (M := mX12_check) (as := [.int x0, .int 0]) (st := []) (kc2 := 0) (ks2 := 0) dX12_check_33 wd1563 YX12_laysBlank ⟨wd1565, wd88⟩ (mk_get (tl123 hT)) rfl rfl (s_X12_laysBlank g hT I12 x0 (by omega) (by omega) 0 (by decide) (by decide)) rfl rfl (Nat.le_of_ble_eq_true rfl) (by decide) rfl rfl 36 rfl (fun rv h1 q19 => ?_)
        obtain ⟨m20, n21, rfl, rfl, I22, K23, rm20⟩ := q19
        replace rm20 : (0 : Int) = 0 → (m20 123 40).toInt = nu m20 x0.toInt 0 := by have q_ := rm20; (try rw [z18] at q_); exact q_
        have K23c := K23
        have w24 : (m20 123 0).toInt = (m11 123 0).toInt := congrArg Int32.toInt (K23 123 0 rfl)
        have w25 : (m20 123 11).toInt = (m11 123 11).toInt := congrArg Int32.toInt (K23 123 11 rfl)
        have K23 := K13.trans (K23.sub (wl_sub (by decide)))
        show PV _ _ _ _ _ _ _ 36 [.ref 123, .int x0, .int x1, pv_U] [] _
        refine pv_iconst (M := mX12_check) (v := 0) dX12_check_36 37 rfl (by decide) ?_
        refine pv_istore_n (M := mX12_check) 3 (lo2 := [.ref 123, .int x0, .int x1, .int 0]) dX12_check_37 38 rfl rfl (by decide) rfl rfl ?_
        have lp32 : ∀ (fuel31 : Nat) (y26 : Int32), (0 ≤ y26.toInt) → (y26.toInt ≤ 40) → (y26.toInt ≤ x1.toInt) → ((m20 123 11).toInt = 0) → ((m20 123 0).toInt = (m 123 0).toInt) → ((40 - y26.toInt) : Int).toNat < fuel31 → PV none g mX12_check (sqI T BB (wl [(123, 123, some 11), (123, 123, some 40), (149, 149, none)]) r m (-2147483648) 2147483647 (fun m' v => CKK x0.toInt x1.toInt (m 123 0).toInt (m 123 11).toInt (m' 123 11).toInt)) 2 0 0 38 [.ref 123, .int x0, .int x1, .int y26] [] (mk T m20 n21 r) := by
          intro fuel31
          induction fuel31 with
          | zero => intro y26 b34 b35 b36 b37 b38 z39; omega
          | succ fuel31 ih33 =>
            intro y26 b34 b35 b36 b37 b38 z39
            refine pv_iload_n (M := mX12_check) 3 dX12_check_38 39 rfl rfl rfl ?_
            refine pv_aload_n (M := mX12_check) 0 dX12_check_39 40 rfl rfl rfl ?_
            refine iv_get (M := mX12_check) (l1 := 0) (l2 := 40) dX12_check_40 FX12 40 wd1213 (by decide) (tl123 hT) rfl I22 rfl 43 rfl (fun v40 ev40 pv40 qv40 => ?_)
            have wv40 : v40.toInt = (m20 123 40).toInt := congrArg Int32.toInt ev40
            refine pv_icmp_ge (M := mX12_check) (tgt := 73) dX12_check_43 46 rfl (by decide) (fun c41 => ?_) (fun c41 => ?_)
            · have c41 := iv_le (X := v40.toInt) (Y := y26.toInt) c41 rfl rfl
              refine pv_aload_n (M := mX12_check) 0 dX12_check_73 74 rfl rfl rfl ?_
              refine iv_get (M := mX12_check) (l1 := 0) (l2 := 40) dX12_check_74 FX12 40 wd1213 (by decide) (tl123 hT) rfl I22 rfl 77 rfl (fun v42 ev42 pv42 qv42 => ?_)
              have wv42 : v42.toInt = (m20 123 40).toInt := congrArg Int32.toInt ev42
              refine pv_iload_n (M := mX12_check) 2 dX12_check_77 78 rfl rfl rfl ?_
              refine pv_icmp_ge (M := mX12_check) (tgt := 88) dX12_check_78 81 rfl (by decide) (fun c43 => ?_) (fun c43 => ?_)
              · have c43 := iv_le (X := x1.toInt) (Y := v42.toInt) c43 rfl rfl
                refine pv_iconst (M := mX12_check) (v := (-1)) dX12_check_88 89 rfl (by decide) ?_
                have z44 : ((-1) : Int32).toInt = (-1) := by decide
                exact pv_iret (M := mX12_check) dX12_check_89 rfl rfl ⟨_, _, _, rfl, rfl, I22, K23, by decide, by decide, (by first | exact Or.inr ⟨by omega, by first | omega | rfl⟩ | exact Or.inl ⟨by omega, by omega, by omega, by omega, by first | omega | decide⟩)⟩
              · have c43 := iv_nle (X := x1.toInt) (Y := v42.toInt) c43 rfl rfl
                refine pv_aload_n (M := mX12_check) 0 dX12_check_81 82 rfl rfl rfl ?_
                refine iv_get (M := mX12_check) (l1 := 0) (l2 := 40) dX12_check_82 FX12 40 wd1213 (by decide) (tl123 hT) rfl I22 rfl 85 rfl (fun v45 ev45 pv45 qv45 => ?_)
                have wv45 : v45.toInt = (m20 123 40).toInt := congrArg Int32.toInt ev45
                refine pv_goto (M := mX12_check) (tgt := 89) dX12_check_85 (by decide) ?_
                exact pv_iret (M := mX12_check) dX12_check_89 rfl rfl ⟨_, _, _, rfl, rfl, I22, K23, (iv_rng v45).1, (iv_rng v45).2, (by first | exact Or.inr ⟨by omega, by first | omega | rfl⟩ | exact Or.inl ⟨by omega, by omega, by omega, by omega, by first | omega | decide⟩)⟩
            · have c41 := iv_nle (X := v40.toInt) (Y := y26.toInt) c41 rfl rfl
              refine pv_iload_n (M := mX12_check) 3 dX12_check_46 47 rfl rfl rfl ?_
              refine pv_iload_n (M := mX12_check) 2 dX12_check_47 48 rfl rfl rfl ?_
              refine pv_icmp_eq (M := mX12_check) (tgt := 65) dX12_check_48 51 rfl (by decide) (fun c46 => ?_) (fun c46 => ?_)
              · have c46 := iv_eq (X := y26.toInt) (Y := x1.toInt) c46 rfl rfl
                refine pv_iload_n (M := mX12_check) 3 dX12_check_65 66 rfl rfl rfl ?_
                exact pv_iret (M := mX12_check) dX12_check_66 rfl rfl ⟨_, _, _, rfl, rfl, I22, K23, (iv_rng y26).1, (iv_rng y26).2, (by first | exact Or.inr ⟨by omega, by first | omega | rfl⟩ | exact Or.inl ⟨by omega, by omega, by omega, by omega, by first | omega | decide⟩)⟩
              · have c46 := iv_ne (X := y26.toInt) (Y := x1.toInt) c46 rfl rfl
                refine pv_aload_n (M := mX12_check) 0 dX12_check_51 52 rfl rfl rfl ?_
                refine pv_iload_n (M := mX12_check) 3 dX12_check_52 53 rfl rfl rfl ?_
                refine pv_callv (M := mX12_check) (as := [.int y26]) (st := []) (kc2 := 0) (ks2 := 0) dX12_check_53 wd1787 YX12_tapeNumber ⟨wd1789, wd122⟩ (mk_get (tl123 hT)) rfl rfl (s_X12_tapeNumber g hT I22 y26 (by omega) (by omega)) rfl rfl (Nat.le_of_ble_eq_true rfl) (by decide) rfl rfl 56 rfl (fun rv h1 q47 => ?_)
                obtain ⟨v48, rfl, rfl, pv48, qv48, rv48⟩ := q47
                show PV _ _ _ _ _ _ _ 56 [.ref 123, .int x0, .int x1, .int y26] [.int v48] _
                refine pv_aload_n (M := mX12_check) 0 dX12_check_56 57 rfl rfl rfl ?_
                refine mv_get (M := mX12_check) (v := .ref 149) dX12_check_57 FX12 42 wd1215 (by decide) (tl123 hT) rfl rfl 60 rfl ?_
                refine pv_iload_n (M := mX12_check) 3 dX12_check_60 61 rfl rfl rfl ?_
                refine iv_iald (M := mX12_check) (X := y26.toInt) (l1 := 0) (l2 := 25) dX12_check_61 (tl149 hT) rfl (by omega) (by omega) I22 (fun _ => rfl) 62 rfl (fun v49 ev49 pv49 qv49 => ?_)
                refine pv_icmp_eq (M := mX12_check) (tgt := 67) dX12_check_62 65 rfl (by decide) (fun c50 => ?_) (fun c50 => ?_)
                · have c50 := iv_eq (X := v48.toInt) (Y := v49.toInt) c50 rfl rfl
                  refine iv_inc (M := mX12_check) (C := 1) dX12_check_67 70 rfl rfl (by decide) rfl rfl (by decide) (by omega) (by omega) (fun v51 ev51 => ?_)
                  show PV _ _ _ _ _ _ _ 70 [.ref 123, .int x0, .int x1, .int v51] [] _
                  refine pv_goto (M := mX12_check) (tgt := 38) dX12_check_70 (by decide) ?_
                  exact ih33 v51 (by first | omega | assumption | exact (iv_rng _).2 | exact (iv_rng _).1 | decide) (by first | omega | assumption | exact (iv_rng _).2 | exact (iv_rng _).1 | decide) (by first | omega | assumption | (show v51.toInt ≤ x1.toInt; omega) | decide) (by first | omega | assumption | (show (m20 123 11).toInt = 0; omega) | decide) (by first | omega | assumption | (show (m20 123 0).toInt = (m 123 0).toInt; omega) | decide) (by omega)
                · have c50 := iv_ne (X := v48.toInt) (Y := v49.toInt) c50 rfl rfl
                  refine pv_iload_n (M := mX12_check) 3 dX12_check_65 66 rfl rfl rfl ?_
                  exact pv_iret (M := mX12_check) dX12_check_66 rfl rfl ⟨_, _, _, rfl, rfl, I22, K23, (iv_rng y26).1, (iv_rng y26).2, (by first | exact Or.inr ⟨by omega, by first | omega | rfl⟩ | exact Or.inl ⟨by omega, by omega, by omega, by omega, by first | omega | decide⟩)⟩
        have z52 : (0 : Int32).toInt = 0 := by decide
        exact lp32 (((40 - 0) : Int).toNat + 1) 0 (by first | omega | assumption | exact (iv_rng _).2 | exact (iv_rng _).1 | decide) (by first | omega | assumption | exact (iv_rng _).2 | exact (iv_rng _).1 | decide) (by first | omega | assumption | (show 0 ≤ x1.toInt; omega) | decide) (by first | omega | assumption | (show (m20 123 11).toInt = 0; omega) | decide) (by first | omega | assumption | (show (m20 123 0).toInt = (m 123 0).toInt; omega) | decide) (by omega)
      · have c10 := iv_nle (X := x1.toInt) (Y := v9.toInt) c10 rfl rfl
        refine pv_bipush (M := mX12_check) (v := (-2)) dX12_check_22 24 rfl (by decide) ?_
        have z53 : ((-2) : Int32).toInt = (-2) := by decide
        exact pv_iret (M := mX12_check) dX12_check_24 rfl rfl ⟨_, _, _, rfl, rfl, I, Kp, by decide, by decide, (by first | exact Or.inr ⟨by omega, by first | omega | rfl⟩ | exact Or.inl ⟨by omega, by omega, by omega, by omega, by first | omega | decide⟩)⟩

set_option maxHeartbeats 2000000 in
set_option maxRecDepth 20000 in
theorem s_X11_day_vx (g : pv_G) {T : List mv_T} {m : Nat → Nat → Int32} {n : Nat → Nat → Int64} {r : Nat → Value} {la lb : Nat} (hT : TX T) (I : IV BB m) (R : RX T r la lb) (x0 : Int32) : PM g mX11_day yX11_day (sqI T BB (wl [(0, 0, some 7)]) r m 0 1 (fun m' v => (v.toInt = 1 ∧ (m 0 7).toInt ≤ x0.toInt ∧ x0.toInt ≤ 999 ∧ (m' 0 7).toInt = x0.toInt) ∨ (v.toInt = 0 ∧ (x0.toInt < (m 0 7).toInt ∨ 999 < x0.toInt) ∧ (m' 0 7).toInt = (m 0 7).toInt))) 1 0 0 [.ref 0, .int x0] (mk T m n r) := by
  have Kp : fr (wl [(0, 0, some 7)]) m m := fr.rf
  have R0 := R
  have zR := R.2.2.2.2.1.1
  have zR2 := R.2.2.2.2.2.1
  have z12 : 0 ≤ (m 0 7).toInt ∧ (m 0 7).toInt ≤ 999 := I 0 7
  refine PM.of 0 (lo := [.ref 0, .int x0]) rfl (by decide) rfl rfl (Nat.le_of_ble_eq_true rfl) ?_
  refine pv_iload_n (M := mX11_day) 1 dX11_day_0 1 rfl rfl rfl ?_
  refine pv_aload_n (M := mX11_day) 0 dX11_day_1 2 rfl rfl rfl ?_
  refine iv_get (M := mX11_day) (l1 := 0) (l2 := 999) dX11_day_2 FX11 7 wd414 (by decide) (tl0 hT) rfl I rfl 5 rfl (fun v1 ev1 pv1 qv1 => ?_)
  have wv1 : v1.toInt = (m 0 7).toInt := congrArg Int32.toInt ev1
  refine pv_icmp_lt (M := mX11_day) (tgt := 15) dX11_day_5 8 rfl (by decide) (fun c2 => ?_) (fun c2 => ?_)
  · have c2 := iv_lt (X := x0.toInt) (Y := v1.toInt) c2 rfl rfl
    refine pv_iconst (M := mX11_day) (v := 0) dX11_day_15 16 rfl (by decide) ?_
    have z3 : (0 : Int32).toInt = 0 := by decide
    exact pv_iret (M := mX11_day) dX11_day_16 rfl rfl ⟨_, _, _, rfl, rfl, I, Kp, by decide, by decide, (Or.inr ⟨by decide, by omega, by omega⟩)⟩
  · have c2 := iv_nlt (X := x0.toInt) (Y := v1.toInt) c2 rfl rfl
    refine pv_iload_n (M := mX11_day) 1 dX11_day_8 9 rfl rfl rfl ?_
    refine pv_sipush (M := mX11_day) (v := 1000) dX11_day_9 12 rfl (by decide) ?_
    refine pv_icmp_lt (M := mX11_day) (tgt := 17) dX11_day_12 15 rfl (by decide) (fun c4 => ?_) (fun c4 => ?_)
    · have c4 := iv_lt (X := x0.toInt) (Y := 1000) c4 rfl (by decide)
      refine pv_aload_n (M := mX11_day) 0 dX11_day_17 18 rfl rfl rfl ?_
      refine pv_iload_n (M := mX11_day) 1 dX11_day_18 19 rfl rfl rfl ?_
      refine iv_put (M := mX11_day) (l1 := 0) (l2 := 999) dX11_day_19 FX11 7 wd414 (by decide) rfl (tl0 hT) rfl rfl rfl I rfl (by omega) (by omega) 22 rfl (fun m5 e8 I6 => ?_)
      have K7 := Kp.set e8 rfl
      have w9 : (m5 0 7).toInt = x0.toInt := by rw [e8, up2_eq]
      refine pv_iconst (M := mX11_day) (v := 1) dX11_day_22 23 rfl (by decide) ?_
      have z10 : (1 : Int32).toInt = 1 := by decide
      exact pv_iret (M := mX11_day) dX11_day_23 rfl rfl ⟨_, _, _, rfl, rfl, I6, K7, by decide, by decide, (Or.inl ⟨by decide, by omega, by omega, by omega⟩)⟩
    · have c4 := iv_nlt (X := x0.toInt) (Y := 1000) c4 rfl (by decide)
      refine pv_iconst (M := mX11_day) (v := 0) dX11_day_15 16 rfl (by decide) ?_
      have z11 : (0 : Int32).toInt = 0 := by decide
      exact pv_iret (M := mX11_day) dX11_day_16 rfl rfl ⟨_, _, _, rfl, rfl, I, Kp, by decide, by decide, (Or.inr ⟨by decide, by omega, by omega⟩)⟩

set_option maxHeartbeats 2000000 in
set_option maxRecDepth 20000 in
theorem s_X12_day_vx (g : pv_G) {T : List mv_T} {m : Nat → Nat → Int32} {n : Nat → Nat → Int64} {r : Nat → Value} (hT : TX T) (I : IV BB m) (x0 : Int32) : PM g mX12_day yX12_day (sqI T BB (wl [(123, 123, some 1)]) r m 0 1 (fun m' v => (v.toInt = 1 ∧ (m 123 1).toInt ≤ x0.toInt ∧ x0.toInt ≤ 999 ∧ (m' 123 1).toInt = x0.toInt) ∨ (v.toInt = 0 ∧ (x0.toInt < (m 123 1).toInt ∨ 999 < x0.toInt) ∧ (m' 123 1).toInt = (m 123 1).toInt))) 2 0 0 [.ref 123, .int x0] (mk T m n r) := by
  have Kp : fr (wl [(123, 123, some 1)]) m m := fr.rf
  have z14 : 0 ≤ (m 123 1).toInt ∧ (m 123 1).toInt ≤ 999 := I 123 1
  refine PM.of 0 (lo := [.ref 123, .int x0]) rfl (by decide) rfl rfl (Nat.le_of_ble_eq_true rfl) ?_
  refine pv_iload_n (M := mX12_day) 1 dX12_day_0 1 rfl rfl rfl ?_
  refine pv_aload_n (M := mX12_day) 0 dX12_day_1 2 rfl rfl rfl ?_
  refine iv_get (M := mX12_day) (l1 := 0) (l2 := 999) dX12_day_2 FX12 1 wd1174 (by decide) (tl123 hT) rfl I rfl 5 rfl (fun v1 ev1 pv1 qv1 => ?_)
  have wv1 : v1.toInt = (m 123 1).toInt := congrArg Int32.toInt ev1
  refine pv_sipush (M := mX12_day) (v := 999) dX12_day_5 8 rfl (by decide) ?_
  have z2 : (999 : Int32).toInt = 999 := by decide
  refine pv_calls (M := mX12_day) (as := [.int x0, .int v1, .int 999]) (st := []) (kc2 := 0) (ks2 := 0) dX12_day_8 wd1370 YX12_in wd1371 (s_X12_in_vx g hT I x0 v1 999) rfl rfl (Nat.le_of_ble_eq_true rfl) (by decide) rfl rfl 11 rfl (fun rv h1 q3 => ?_)
  obtain ⟨v4, rfl, rfl, pv4, qv4, rv4⟩ := q3
  replace rv4 : (v4 = 0 ∨ (v1.toInt ≤ x0.toInt ∧ x0.toInt ≤ (999 : Int))) ∧ ((v4.toInt = 1 ∧ v1.toInt ≤ x0.toInt ∧ x0.toInt ≤ (999 : Int)) ∨ (v4.toInt = 0 ∧ (x0.toInt < v1.toInt ∨ (999 : Int) < x0.toInt))) := by have q_ := rv4; (try rw [z2] at q_); exact q_
  show PV _ _ _ _ _ _ _ 11 [.ref 123, .int x0] [.int v4] _
  have kin := rv4.2
  refine pv_if_ne (M := mX12_day) (tgt := 16) dX12_day_11 14 rfl (by decide) (fun c6 => ?_) (fun c6 => ?_)
  · have pc6 := rv4.1.resolve_left c6
    have c6 := iv_ne (X := v4.toInt) (Y := 0) c6 rfl (by decide)
    refine pv_aload_n (M := mX12_day) 0 dX12_day_16 17 rfl rfl rfl ?_
    refine pv_iload_n (M := mX12_day) 1 dX12_day_17 18 rfl rfl rfl ?_
    refine iv_put (M := mX12_day) (l1 := 0) (l2 := 999) dX12_day_18 FX12 1 wd1174 (by decide) rfl (tl123 hT) rfl rfl rfl I rfl (by omega) (by omega) 21 rfl (fun m7 e10 I8 => ?_)
    have K9 := Kp.set e10 rfl
    have w11 : (m7 123 1).toInt = x0.toInt := by rw [e10, up2_eq]
    refine pv_iconst (M := mX12_day) (v := 1) dX12_day_21 22 rfl (by decide) ?_
    have z12 : (1 : Int32).toInt = 1 := by decide
    exact pv_iret (M := mX12_day) dX12_day_22 rfl rfl ⟨_, _, _, rfl, rfl, I8, K9, by decide, by decide, (Or.inl ⟨by decide, by omega, by omega, by omega⟩)⟩
  · have c6 := iv_eq (X := v4.toInt) (Y := 0) c6 rfl (by decide)
    refine pv_iconst (M := mX12_day) (v := 0) dX12_day_14 15 rfl (by decide) ?_
    have z13 : (0 : Int32).toInt = 0 := by decide
    exact pv_iret (M := mX12_day) dX12_day_15 rfl rfl ⟨_, _, _, rfl, rfl, I, Kp, by decide, by decide, (Or.inr ⟨by decide, by omega, by omega⟩)⟩
