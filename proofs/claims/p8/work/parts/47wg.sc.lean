set_option maxHeartbeats 2000000 in
set_option maxRecDepth 20000 in
theorem s_X1_lastOf_va (g : pv_G) {T : List mv_T} {m : Nat → Nat → Int32} {n : Nat → Nat → Int64} {r : Nat → Value} (hT : TX T) (I : IV BB m) (x0 : Int32) : PM g mX1_lastOf yX1_lastOf (sqP (mk T m n r) (-1) 59 (fun v => LSO (m 98) (m 97 6).toInt x0.toInt v.toInt)) 1 0 0 [.ref 97, .int x0] (mk T m n r) := by
  have Kp : fr (wl []) m m := fr.rf
  have z25 : 0 ≤ (m 97 6).toInt ∧ (m 97 6).toInt ≤ 60 := I 97 6
  refine PM.of 1 (lo := [.ref 97, .int x0, pv_U]) rfl (by decide) rfl rfl (Nat.le_of_ble_eq_true rfl) ?_
  refine pv_aload_n (M := mX1_lastOf) 0 dX1_lastOf_0 1 rfl rfl rfl ?_
  refine iv_get (M := mX1_lastOf) (l1 := 0) (l2 := 60) dX1_lastOf_1 FX1 6 wd309 (by decide) (tl97 hT) rfl I rfl 4 rfl (fun v1 ev1 pv1 qv1 => ?_)
  have wv1 : v1.toInt = (m 97 6).toInt := congrArg Int32.toInt ev1
  refine pv_iconst (M := mX1_lastOf) (v := 1) dX1_lastOf_4 5 rfl (by decide) ?_
  refine iv_isub (M := mX1_lastOf) (X := v1.toInt) (Y := 1) dX1_lastOf_5 6 rfl rfl (by decide) (by omega) (by omega) (fun v2 ev2 => ?_)
  refine pv_istore_n (M := mX1_lastOf) 2 (lo2 := [.ref 97, .int x0, .int v2]) dX1_lastOf_6 7 rfl rfl (by decide) rfl rfl ?_
  have lp9 : ∀ (fuel8 : Nat) (y3 : Int32), (-1 ≤ y3.toInt) → (y3.toInt ≤ 59) → (y3.toInt < (m 97 6).toInt) → (∀ i : Nat, y3.toInt < (i : Int) → (i : Int) < (m 97 6).toInt → (m 98 i).toInt ≠ x0.toInt) → ((y3.toInt + 1) : Int).toNat < fuel8 → PV none g mX1_lastOf (sqP (mk T m n r) (-1) 59 (fun v => LSO (m 98) (m 97 6).toInt x0.toInt v.toInt)) 1 0 0 7 [.ref 97, .int x0, .int y3] [] (mk T m n r) := by
    intro fuel8
    induction fuel8 with
    | zero => intro y3 b11 b12 b13 b14 z15; omega
    | succ fuel8 ih10 =>
      intro y3 b11 b12 b13 b14 z15
      have kgL := (show ∀ i : Nat, y3.toInt < (i : Int) → (i : Int) < (m 97 6).toInt → (m 98 i).toInt ≠ x0.toInt by assumption)
      refine pv_iload_n (M := mX1_lastOf) 2 dX1_lastOf_7 8 rfl rfl rfl ?_
      refine pv_if_lt (M := mX1_lastOf) (tgt := 29) dX1_lastOf_8 11 rfl (by decide) (fun c17 => ?_) (fun c17 => ?_)
      · have c17 := iv_lt (X := y3.toInt) (Y := 0) c17 rfl (by decide)
        refine pv_iconst (M := mX1_lastOf) (v := (-1)) dX1_lastOf_29 30 rfl (by decide) ?_
        have z18 : ((-1) : Int32).toInt = (-1) := by decide
        exact pv_iret (M := mX1_lastOf) dX1_lastOf_30 rfl rfl ⟨_, rfl, rfl, by decide, by decide, (Or.inr ⟨by decide, fun i h => kgL i (by omega) h⟩)⟩
      · have c17 := iv_nlt (X := y3.toInt) (Y := 0) c17 rfl (by decide)
        refine pv_aload_n (M := mX1_lastOf) 0 dX1_lastOf_11 12 rfl rfl rfl ?_
        refine mv_get (M := mX1_lastOf) (v := .ref 98) dX1_lastOf_12 FX1 0 wd302 (by decide) (tl97 hT) rfl rfl 15 rfl ?_
        refine pv_iload_n (M := mX1_lastOf) 2 dX1_lastOf_15 16 rfl rfl rfl ?_
        refine iv_iald (M := mX1_lastOf) (X := y3.toInt) (l1 := (-2147483648)) (l2 := 2147483647) dX1_lastOf_16 (tl98 hT) rfl (by omega) (by omega) I (fun _ => rfl) 17 rfl (fun v19 ev19 pv19 qv19 => ?_)
        have k17 : v19 = m 98 y3.toInt.toNat := ev19
        have k17i := congrArg Int32.toInt k17
        refine pv_iload_n (M := mX1_lastOf) 1 dX1_lastOf_17 18 rfl rfl rfl ?_
        refine pv_icmp_ne (M := mX1_lastOf) (tgt := 23) dX1_lastOf_18 21 rfl (by decide) (fun c22 => ?_) (fun c22 => ?_)
        · have c22 := iv_ne (X := v19.toInt) (Y := x0.toInt) c22 rfl rfl
          refine iv_inc (M := mX1_lastOf) (C := (-1)) dX1_lastOf_23 26 rfl rfl (by decide) rfl rfl (by decide) (by omega) (by omega) (fun v23 ev23 => ?_)
          show PV _ _ _ _ _ _ _ 26 [.ref 97, .int x0, .int v23] [] _
          refine pv_goto (M := mX1_lastOf) (tgt := 7) dX1_lastOf_26 (by decide) ?_
          have kbL : ∀ i : Nat, v23.toInt < (i : Int) → (i : Int) < (m 97 6).toInt → (m 98 i).toInt ≠ x0.toInt := fun i h1 h2 => if z : (i : Int) = y3.toInt then (by rw [show i = (y3.toInt).toNat by omega]; omega) else kgL i (by omega) h2
          exact ih10 v23 (by first | omega | assumption | exact (iv_rng _).2 | exact (iv_rng _).1 | decide) (by first | omega | assumption | exact (iv_rng _).2 | exact (iv_rng _).1 | decide) (by first | omega | assumption | (show v23.toInt < (m 97 6).toInt; omega) | decide) kbL (by omega)
        · have c22 := iv_eq (X := v19.toInt) (Y := x0.toInt) c22 rfl rfl
          refine pv_iload_n (M := mX1_lastOf) 2 dX1_lastOf_21 22 rfl rfl rfl ?_
          exact pv_iret (M := mX1_lastOf) dX1_lastOf_22 rfl rfl ⟨_, rfl, rfl, by omega, by omega, (Or.inl ⟨by omega, by omega, by omega, kgL⟩)⟩
  exact lp9 (((v2.toInt + 1) : Int).toNat + 1) v2 (by first | omega | assumption | exact (iv_rng _).2 | exact (iv_rng _).1 | decide) (by first | omega | assumption | exact (iv_rng _).2 | exact (iv_rng _).1 | decide) (by first | omega | assumption | (show v2.toInt < (m 97 6).toInt; omega) | decide) (fun i h1 h2 => by omega) (by omega)

set_option maxHeartbeats 2000000 in
set_option maxRecDepth 20000 in
theorem s_X1_numberOf_va (g : pv_G) {T : List mv_T} {m : Nat → Nat → Int32} {n : Nat → Nat → Int64} {r : Nat → Value} (hT : TX T) (I : IV BB m) (x0 : Int32) (hl0 : 0 ≤ x0.toInt) (hh0 : x0.toInt ≤ 59) (x1 : Int32) (hl1 : 0 ≤ x1.toInt) (hh1 : x1.toInt ≤ 8) (hp0 : x0.toInt < (m 97 6).toInt) (hp1 : x1.toInt < (m 102 x0.toInt.toNat).toInt) : PM g mX1_numberOf yX1_numberOf (sqP (mk T m n r) (-2147483648) 2147483647 (fun v => v = m 103 (9 * x0.toInt.toNat + x1.toInt.toNat))) 1 0 0 [.ref 97, .int x0, .int x1] (mk T m n r) := by
  have Kp : fr (wl []) m m := fr.rf
  have z17 : 0 ≤ (m 97 6).toInt ∧ (m 97 6).toInt ≤ 60 := I 97 6
  refine PM.of 1 (lo := [.ref 97, .int x0, .int x1, pv_U]) rfl (by decide) rfl rfl (Nat.le_of_ble_eq_true rfl) ?_
  refine pv_iload_n (M := mX1_numberOf) 1 dX1_numberOf_0 1 rfl rfl rfl ?_
  refine pv_if_lt (M := mX1_numberOf) (tgt := 30) dX1_numberOf_1 4 rfl (by decide) (fun c1 => ?_) (fun c1 => ?_)
  · have c1 := iv_lt (X := x0.toInt) (Y := 0) c1 rfl (by decide)
    omega
  · have c1 := iv_nlt (X := x0.toInt) (Y := 0) c1 rfl (by decide)
    refine pv_iload_n (M := mX1_numberOf) 1 dX1_numberOf_4 5 rfl rfl rfl ?_
    refine pv_aload_n (M := mX1_numberOf) 0 dX1_numberOf_5 6 rfl rfl rfl ?_
    refine iv_get (M := mX1_numberOf) (l1 := 0) (l2 := 60) dX1_numberOf_6 FX1 6 wd309 (by decide) (tl97 hT) rfl I rfl 9 rfl (fun v2 ev2 pv2 qv2 => ?_)
    have wv2 : v2.toInt = (m 97 6).toInt := congrArg Int32.toInt ev2
    refine pv_icmp_ge (M := mX1_numberOf) (tgt := 30) dX1_numberOf_9 12 rfl (by decide) (fun c3 => ?_) (fun c3 => ?_)
    · have c3 := iv_le (X := v2.toInt) (Y := x0.toInt) c3 rfl rfl
      refine pv_iconst (M := mX1_numberOf) (v := 0) dX1_numberOf_30 31 rfl (by decide) ?_
      refine pv_istore_n (M := mX1_numberOf) 3 (lo2 := [.ref 97, .int x0, .int x1, .int 0]) dX1_numberOf_31 32 rfl rfl (by decide) rfl rfl ?_
      refine pv_iload_n (M := mX1_numberOf) 3 dX1_numberOf_32 33 rfl rfl rfl ?_
      refine pv_if_eq (M := mX1_numberOf) (tgt := 50) dX1_numberOf_33 36 rfl (by decide) (fun _ => ?_) (fun q => absurd (by decide) q)
      refine pv_sipush (M := mX1_numberOf) (v := (-1000)) dX1_numberOf_50 53 rfl (by decide) ?_
      have z5 : ((-1000) : Int32).toInt = (-1000) := by decide
      exact pv_iret (M := mX1_numberOf) dX1_numberOf_53 rfl rfl ⟨_, rfl, rfl, by decide, by decide, (by first | (exfalso; omega) | exact k47)⟩
    · have c3 := iv_nle (X := v2.toInt) (Y := x0.toInt) c3 rfl rfl
      refine pv_iload_n (M := mX1_numberOf) 2 dX1_numberOf_12 13 rfl rfl rfl ?_
      refine pv_if_lt (M := mX1_numberOf) (tgt := 30) dX1_numberOf_13 16 rfl (by decide) (fun c6 => ?_) (fun c6 => ?_)
      · have c6 := iv_lt (X := x1.toInt) (Y := 0) c6 rfl (by decide)
        omega
      · have c6 := iv_nlt (X := x1.toInt) (Y := 0) c6 rfl (by decide)
        refine pv_iload_n (M := mX1_numberOf) 2 dX1_numberOf_16 17 rfl rfl rfl ?_
        refine pv_aload_n (M := mX1_numberOf) 0 dX1_numberOf_17 18 rfl rfl rfl ?_
        refine mv_get (M := mX1_numberOf) (v := .ref 102) dX1_numberOf_18 FX1 4 wd306 (by decide) (tl97 hT) rfl rfl 21 rfl ?_
        refine pv_iload_n (M := mX1_numberOf) 1 dX1_numberOf_21 22 rfl rfl rfl ?_
        refine iv_iald (M := mX1_numberOf) (X := x0.toInt) (l1 := 0) (l2 := 9) dX1_numberOf_22 (tl102 hT) rfl (by omega) (by omega) I (fun _ => rfl) 23 rfl (fun v7 ev7 pv7 qv7 => ?_)
        have k23 : v7.toInt = (m 102 x0.toInt.toNat).toInt := congrArg Int32.toInt ev7
        refine pv_icmp_ge (M := mX1_numberOf) (tgt := 30) dX1_numberOf_23 26 rfl (by decide) (fun c9 => ?_) (fun c9 => ?_)
        · have c9 := iv_le (X := v7.toInt) (Y := x1.toInt) c9 rfl rfl
          refine pv_iconst (M := mX1_numberOf) (v := 0) dX1_numberOf_30 31 rfl (by decide) ?_
          refine pv_istore_n (M := mX1_numberOf) 3 (lo2 := [.ref 97, .int x0, .int x1, .int 0]) dX1_numberOf_31 32 rfl rfl (by decide) rfl rfl ?_
          refine pv_iload_n (M := mX1_numberOf) 3 dX1_numberOf_32 33 rfl rfl rfl ?_
          refine pv_if_eq (M := mX1_numberOf) (tgt := 50) dX1_numberOf_33 36 rfl (by decide) (fun _ => ?_) (fun q => absurd (by decide) q)
          refine pv_sipush (M := mX1_numberOf) (v := (-1000)) dX1_numberOf_50 53 rfl (by decide) ?_
          have z11 : ((-1000) : Int32).toInt = (-1000) := by decide
          exact pv_iret (M := mX1_numberOf) dX1_numberOf_53 rfl rfl ⟨_, rfl, rfl, by decide, by decide, (by first | (exfalso; omega) | exact k47)⟩
        · have c9 := iv_nle (X := v7.toInt) (Y := x1.toInt) c9 rfl rfl
          refine pv_iconst (M := mX1_numberOf) (v := 1) dX1_numberOf_26 27 rfl (by decide) ?_
          refine pv_goto (M := mX1_numberOf) (tgt := 31) dX1_numberOf_27 (by decide) ?_
          refine pv_istore_n (M := mX1_numberOf) 3 (lo2 := [.ref 97, .int x0, .int x1, .int 1]) dX1_numberOf_31 32 rfl rfl (by decide) rfl rfl ?_
          refine pv_iload_n (M := mX1_numberOf) 3 dX1_numberOf_32 33 rfl rfl rfl ?_
          refine pv_if_eq (M := mX1_numberOf) (tgt := 50) dX1_numberOf_33 36 rfl (by decide) (fun q => absurd q (by decide)) (fun _ => ?_)
          refine pv_aload_n (M := mX1_numberOf) 0 dX1_numberOf_36 37 rfl rfl rfl ?_
          refine mv_get (M := mX1_numberOf) (v := .ref 103) dX1_numberOf_37 FX1 5 wd308 (by decide) (tl97 hT) rfl rfl 40 rfl ?_
          refine pv_iload_n (M := mX1_numberOf) 1 dX1_numberOf_40 41 rfl rfl rfl ?_
          refine pv_bipush (M := mX1_numberOf) (v := 9) dX1_numberOf_41 43 rfl (by decide) ?_
          refine iv_imul (M := mX1_numberOf) (X := x0.toInt) (Y := 9) dX1_numberOf_43 44 rfl rfl (by decide) (by omega) (by omega) (fun v13 ev13 => ?_)
          refine pv_iload_n (M := mX1_numberOf) 2 dX1_numberOf_44 45 rfl rfl rfl ?_
          refine iv_iadd (M := mX1_numberOf) (X := v13.toInt) (Y := x1.toInt) dX1_numberOf_45 46 rfl rfl rfl (by omega) (by omega) (fun v14 ev14 => ?_)
          refine iv_iald (M := mX1_numberOf) (X := v14.toInt) (l1 := (-2147483648)) (l2 := 2147483647) dX1_numberOf_46 (tl103 hT) rfl (by omega) (by omega) I (fun _ => rfl) 47 rfl (fun v15 ev15 pv15 qv15 => ?_)
          have k47 : v15 = m 103 (9 * x0.toInt.toNat + x1.toInt.toNat) := ev15.trans (congrArg (fun z => m 103 z) (by omega))
          refine pv_goto (M := mX1_numberOf) (tgt := 53) dX1_numberOf_47 (by decide) ?_
          exact pv_iret (M := mX1_numberOf) dX1_numberOf_53 rfl rfl ⟨_, rfl, rfl, (iv_rng v15).1, (iv_rng v15).2, (by first | (exfalso; omega) | exact k47)⟩

set_option maxHeartbeats 2000000 in
set_option maxRecDepth 20000 in
theorem s_X1_moveUp_v1a (g : pv_G) {T : List mv_T} {m : Nat → Nat → Int32} {n : Nat → Nat → Int64} {r : Nat → Value} (hT : TX T) (I : IV BB m) (a0 ln0 : Nat) (lb0 hb0 : Int) (ha0 : ArrS T a0 ln0 lb0 hb0) (x1 : Int32) (hl1 : 0 ≤ x1.toInt) (hh1 : x1.toInt ≤ 59) (hp0 : 60 ≤ ln0) (hp1 : x1.toInt < (m 97 6).toInt) : PM g mX1_moveUp yX1_moveUp (sqV T BB (wl [(a0, a0, none)]) r m (fun m' => ∀ j, m' a0 j = rmv (m a0) x1.toInt.toNat ((m 97 6).toInt.toNat - 1) 1 j)) 1 0 0 [.ref 97, .ref a0, .int x1, .int 1] (mk T m n r) := by
  have Kp : fr (wl [(a0, a0, none)]) m m := fr.rf
  have zl0 := ha0.2.2
  have z12 : 0 ≤ (m 97 6).toInt ∧ (m 97 6).toInt ≤ 60 := I 97 6
  refine PM.of 0 (lo := [.ref 97, .ref a0, .int x1, .int 1]) rfl (by decide) rfl rfl (Nat.le_of_ble_eq_true rfl) ?_
  refine pv_aload_n (M := mX1_moveUp) 1 dX1_moveUp_0 1 rfl rfl rfl ?_
  refine pv_iload_n (M := mX1_moveUp) 2 dX1_moveUp_1 2 rfl rfl rfl ?_
  refine pv_iconst (M := mX1_moveUp) (v := 1) dX1_moveUp_2 3 rfl (by decide) ?_
  refine iv_iadd (M := mX1_moveUp) (X := x1.toInt) (Y := 1) dX1_moveUp_3 4 rfl rfl (by decide) (by omega) (by omega) (fun v1 ev1 => ?_)
  refine pv_iload_n (M := mX1_moveUp) 3 dX1_moveUp_4 5 rfl rfl rfl ?_
  refine iv_imul (M := mX1_moveUp) (X := v1.toInt) (Y := 1) dX1_moveUp_5 6 rfl rfl (by decide) (by omega) (by omega) (fun v2 ev2 => ?_)
  refine pv_aload_n (M := mX1_moveUp) 1 dX1_moveUp_6 7 rfl rfl rfl ?_
  refine pv_iload_n (M := mX1_moveUp) 2 dX1_moveUp_7 8 rfl rfl rfl ?_
  refine pv_iload_n (M := mX1_moveUp) 3 dX1_moveUp_8 9 rfl rfl rfl ?_
  refine iv_imul (M := mX1_moveUp) (X := x1.toInt) (Y := 1) dX1_moveUp_9 10 rfl rfl (by decide) (by omega) (by omega) (fun v3 ev3 => ?_)
  refine pv_aload_n (M := mX1_moveUp) 0 dX1_moveUp_10 11 rfl rfl rfl ?_
  refine iv_get (M := mX1_moveUp) (l1 := 0) (l2 := 60) dX1_moveUp_11 FX1 6 wd309 (by decide) (tl97 hT) rfl I rfl 14 rfl (fun v4 ev4 pv4 qv4 => ?_)
  have wv4 : v4.toInt = (m 97 6).toInt := congrArg Int32.toInt ev4
  refine pv_iload_n (M := mX1_moveUp) 2 dX1_moveUp_14 15 rfl rfl rfl ?_
  refine iv_isub (M := mX1_moveUp) (X := v4.toInt) (Y := x1.toInt) dX1_moveUp_15 16 rfl rfl rfl (by omega) (by omega) (fun v5 ev5 => ?_)
  refine pv_iconst (M := mX1_moveUp) (v := 1) dX1_moveUp_16 17 rfl (by decide) ?_
  refine iv_isub (M := mX1_moveUp) (X := v5.toInt) (Y := 1) dX1_moveUp_17 18 rfl rfl (by decide) (by omega) (by omega) (fun v6 ev6 => ?_)
  refine pv_iload_n (M := mX1_moveUp) 3 dX1_moveUp_18 19 rfl rfl rfl ?_
  refine iv_imul (M := mX1_moveUp) (X := v6.toInt) (Y := 1) dX1_moveUp_19 20 rfl rfl (by decide) (by omega) (by omega) (fun v7 ev7 => ?_)
  refine iv_copyx (M := mX1_moveUp) (X := v2.toInt) (Y := v3.toInt) (Z := v7.toInt) dX1_moveUp_20 wd814 Wnat Wcst Wcin ha0.1 ha0.1 rfl rfl rfl (by omega) (by omega) (by omega) (by omega) (by omega) (Nat.le_of_ble_eq_true rfl) (by decide) I ha0.2.1 ha0.2.1 (by omega) (by omega) 23 rfl (fun m8 e11 rm8 I9 => ?_)
  have K10 := Kp.trans (fr_off e11 (fun _ => (wl_r (by omega) (by omega))))
  exact pv_vret (M := mX1_moveUp) dX1_moveUp_23 rfl ⟨_, _, rfl, rfl, I9, K10, (fun j => by rw [rm8 j]; unfold va_cpy rmv; by_cases z : x1.toInt.toNat ≤ j ∧ j < ((m 97 6).toInt.toNat - 1); (rw [if_pos (by omega), if_pos z]; exact congrArg (m a0) (by omega)); (rw [if_neg (by omega), if_neg z]))⟩

set_option maxHeartbeats 2000000 in
set_option maxRecDepth 20000 in
theorem s_X1_moveUp_v9a (g : pv_G) {T : List mv_T} {m : Nat → Nat → Int32} {n : Nat → Nat → Int64} {r : Nat → Value} (hT : TX T) (I : IV BB m) (a0 ln0 : Nat) (lb0 hb0 : Int) (ha0 : ArrS T a0 ln0 lb0 hb0) (x1 : Int32) (hl1 : 0 ≤ x1.toInt) (hh1 : x1.toInt ≤ 59) (hp0 : 540 ≤ ln0) (hp1 : x1.toInt < (m 97 6).toInt) : PM g mX1_moveUp yX1_moveUp (sqV T BB (wl [(a0, a0, none)]) r m (fun m' => ∀ j, m' a0 j = rmv (m a0) (9 * x1.toInt.toNat) (9 * ((m 97 6).toInt.toNat - 1)) 9 j)) 1 0 0 [.ref 97, .ref a0, .int x1, .int 9] (mk T m n r) := by
  have Kp : fr (wl [(a0, a0, none)]) m m := fr.rf
  have zl0 := ha0.2.2
  have z12 : 0 ≤ (m 97 6).toInt ∧ (m 97 6).toInt ≤ 60 := I 97 6
  refine PM.of 0 (lo := [.ref 97, .ref a0, .int x1, .int 9]) rfl (by decide) rfl rfl (Nat.le_of_ble_eq_true rfl) ?_
  refine pv_aload_n (M := mX1_moveUp) 1 dX1_moveUp_0 1 rfl rfl rfl ?_
  refine pv_iload_n (M := mX1_moveUp) 2 dX1_moveUp_1 2 rfl rfl rfl ?_
  refine pv_iconst (M := mX1_moveUp) (v := 1) dX1_moveUp_2 3 rfl (by decide) ?_
  refine iv_iadd (M := mX1_moveUp) (X := x1.toInt) (Y := 1) dX1_moveUp_3 4 rfl rfl (by decide) (by omega) (by omega) (fun v1 ev1 => ?_)
  refine pv_iload_n (M := mX1_moveUp) 3 dX1_moveUp_4 5 rfl rfl rfl ?_
  refine iv_imul (M := mX1_moveUp) (X := v1.toInt) (Y := 9) dX1_moveUp_5 6 rfl rfl (by decide) (by omega) (by omega) (fun v2 ev2 => ?_)
  refine pv_aload_n (M := mX1_moveUp) 1 dX1_moveUp_6 7 rfl rfl rfl ?_
  refine pv_iload_n (M := mX1_moveUp) 2 dX1_moveUp_7 8 rfl rfl rfl ?_
  refine pv_iload_n (M := mX1_moveUp) 3 dX1_moveUp_8 9 rfl rfl rfl ?_
  refine iv_imul (M := mX1_moveUp) (X := x1.toInt) (Y := 9) dX1_moveUp_9 10 rfl rfl (by decide) (by omega) (by omega) (fun v3 ev3 => ?_)
  refine pv_aload_n (M := mX1_moveUp) 0 dX1_moveUp_10 11 rfl rfl rfl ?_
  refine iv_get (M := mX1_moveUp) (l1 := 0) (l2 := 60) dX1_moveUp_11 FX1 6 wd309 (by decide) (tl97 hT) rfl I rfl 14 rfl (fun v4 ev4 pv4 qv4 => ?_)
  have wv4 : v4.toInt = (m 97 6).toInt := congrArg Int32.toInt ev4
  refine pv_iload_n (M := mX1_moveUp) 2 dX1_moveUp_14 15 rfl rfl rfl ?_
  refine iv_isub (M := mX1_moveUp) (X := v4.toInt) (Y := x1.toInt) dX1_moveUp_15 16 rfl rfl rfl (by omega) (by omega) (fun v5 ev5 => ?_)
  refine pv_iconst (M := mX1_moveUp) (v := 1) dX1_moveUp_16 17 rfl (by decide) ?_
  refine iv_isub (M := mX1_moveUp) (X := v5.toInt) (Y := 1) dX1_moveUp_17 18 rfl rfl (by decide) (by omega) (by omega) (fun v6 ev6 => ?_)
  refine pv_iload_n (M := mX1_moveUp) 3 dX1_moveUp_18 19 rfl rfl rfl ?_
  refine iv_imul (M := mX1_moveUp) (X := v6.toInt) (Y := 9) dX1_moveUp_19 20 rfl rfl (by decide) (by omega) (by omega) (fun v7 ev7 => ?_)
  refine iv_copyx (M := mX1_moveUp) (X := v2.toInt) (Y := v3.toInt) (Z := v7.toInt) dX1_moveUp_20 wd814 Wnat Wcst Wcin ha0.1 ha0.1 rfl rfl rfl (by omega) (by omega) (by omega) (by omega) (by omega) (Nat.le_of_ble_eq_true rfl) (by decide) I ha0.2.1 ha0.2.1 (by omega) (by omega) 23 rfl (fun m8 e11 rm8 I9 => ?_)
  have K10 := Kp.trans (fr_off e11 (fun _ => (wl_r (by omega) (by omega))))
  exact pv_vret (M := mX1_moveUp) dX1_moveUp_23 rfl ⟨_, _, rfl, rfl, I9, K10, (fun j => by rw [rm8 j]; unfold va_cpy rmv; by_cases z : (9 * x1.toInt.toNat) ≤ j ∧ j < (9 * ((m 97 6).toInt.toNat - 1)); (rw [if_pos (by omega), if_pos z]; exact congrArg (m a0) (by omega)); (rw [if_neg (by omega), if_neg z]))⟩

set_option maxHeartbeats 2000000 in
set_option maxRecDepth 20000 in
theorem s_X1_remove_va (g : pv_G) {T : List mv_T} {m : Nat → Nat → Int32} {n : Nat → Nat → Int64} {r : Nat → Value} (hT : TX T) (I : IV BB m) (x0 : Int32) (hp0 : 0 ≤ x0.toInt) (hp1 : x0.toInt < (m 97 6).toInt) : PM g mX1_remove yX1_remove (sqV T BB (wl [(97, 103, none)]) r m (fun m' => RMVc m m' x0.toInt.toNat)) 2 0 0 [.ref 97, .int x0] (mk T m n r) := by
  have Kp : fr (wl [(97, 103, none)]) m m := fr.rf
  have z81 : 0 ≤ (m 97 6).toInt ∧ (m 97 6).toInt ≤ 60 := I 97 6
  refine PM.of 0 (lo := [.ref 97, .int x0]) rfl (by decide) rfl rfl (Nat.le_of_ble_eq_true rfl) ?_
  refine pv_iload_n (M := mX1_remove) 1 dX1_remove_0 1 rfl rfl rfl ?_
  refine pv_if_lt (M := mX1_remove) (tgt := 12) dX1_remove_1 4 rfl (by decide) (fun c1 => ?_) (fun c1 => ?_)
  · have c1 := iv_lt (X := x0.toInt) (Y := 0) c1 rfl (by decide)
    exact pv_vret (M := mX1_remove) dX1_remove_12 rfl ⟨_, _, rfl, rfl, I, Kp, (by first | (exfalso; omega) | exact ⟨by omega, fun a j h1 h2 => by rw [noE, up2_ne (by omega)]; rcases (show a = 98 ∨ a = 99 ∨ a = 100 ∨ a = 101 ∨ a = 102 by omega) with z | z | z | z | z <;> subst z <;> first | exact r98 j | exact r99 j | exact r100 j | exact r101 j | exact r102 j, fun j => by rw [noE, up2_ne (by omega)]; exact r103 j⟩)⟩
  · have c1 := iv_nlt (X := x0.toInt) (Y := 0) c1 rfl (by decide)
    refine pv_iload_n (M := mX1_remove) 1 dX1_remove_4 5 rfl rfl rfl ?_
    refine pv_aload_n (M := mX1_remove) 0 dX1_remove_5 6 rfl rfl rfl ?_
    refine iv_get (M := mX1_remove) (l1 := 0) (l2 := 60) dX1_remove_6 FX1 6 wd309 (by decide) (tl97 hT) rfl I rfl 9 rfl (fun v2 ev2 pv2 qv2 => ?_)
    have wv2 : v2.toInt = (m 97 6).toInt := congrArg Int32.toInt ev2
    refine pv_icmp_lt (M := mX1_remove) (tgt := 13) dX1_remove_9 12 rfl (by decide) (fun c3 => ?_) (fun c3 => ?_)
    · have c3 := iv_lt (X := x0.toInt) (Y := v2.toInt) c3 rfl rfl
      refine pv_aload_n (M := mX1_remove) 0 dX1_remove_13 14 rfl rfl rfl ?_
      refine pv_aload_n (M := mX1_remove) 0 dX1_remove_14 15 rfl rfl rfl ?_
      refine mv_get (M := mX1_remove) (v := .ref 98) dX1_remove_15 FX1 0 wd302 (by decide) (tl97 hT) rfl rfl 18 rfl ?_
      refine pv_iload_n (M := mX1_remove) 1 dX1_remove_18 19 rfl rfl rfl ?_
      refine pv_iconst (M := mX1_remove) (v := 1) dX1_remove_19 20 rfl (by decide) ?_
      have z4 : (1 : Int32).toInt = 1 := by decide
      refine pv_callv (M := mX1_remove) (as := [.ref 98, .int x0, .int 1]) (st := []) (kc2 := 0) (ks2 := 0) dX1_remove_20 wd810 YX1_moveUp ⟨wd812, wd24⟩ (mk_get (tl97 hT)) rfl rfl (s_X1_moveUp_v1a g hT I 98 60 (-2147483648) 2147483647 ⟨(tl98 hT), (fun _ => rfl), by decide⟩ x0 (by omega) (by omega) (by first | omega | assumption | exact (iv_rng _).2 | exact (iv_rng _).1 | decide) (by first | omega | assumption | exact (iv_rng _).2 | exact (iv_rng _).1 | decide)) rfl rfl (Nat.le_of_ble_eq_true rfl) (by decide) rfl rfl 23 rfl (fun rv h1 q5 => ?_)
      obtain ⟨m6, n7, rfl, rfl, I8, K9, rm6⟩ := q5
      replace rm6 : ∀ j, m6 98 j = rmv (m 98) x0.toInt.toNat ((m 97 6).toInt.toNat - 1) 1 j := by have q_ := rm6; (try rw [z4] at q_); exact q_
      have K9c := K9
      have w10 : (m6 97 6).toInt = (m 97 6).toInt := congrArg Int32.toInt (K9 97 6 (wr_out (by decide)))
      have K9 := Kp.trans (K9.sub (wr_wr (by omega) (by omega)))
      show PV _ _ _ _ _ _ _ 23 [.ref 97, .int x0] [] _
      have q1 := rm6
      have f1 := K9c
      refine pv_aload_n (M := mX1_remove) 0 dX1_remove_23 24 rfl rfl rfl ?_
      refine pv_aload_n (M := mX1_remove) 0 dX1_remove_24 25 rfl rfl rfl ?_
      refine mv_get (M := mX1_remove) (v := .ref 99) dX1_remove_25 FX1 1 wd303 (by decide) (tl97 hT) rfl rfl 28 rfl ?_
      refine pv_iload_n (M := mX1_remove) 1 dX1_remove_28 29 rfl rfl rfl ?_
      refine pv_iconst (M := mX1_remove) (v := 1) dX1_remove_29 30 rfl (by decide) ?_
      have z13 : (1 : Int32).toInt = 1 := by decide
      refine pv_callv (M := mX1_remove) (as := [.ref 99, .int x0, .int 1]) (st := []) (kc2 := 0) (ks2 := 0) dX1_remove_30 wd810 YX1_moveUp ⟨wd812, wd24⟩ (mk_get (tl97 hT)) rfl rfl (s_X1_moveUp_v1a g hT I8 99 60 (-2147483648) 2147483647 ⟨(tl99 hT), (fun _ => rfl), by decide⟩ x0 (by omega) (by omega) (by first | omega | assumption | exact (iv_rng _).2 | exact (iv_rng _).1 | decide) (by first | omega | assumption | exact (iv_rng _).2 | exact (iv_rng _).1 | decide)) rfl rfl (Nat.le_of_ble_eq_true rfl) (by decide) rfl rfl 33 rfl (fun rv h1 q14 => ?_)
      obtain ⟨m15, n16, rfl, rfl, I17, K18, rm15⟩ := q14
      replace rm15 : ∀ j, m15 99 j = rmv (m6 99) x0.toInt.toNat ((m6 97 6).toInt.toNat - 1) 1 j := by have q_ := rm15; (try rw [z13] at q_); exact q_
      have K18c := K18
      have w19 : (m15 97 6).toInt = (m6 97 6).toInt := congrArg Int32.toInt (K18 97 6 (wr_out (by decide)))
      have K18 := K9.trans (K18.sub (wr_wr (by omega) (by omega)))
      show PV _ _ _ _ _ _ _ 33 [.ref 97, .int x0] [] _
      have q2 := rm15
      have f2 := K18c
      refine pv_aload_n (M := mX1_remove) 0 dX1_remove_33 34 rfl rfl rfl ?_
      refine pv_aload_n (M := mX1_remove) 0 dX1_remove_34 35 rfl rfl rfl ?_
      refine mv_get (M := mX1_remove) (v := .ref 100) dX1_remove_35 FX1 2 wd304 (by decide) (tl97 hT) rfl rfl 38 rfl ?_
      refine pv_iload_n (M := mX1_remove) 1 dX1_remove_38 39 rfl rfl rfl ?_
      refine pv_iconst (M := mX1_remove) (v := 1) dX1_remove_39 40 rfl (by decide) ?_
      have z22 : (1 : Int32).toInt = 1 := by decide
      refine pv_callv (M := mX1_remove) (as := [.ref 100, .int x0, .int 1]) (st := []) (kc2 := 0) (ks2 := 0) dX1_remove_40 wd810 YX1_moveUp ⟨wd812, wd24⟩ (mk_get (tl97 hT)) rfl rfl (s_X1_moveUp_v1a g hT I17 100 60 (-2147483648) 2147483647 ⟨(tl100 hT), (fun _ => rfl), by decide⟩ x0 (by omega) (by omega) (by first | omega | assumption | exact (iv_rng _).2 | exact (iv_rng _).1 | decide) (by first | omega | assumption | exact (iv_rng _).2 | exact (iv_rng _).1 | decide)) rfl rfl (Nat.le_of_ble_eq_true rfl) (by decide) rfl rfl 43 rfl (fun rv h1 q23 => ?_)
      obtain ⟨m24, n25, rfl, rfl, I26, K27, rm24⟩ := q23
      replace rm24 : ∀ j, m24 100 j = rmv (m15 100) x0.toInt.toNat ((m15 97 6).toInt.toNat - 1) 1 j := by have q_ := rm24; (try rw [z22] at q_); exact q_
      have K27c := K27
      have w28 : (m24 97 6).toInt = (m15 97 6).toInt := congrArg Int32.toInt (K27 97 6 (wr_out (by decide)))
      have K27 := K18.trans (K27.sub (wr_wr (by omega) (by omega)))
      show PV _ _ _ _ _ _ _ 43 [.ref 97, .int x0] [] _
      have q3 := rm24
      have f3 := K27c
      refine pv_aload_n (M := mX1_remove) 0 dX1_remove_43 44 rfl rfl rfl ?_
      refine pv_aload_n (M := mX1_remove) 0 dX1_remove_44 45 rfl rfl rfl ?_
      refine mv_get (M := mX1_remove) (v := .ref 101) dX1_remove_45 FX1 3 wd305 (by decide) (tl97 hT) rfl rfl 48 rfl ?_
      refine pv_iload_n (M := mX1_remove) 1 dX1_remove_48 49 rfl rfl rfl ?_
      refine pv_iconst (M := mX1_remove) (v := 1) dX1_remove_49 50 rfl (by decide) ?_
      have z31 : (1 : Int32).toInt = 1 := by decide
      refine pv_callv (M := mX1_remove) (as := [.ref 101, .int x0, .int 1]) (st := []) (kc2 := 0) (ks2 := 0) dX1_remove_50 wd810 YX1_moveUp ⟨wd812, wd24⟩ (mk_get (tl97 hT)) rfl rfl (s_X1_moveUp_v1a g hT I26 101 60 (-2147483648) 2147483647 ⟨(tl101 hT), (fun _ => rfl), by decide⟩ x0 (by omega) (by omega) (by first | omega | assumption | exact (iv_rng _).2 | exact (iv_rng _).1 | decide) (by first | omega | assumption | exact (iv_rng _).2 | exact (iv_rng _).1 | decide)) rfl rfl (Nat.le_of_ble_eq_true rfl) (by decide) rfl rfl 53 rfl (fun rv h1 q32 => ?_)
      obtain ⟨m33, n34, rfl, rfl, I35, K36, rm33⟩ := q32
      replace rm33 : ∀ j, m33 101 j = rmv (m24 101) x0.toInt.toNat ((m24 97 6).toInt.toNat - 1) 1 j := by have q_ := rm33; (try rw [z31] at q_); exact q_
      have K36c := K36
      have w37 : (m33 97 6).toInt = (m24 97 6).toInt := congrArg Int32.toInt (K36 97 6 (wr_out (by decide)))
      have K36 := K27.trans (K36.sub (wr_wr (by omega) (by omega)))
      show PV _ _ _ _ _ _ _ 53 [.ref 97, .int x0] [] _
      have q4 := rm33
      have f4 := K36c
      refine pv_aload_n (M := mX1_remove) 0 dX1_remove_53 54 rfl rfl rfl ?_
      refine pv_aload_n (M := mX1_remove) 0 dX1_remove_54 55 rfl rfl rfl ?_
      refine mv_get (M := mX1_remove) (v := .ref 102) dX1_remove_55 FX1 4 wd306 (by decide) (tl97 hT) rfl rfl 58 rfl ?_
      refine pv_iload_n (M := mX1_remove) 1 dX1_remove_58 59 rfl rfl rfl ?_
      refine pv_iconst (M := mX1_remove) (v := 1) dX1_remove_59 60 rfl (by decide) ?_
      have z40 : (1 : Int32).toInt = 1 := by decide
      refine pv_callv (M := mX1_remove) (as := [.ref 102, .int x0, .int 1]) (st := []) (kc2 := 0) (ks2 := 0) dX1_remove_60 wd810 YX1_moveUp ⟨wd812, wd24⟩ (mk_get (tl97 hT)) rfl rfl (s_X1_moveUp_v1a g hT I35 102 60 0 9 ⟨(tl102 hT), (fun _ => rfl), by decide⟩ x0 (by omega) (by omega) (by first | omega | assumption | exact (iv_rng _).2 | exact (iv_rng _).1 | decide) (by first | omega | assumption | exact (iv_rng _).2 | exact (iv_rng _).1 | decide)) rfl rfl (Nat.le_of_ble_eq_true rfl) (by decide) rfl rfl 63 rfl (fun rv h1 q41 => ?_)
      obtain ⟨m42, n43, rfl, rfl, I44, K45, rm42⟩ := q41
      replace rm42 : ∀ j, m42 102 j = rmv (m33 102) x0.toInt.toNat ((m33 97 6).toInt.toNat - 1) 1 j := by have q_ := rm42; (try rw [z40] at q_); exact q_
      have K45c := K45
      have w46 : (m42 97 6).toInt = (m33 97 6).toInt := congrArg Int32.toInt (K45 97 6 (wr_out (by decide)))
      have K45 := K36.trans (K45.sub (wr_wr (by omega) (by omega)))
      show PV _ _ _ _ _ _ _ 63 [.ref 97, .int x0] [] _
      have q5 := rm42
      have f5 := K45c
      refine pv_aload_n (M := mX1_remove) 0 dX1_remove_63 64 rfl rfl rfl ?_
      refine pv_aload_n (M := mX1_remove) 0 dX1_remove_64 65 rfl rfl rfl ?_
      refine mv_get (M := mX1_remove) (v := .ref 103) dX1_remove_65 FX1 5 wd308 (by decide) (tl97 hT) rfl rfl 68 rfl ?_
      refine pv_iload_n (M := mX1_remove) 1 dX1_remove_68 69 rfl rfl rfl ?_
      refine pv_bipush (M := mX1_remove) (v := 9) dX1_remove_69 71 rfl (by decide) ?_
      have z49 : (9 : Int32).toInt = 9 := by decide
      refine pv_callv (M := mX1_remove) (as := [.ref 103, .int x0, .int 9]) (st := []) (kc2 := 0) (ks2 := 0) dX1_remove_71 wd810 YX1_moveUp ⟨wd812, wd24⟩ (mk_get (tl97 hT)) rfl rfl (s_X1_moveUp_v9a g hT I44 103 540 (-2147483648) 2147483647 ⟨(tl103 hT), (fun _ => rfl), by decide⟩ x0 (by omega) (by omega) (by first | omega | assumption | exact (iv_rng _).2 | exact (iv_rng _).1 | decide) (by first | omega | assumption | exact (iv_rng _).2 | exact (iv_rng _).1 | decide)) rfl rfl (Nat.le_of_ble_eq_true rfl) (by decide) rfl rfl 74 rfl (fun rv h1 q50 => ?_)
      obtain ⟨m51, n52, rfl, rfl, I53, K54, rm51⟩ := q50
      replace rm51 : ∀ j, m51 103 j = rmv (m42 103) (9 * x0.toInt.toNat) (9 * ((m42 97 6).toInt.toNat - 1)) 9 j := by have q_ := rm51; (try rw [z49] at q_); exact q_
      have K54c := K54
      have w55 : (m51 97 6).toInt = (m42 97 6).toInt := congrArg Int32.toInt (K54 97 6 (wr_out (by decide)))
      have K54 := K45.trans (K54.sub (wr_wr (by omega) (by omega)))
      show PV _ _ _ _ _ _ _ 74 [.ref 97, .int x0] [] _
      have q6 := rm51
      have f6 := K54c
      have kn1 : (m6 97 6).toInt = (m 97 6).toInt := by omega
      have kn2 : (m15 97 6).toInt = (m 97 6).toInt := by omega
      have kn3 : (m24 97 6).toInt = (m 97 6).toInt := by omega
      have kn4 : (m33 97 6).toInt = (m 97 6).toInt := by omega
      have kn5 : (m42 97 6).toInt = (m 97 6).toInt := by omega
      rw [kn1] at q2
      rw [kn2] at q3
      rw [kn3] at q4
      rw [kn4] at q5
      rw [kn5] at q6
      have r98 : ∀ j, m51 98 j = rmv (m 98) x0.toInt.toNat ((m 97 6).toInt.toNat - 1) 1 j := fun j => by rw [f6 98 j (wr_out (by omega)), f5 98 j (wr_out (by omega)), f4 98 j (wr_out (by omega)), f3 98 j (wr_out (by omega)), f2 98 j (wr_out (by omega))]; exact q1 j
      have r99 : ∀ j, m51 99 j = rmv (m 99) x0.toInt.toNat ((m 97 6).toInt.toNat - 1) 1 j := fun j => by rw [f6 99 j (wr_out (by omega)), f5 99 j (wr_out (by omega)), f4 99 j (wr_out (by omega)), f3 99 j (wr_out (by omega)), q2 j, show m6 99 = m 99 from funext fun i => f1 99 i (wr_out (by omega))]
      have r100 : ∀ j, m51 100 j = rmv (m 100) x0.toInt.toNat ((m 97 6).toInt.toNat - 1) 1 j := fun j => by rw [f6 100 j (wr_out (by omega)), f5 100 j (wr_out (by omega)), f4 100 j (wr_out (by omega)), q3 j, show m15 100 = m 100 from funext fun i => (f2 100 i (wr_out (by omega))).trans (f1 100 i (wr_out (by omega)))]
      have r101 : ∀ j, m51 101 j = rmv (m 101) x0.toInt.toNat ((m 97 6).toInt.toNat - 1) 1 j := fun j => by rw [f6 101 j (wr_out (by omega)), f5 101 j (wr_out (by omega)), q4 j, show m24 101 = m 101 from funext fun i => (f3 101 i (wr_out (by omega))).trans ((f2 101 i (wr_out (by omega))).trans (f1 101 i (wr_out (by omega))))]
      have r102 : ∀ j, m51 102 j = rmv (m 102) x0.toInt.toNat ((m 97 6).toInt.toNat - 1) 1 j := fun j => by rw [f6 102 j (wr_out (by omega)), q5 j, show m33 102 = m 102 from funext fun i => (f4 102 i (wr_out (by omega))).trans ((f3 102 i (wr_out (by omega))).trans ((f2 102 i (wr_out (by omega))).trans (f1 102 i (wr_out (by omega)))))]
      have r103 : ∀ j, m51 103 j = rmv (m 103) (9 * x0.toInt.toNat) (9 * ((m 97 6).toInt.toNat - 1)) 9 j := fun j => by rw [q6 j, show m42 103 = m 103 from funext fun i => (f5 103 i (wr_out (by omega))).trans ((f4 103 i (wr_out (by omega))).trans ((f3 103 i (wr_out (by omega))).trans ((f2 103 i (wr_out (by omega))).trans (f1 103 i (wr_out (by omega))))))]
      refine pv_aload_n (M := mX1_remove) 0 dX1_remove_74 75 rfl rfl rfl ?_
      refine pv_dup (M := mX1_remove) dX1_remove_75 76 rfl rfl ?_
      refine iv_get (M := mX1_remove) (l1 := 0) (l2 := 60) dX1_remove_76 FX1 6 wd309 (by decide) (tl97 hT) rfl I53 rfl 79 rfl (fun v74 ev74 pv74 qv74 => ?_)
      have wv74 : v74.toInt = (m51 97 6).toInt := congrArg Int32.toInt ev74
      refine pv_iconst (M := mX1_remove) (v := 1) dX1_remove_79 80 rfl (by decide) ?_
      refine iv_isub (M := mX1_remove) (X := v74.toInt) (Y := 1) dX1_remove_80 81 rfl rfl (by decide) (by omega) (by omega) (fun v75 ev75 => ?_)
      refine iv_put (M := mX1_remove) (l1 := 0) (l2 := 60) dX1_remove_81 FX1 6 wd309 (by decide) rfl (tl97 hT) rfl rfl rfl I53 rfl (by omega) (by omega) 84 rfl (fun m76 e79 I77 => ?_)
      have K78 := K54.set e79 (wl_r (by omega) (by omega))
      have w80 : (m76 97 6).toInt = v75.toInt := by rw [e79, up2_eq]
      exact pv_vret (M := mX1_remove) dX1_remove_84 rfl ⟨_, _, rfl, rfl, I77, K78, (by first | (exfalso; omega) | exact ⟨by omega, fun a j h1 h2 => by rw [e79, up2_ne (by omega)]; rcases (show a = 98 ∨ a = 99 ∨ a = 100 ∨ a = 101 ∨ a = 102 by omega) with z | z | z | z | z <;> subst z <;> first | exact r98 j | exact r99 j | exact r100 j | exact r101 j | exact r102 j, fun j => by rw [e79, up2_ne (by omega)]; exact r103 j⟩)⟩
    · have c3 := iv_nlt (X := x0.toInt) (Y := v2.toInt) c3 rfl rfl
      exact pv_vret (M := mX1_remove) dX1_remove_12 rfl ⟨_, _, rfl, rfl, I, Kp, (by first | (exfalso; omega) | exact ⟨by omega, fun a j h1 h2 => by rw [noE, up2_ne (by omega)]; rcases (show a = 98 ∨ a = 99 ∨ a = 100 ∨ a = 101 ∨ a = 102 by omega) with z | z | z | z | z <;> subst z <;> first | exact r98 j | exact r99 j | exact r100 j | exact r101 j | exact r102 j, fun j => by rw [noE, up2_ne (by omega)]; exact r103 j⟩)⟩

set_option maxHeartbeats 2000000 in
set_option maxRecDepth 20000 in
theorem s_X11_back_va (g : pv_G) {T : List mv_T} {m : Nat → Nat → Int32} {n : Nat → Nat → Int64} {r : Nat → Value} {la lb : Nat} (hT : TX T) (I : IV BB m) (R : RX T r la lb) (x0 : Int32) (hp0 : BKI m) (hp1 : RSA m) : PM g mX11_back yX11_back (sqI T BB wS3 r m (-2147483648) 2147483647 (fun m' v => BCKP ((0 ≤ x0.toInt ∧ x0.toInt < (m 0 2).toInt) ∧ ∃ i : Nat, (i : Int) < (m 97 6).toInt ∧ (m 98 i).toInt = x0.toInt) (∀ a j, isR a j = true → m' a j = m a j) (fun v => BCKc m m' (4 + 7 * x0.toInt.toNat) x0.toInt.toNat v) v.toInt)) 3 0 0 [.ref 0, .int x0] (mk T m n r) := by
  have Kp : fr wS3 m m := fr.rf
  have R0 := R
  have zR := R.2.2.2.2.1.1
  have zR2 := R.2.2.2.2.2.1
  have z85 : 0 ≤ (m 97 6).toInt ∧ (m 97 6).toInt ≤ 60 := I 97 6
  refine PM.of 3 (lo := [.ref 0, .int x0, pv_U, pv_U, pv_U]) rfl (by decide) rfl rfl (Nat.le_of_ble_eq_true rfl) ?_
  refine pv_aload_n (M := mX11_back) 0 dX11_back_0 1 rfl rfl rfl ?_
  refine mv_get (M := mX11_back) (v := .ref 97) dX11_back_1 FX11 6 wd413 (by decide) (tl0 hT) rfl rfl 4 rfl ?_
  refine pv_iload_n (M := mX11_back) 1 dX11_back_4 5 rfl rfl rfl ?_
  refine pv_callv (M := mX11_back) (as := [.int x0]) (st := []) (kc2 := 0) (ks2 := 0) dX11_back_5 wd798 YX1_lastOf ⟨wd799, wd800⟩ (mk_get (tl97 hT)) rfl rfl (s_X1_lastOf_va g hT I x0) rfl rfl (Nat.le_of_ble_eq_true rfl) (by decide) rfl rfl 8 rfl (fun rv h1 q1 => ?_)
  obtain ⟨v2, rfl, rfl, pv2, qv2, rv2⟩ := q1
  replace rv2 : LSO (m 98) (m 97 6).toInt x0.toInt v2.toInt := rv2
  show PV _ _ _ _ _ _ _ 8 [.ref 0, .int x0, pv_U, pv_U, pv_U] [.int v2] _
  have k8 := rv2
  refine pv_istore_n (M := mX11_back) 2 (lo2 := [.ref 0, .int x0, .int v2, pv_U, pv_U]) dX11_back_8 9 rfl rfl (by decide) rfl rfl ?_
  refine pv_aload_n (M := mX11_back) 0 dX11_back_9 10 rfl rfl rfl ?_
  refine pv_iload_n (M := mX11_back) 1 dX11_back_10 11 rfl rfl rfl ?_
  refine pv_callv (M := mX11_back) (as := [.int x0]) (st := []) (kc2 := 0) (ks2 := 0) dX11_back_11 wd700 YX11_isBlank ⟨wd702, wd16⟩ (mk_get (tl0 hT)) rfl rfl (s_X11_isBlank_vx g hT I R x0) rfl rfl (Nat.le_of_ble_eq_true rfl) (by decide) rfl rfl 14 rfl (fun rv h1 q4 => ?_)
  obtain ⟨v5, rfl, rfl, pv5, qv5, rv5⟩ := q4
  replace rv5 : (v5 = 0 ∨ (0 ≤ x0.toInt ∧ x0.toInt ≤ 7)) ∧ ((v5.toInt = 1 ∧ 0 ≤ x0.toInt ∧ x0.toInt < (m 0 2).toInt) ∨ (v5.toInt = 0 ∧ (x0.toInt < 0 ∨ (m 0 2).toInt ≤ x0.toInt))) := rv5
  show PV _ _ _ _ _ _ _ 14 [.ref 0, .int x0, .int v2, pv_U, pv_U] [.int v5] _
  have k14 := rv5.2
  refine pv_if_eq (M := mX11_back) (tgt := 22) dX11_back_14 17 rfl (by decide) (fun c7 => ?_) (fun c7 => ?_)
  · have c7 := iv_eq (X := v5.toInt) (Y := 0) c7 rfl (by decide)
    refine pv_iconst (M := mX11_back) (v := (-1)) dX11_back_22 23 rfl (by decide) ?_
    have z8 : ((-1) : Int32).toInt = (-1) := by decide
    exact pv_iret (M := mX11_back) dX11_back_23 rfl rfl ⟨_, _, _, rfl, rfl, I, Kp, by decide, by decide, (Or.inl ⟨(by rintro ⟨h1, h2⟩; first | omega | exact LSO_no k8 (by omega) h2), by decide, fun _ _ _ => rfl⟩)⟩
  · have pc7 := rv5.1.resolve_left c7
    have c7 := iv_ne (X := v5.toInt) (Y := 0) c7 rfl (by decide)
    refine pv_iload_n (M := mX11_back) 2 dX11_back_17 18 rfl rfl rfl ?_
    refine pv_iconst (M := mX11_back) (v := (-1)) dX11_back_18 19 rfl (by decide) ?_
    refine pv_icmp_ne (M := mX11_back) (tgt := 24) dX11_back_19 22 rfl (by decide) (fun c9 => ?_) (fun c9 => ?_)
    · have c9 := iv_ne (X := v2.toInt) (Y := (-1)) c9 rfl (by decide)
      have k24 : 0 ≤ v2.toInt := by omega
      have k24a : v2.toInt < (m 97 6).toInt := by rcases k8 with ⟨_, z, _⟩ | ⟨z, _⟩ <;> omega
      have k24b : (m 98 v2.toInt.toNat).toInt = x0.toInt := by rcases k8 with ⟨_, _, z, _⟩ | ⟨z, _⟩ <;> first | exact z | omega
      have kI := hp0 v2.toInt.toNat (by omega)
      rw [k24b] at kI
      obtain ⟨kI1, kI2, kI3, kI4, kI5⟩ := kI
      refine pv_aload_n (M := mX11_back) 0 dX11_back_24 25 rfl rfl rfl ?_
      refine mv_get (M := mX11_back) (v := .ref 97) dX11_back_25 FX11 6 wd413 (by decide) (tl0 hT) rfl rfl 28 rfl ?_
      refine mv_get (M := mX11_back) (v := .ref 102) dX11_back_28 FX1 4 wd307 (by decide) (tl97 hT) rfl rfl 31 rfl ?_
      refine pv_iload_n (M := mX11_back) 2 dX11_back_31 32 rfl rfl rfl ?_
      refine iv_iald (M := mX11_back) (X := v2.toInt) (l1 := 0) (l2 := 9) dX11_back_32 (tl102 hT) rfl (by omega) (by omega) I (fun _ => rfl) 33 rfl (fun v16 ev16 pv16 qv16 => ?_)
      have k33 : v16.toInt = (m 102 v2.toInt.toNat).toInt := congrArg Int32.toInt ev16
      refine pv_istore_n (M := mX11_back) 3 (lo2 := [.ref 0, .int x0, .int v2, .int v16, pv_U]) dX11_back_33 34 rfl rfl (by decide) rfl rfl ?_
      refine pv_iconst (M := mX11_back) (v := 0) dX11_back_34 35 rfl (by decide) ?_
      refine pv_istore (M := mX11_back) (lo2 := [.ref 0, .int x0, .int v2, .int v16, .int 0]) dX11_back_35 37 rfl (by decide) rfl rfl ?_
      have lp24 : ∀ (fuel23 : Nat) (y18 : Int32) (m19 : Nat → Nat → Int32) (n20 : Nat → Nat → Int64), (0 ≤ y18.toInt) → (y18.toInt ≤ 9) → (y18.toInt ≤ v16.toInt) → (∀ w, m19 ((4 + 7 * x0.toInt.toNat) + 6) w = mkd (m ((4 + 7 * x0.toInt.toNat) + 6)) (fun k => (m 103 (9 * v2.toInt.toNat + k)).toInt.toNat) 0 y18.toInt.toNat w) → (∀ a i, a ≠ (4 + 7 * x0.toInt.toNat) + 6 → m19 a i = m a i) → IV BB m19 → fr wS3 m m19 → ((9 - y18.toInt) : Int).toNat < fuel23 → PV none g mX11_back (sqI T BB wS3 r m (-2147483648) 2147483647 (fun m' v => BCKP ((0 ≤ x0.toInt ∧ x0.toInt < (m 0 2).toInt) ∧ ∃ i : Nat, (i : Int) < (m 97 6).toInt ∧ (m 98 i).toInt = x0.toInt) (∀ a j, isR a j = true → m' a j = m a j) (fun v => BCKc m m' (4 + 7 * x0.toInt.toNat) x0.toInt.toNat v) v.toInt)) 3 0 0 37 [.ref 0, .int x0, .int v2, .int v16, .int y18] [] (mk T m19 n20 r) := by
        intro fuel23
        induction fuel23 with
        | zero => intro y18 m19 n20 b26 b27 b28 b29 b30 I21 K22 z31; omega
        | succ fuel23 ih25 =>
          intro y18 m19 n20 b26 b27 b28 b29 b30 I21 K22 z31
          have z32 : 0 ≤ (m19 97 6).toInt ∧ (m19 97 6).toInt ≤ 60 := I21 97 6
          have kgm := (show ∀ w, m19 ((4 + 7 * x0.toInt.toNat) + 6) w = mkd (m ((4 + 7 * x0.toInt.toNat) + 6)) (fun k => (m 103 (9 * v2.toInt.toNat + k)).toInt.toNat) 0 y18.toInt.toNat w by assumption)
          have kgo := (show ∀ a i, a ≠ (4 + 7 * x0.toInt.toNat) + 6 → m19 a i = m a i by assumption)
          refine pv_iload (M := mX11_back) dX11_back_37 39 rfl rfl ?_
          refine pv_iload_n (M := mX11_back) 3 dX11_back_39 40 rfl rfl rfl ?_
          refine pv_icmp_ge (M := mX11_back) (tgt := 69) dX11_back_40 43 rfl (by decide) (fun c35 => ?_) (fun c35 => ?_)
          · have c35 := iv_le (X := v16.toInt) (Y := y18.toInt) c35 rfl rfl
            refine pv_aload_n (M := mX11_back) 0 dX11_back_69 70 rfl rfl rfl ?_
            refine mv_get (M := mX11_back) (v := .ref 3) dX11_back_70 FX11 1 wd408 (by decide) (tl0 hT) rfl rfl 73 rfl ?_
            refine pv_iload_n (M := mX11_back) 1 dX11_back_73 74 rfl rfl rfl ?_
            refine iv_qblank (M := mX11_back) (X := x0.toInt) dX11_back_74 hT R rfl (by omega) (by omega) 75 rfl (fun b36 eb36 hb36 => ?_)
            have zb36 := hb36.2.2.2.2.2.2.2
            have k75 : b36 = (4 + 7 * x0.toInt.toNat) := by omega
            refine pv_callv (M := mX11_back) (as := []) (st := []) (kc2 := 0) (ks2 := 0) dX11_back_75 wd491 YX0_gather ⟨wd492, wd493⟩ (mk_get hb36.1) rfl rfl (s_X0_gather_vz g hT I21 b36 hb36) rfl rfl (Nat.le_of_ble_eq_true rfl) (by decide) rfl rfl 78 rfl (fun rv h1 q38 => ?_)
            obtain ⟨m39, n40, rfl, rfl, I41, K42, rm39⟩ := q38
            replace rm39 : RST m39 b36 := rm39
            have K42c := K42
            have w43 : (m39 97 6).toInt = (m19 97 6).toInt := congrArg Int32.toInt (K42 97 6 (wr_out (by omega)))
            have K42 := K22.trans (K42.sub (by first | exact wl_sub (by decide) | exact bl_wS36 (by omega) (by omega) (by omega) | exact bl_wS35 (by omega) (by omega) (by omega)))
            show PV _ _ _ _ _ _ _ 78 [.ref 0, .int x0, .int v2, .int v16, .int y18] [] _
            have k78 := rm39
            rw [k75] at k78
            have kf78 : ∀ a i, (a < (4 + 7 * x0.toInt.toNat) + 3 ∨ (4 + 7 * x0.toInt.toNat) + 5 < a) → m39 a i = m19 a i := fun a i q => K42c a i (wr_out (by omega))
            have k78n : y18.toInt.toNat = v16.toInt.toNat := by omega
            rw [k78n] at kgm
            have kg78 : ∀ a i, 60 ≤ a → m39 a i = m a i := fun a i q => (kf78 a i (Or.inr (by omega))).trans (kgo a i (by omega))
            refine pv_aload_n (M := mX11_back) 0 dX11_back_78 79 rfl rfl rfl ?_
            refine mv_get (M := mX11_back) (v := .ref 97) dX11_back_79 FX11 6 wd413 (by decide) (tl0 hT) rfl rfl 82 rfl ?_
            refine pv_iload_n (M := mX11_back) 2 dX11_back_82 83 rfl rfl rfl ?_
            have k83 : (m39 97 6).toInt = (m 97 6).toInt := congrArg Int32.toInt (kg78 97 6 (by omega))
            refine pv_callv (M := mX11_back) (as := [.int v2]) (st := []) (kc2 := 0) (ks2 := 0) dX11_back_83 wd806 YX1_remove ⟨wd807, wd808⟩ (mk_get (tl97 hT)) rfl rfl (s_X1_remove_va g hT I41 v2 (by omega) (by omega)) rfl rfl (Nat.le_of_ble_eq_true rfl) (by decide) rfl rfl 86 rfl (fun rv h1 q51 => ?_)
            obtain ⟨m52, n53, rfl, rfl, I54, K55, rm52⟩ := q51
            replace rm52 : RMVc m39 m52 v2.toInt.toNat := rm52
            have K55c := K55
            have K55 := K42.trans (K55.sub (by first | exact wl_sub (by decide) | exact bl_wS36 (by omega) (by omega) (by omega) | exact bl_wS35 (by omega) (by omega) (by omega)))
            show PV _ _ _ _ _ _ _ 86 [.ref 0, .int x0, .int v2, .int v16, .int y18] [] _
            have k86 := rm52
            have kf86 : ∀ a i, a ≤ 59 → m52 a i = m39 a i := fun a i q => K55c a i (wr_out (by omega))
            have k86r : RMVc m m52 v2.toInt.toNat := by obtain ⟨z1, z2, z3⟩ := k86; rw [kg78 97 6 (by omega)] at z1 z2 z3; rw [show m39 103 = m 103 from funext fun i => kg78 103 i (by omega)] at z3; exact ⟨z1, fun a j h1 h2 => by rw [z2 a j h1 h2, show m39 a = m a from funext fun i => kg78 a i (by omega)], z3⟩
            refine pv_iload_n (M := mX11_back) 3 dX11_back_86 87 rfl rfl rfl ?_
            exact pv_iret (M := mX11_back) dX11_back_87 rfl rfl ⟨_, _, _, rfl, rfl, I54, K55, (iv_rng v16).1, (iv_rng v16).2, (Or.inr ⟨⟨by omega, LSO_has k8 (by omega)⟩, v2.toInt.toNat, (by rw [show ((v2.toInt.toNat : Nat) : Int) = v2.toInt by omega]; rw [show ((x0.toInt.toNat : Nat) : Int) = x0.toInt by omega]; exact k8), k33, (fun w => by rw [kf86 _ _ (by omega), kf78 _ _ (Or.inr (by omega))]; exact kgm w), (fun a i h1 h2 h3 => by rw [kf86 _ _ h2, kf78 _ _ (by omega)]; exact kgo a i (by omega)), RST_eq k78 (fun a j h1 h2 => kf86 a j (by omega)), k86r⟩)⟩
          · have c35 := iv_nle (X := v16.toInt) (Y := y18.toInt) c35 rfl rfl
            refine pv_aload_n (M := mX11_back) 0 dX11_back_43 44 rfl rfl rfl ?_
            refine mv_get (M := mX11_back) (v := .ref 3) dX11_back_44 FX11 1 wd408 (by decide) (tl0 hT) rfl rfl 47 rfl ?_
            refine pv_iload_n (M := mX11_back) 1 dX11_back_47 48 rfl rfl rfl ?_
            refine iv_qblank (M := mX11_back) (X := x0.toInt) dX11_back_48 hT R rfl (by omega) (by omega) 49 rfl (fun b59 eb59 hb59 => ?_)
            have zb59 := hb59.2.2.2.2.2.2.2
            refine pv_aload_n (M := mX11_back) 0 dX11_back_49 50 rfl rfl rfl ?_
            refine mv_get (M := mX11_back) (v := .ref 97) dX11_back_50 FX11 6 wd413 (by decide) (tl0 hT) rfl rfl 53 rfl ?_
            refine pv_iload_n (M := mX11_back) 2 dX11_back_53 54 rfl rfl rfl ?_
            refine pv_iload (M := mX11_back) dX11_back_54 56 rfl rfl ?_
            have k56s : (m19 97 6).toInt = (m 97 6).toInt := congrArg Int32.toInt (kgo 97 6 (by omega))
            have k56p : y18.toInt < (m19 102 v2.toInt.toNat).toInt := by rw [kgo 102 _ (by omega)]; omega
            refine pv_callv (M := mX11_back) (as := [.int v2, .int y18]) (st := [.ref b59]) (kc2 := 0) (ks2 := 0) dX11_back_56 wd802 YX1_numberOf ⟨wd803, wd804⟩ (mk_get (tl97 hT)) rfl rfl (s_X1_numberOf_va g hT I21 v2 (by omega) (by omega) y18 (by omega) (by omega) (by omega) k56p) rfl rfl (Nat.le_of_ble_eq_true rfl) (by decide) rfl rfl 59 rfl (fun rv h1 q62 => ?_)
            obtain ⟨v63, rfl, rfl, pv63, qv63, rv63⟩ := q62
            replace rv63 : v63 = m19 103 (9 * v2.toInt.toNat + y18.toInt.toNat) := rv63
            show PV _ _ _ _ _ _ _ 59 [.ref 0, .int x0, .int v2, .int v16, .int y18] [.int v63, .ref b59] _
            have k59 : v63 = m 103 (9 * v2.toInt.toNat + y18.toInt.toNat) := by rw [rv63, kgo 103 _ (by omega)]
            have k59b := kI5 y18.toInt.toNat (by omega)
            rw [← k59, show 5 + 7 * x0.toInt.toNat = (4 + 7 * x0.toInt.toNat) + 1 by omega] at k59b
            have k59s : (m19 (b59 + 1) 1).toInt = (m (4 + 7 * x0.toInt.toNat + 1) 1).toInt := by rw [show b59 = 4 + 7 * x0.toInt.toNat by omega, kgo _ 1 (by omega)]
            refine pv_iconst (M := mX11_back) (v := 0) dX11_back_59 60 rfl (by decide) ?_
            have k60 : b59 = (4 + 7 * x0.toInt.toNat) := by omega
            have z69 : (0 : Int32).toInt = 0 := by decide
            refine pv_callv (M := mX11_back) (as := [.int v63, .int 0]) (st := []) (kc2 := 0) (ks2 := 0) dX11_back_60 wd790 YX0_mark ⟨wd791, wd792⟩ (mk_get hb59.1) rfl rfl (s_X0_mark_va g hT I21 b59 hb59 v63 0 (by decide) (by decide) (by omega) (by omega)) rfl rfl (Nat.le_of_ble_eq_true rfl) (by decide) rfl rfl 63 rfl (fun rv h1 q70 => ?_)
            obtain ⟨m71, n72, rfl, rfl, I73, K74, rm71⟩ := q70
            replace rm71 : ∀ w, m71 (b59 + 6) w = if w = v63.toInt.toNat then (0 : Int32) else m19 (b59 + 6) w := by have q_ := rm71; (try rw [z69] at q_); exact q_
            have K74c := K74
            have w75 : (m71 97 6).toInt = (m19 97 6).toInt := congrArg Int32.toInt (K74 97 6 (wr_out (by omega)))
            have K74 := K22.trans (K74.sub (by first | exact wl_sub (by decide) | exact bl_wS36 (by omega) (by omega) (by omega) | exact bl_wS35 (by omega) (by omega) (by omega)))
            show PV _ _ _ _ _ _ _ 63 [.ref 0, .int x0, .int v2, .int v16, .int y18] [] _
            have k63 := rm71
            rw [k60] at k63
            have kf63 : ∀ a i, a ≠ (4 + 7 * x0.toInt.toNat) + 6 → m71 a i = m19 a i := fun a i q => K74c a i (wr_out (by omega))
            refine iv_inc (M := mX11_back) (C := 1) dX11_back_63 66 rfl rfl (by decide) rfl rfl (by decide) (by omega) (by omega) (fun v79 ev79 => ?_)
            show PV _ _ _ _ _ _ _ 66 [.ref 0, .int x0, .int v2, .int v16, .int v79] [] _
            refine pv_goto (M := mX11_back) (tgt := 37) dX11_back_66 (by decide) ?_
            have kn : v79.toInt.toNat = (y18.toInt).toNat + 1 := by omega
            have kbm : ∀ w, m71 ((4 + 7 * x0.toInt.toNat) + 6) w = mkd (m ((4 + 7 * x0.toInt.toNat) + 6)) (fun k => (m 103 (9 * v2.toInt.toNat + k)).toInt.toNat) 0 v79.toInt.toNat w := fun w => by rw [kn, mkd_s, k63 w, k59, kgm w]
            have kbo : ∀ a i, a ≠ (4 + 7 * x0.toInt.toNat) + 6 → m71 a i = m a i := fun a i q => (kf63 a i q).trans (kgo a i q)
            exact ih25 v79 m71 n72 (by first | omega | assumption | exact (iv_rng _).2 | exact (iv_rng _).1 | decide) (by first | omega | assumption | exact (iv_rng _).2 | exact (iv_rng _).1 | decide) (by first | omega | assumption | (show v79.toInt ≤ v16.toInt; omega) | decide) kbm kbo I73 K74 (by omega)
      have z83 : (0 : Int32).toInt = 0 := by decide
      exact lp24 (((9 - 0) : Int).toNat + 1) 0 m n (by first | omega | assumption | exact (iv_rng _).2 | exact (iv_rng _).1 | decide) (by first | omega | assumption | exact (iv_rng _).2 | exact (iv_rng _).1 | decide) (by first | omega | assumption | (show 0 ≤ v16.toInt; omega) | decide) (fun w => by rw [Int32.toInt_zero]; rfl) (fun _ _ _ => rfl) I Kp (by omega)
    · have c9 := iv_eq (X := v2.toInt) (Y := (-1)) c9 rfl (by decide)
      refine pv_iconst (M := mX11_back) (v := (-1)) dX11_back_22 23 rfl (by decide) ?_
      have z84 : ((-1) : Int32).toInt = (-1) := by decide
      exact pv_iret (M := mX11_back) dX11_back_23 rfl rfl ⟨_, _, _, rfl, rfl, I, Kp, by decide, by decide, (Or.inl ⟨(by rintro ⟨h1, h2⟩; first | omega | exact LSO_no k8 (by omega) h2), by decide, fun _ _ _ => rfl⟩)⟩

set_option maxHeartbeats 2000000 in
set_option maxRecDepth 20000 in
theorem s_X12_leaves_va (g : pv_G) {T : List mv_T} {m : Nat → Nat → Int32} {n : Nat → Nat → Int64} {r : Nat → Value} (hT : TX T) (I : IV BB m) (x0 : Int32) (hl0 : 0 ≤ x0.toInt) (hh0 : x0.toInt ≤ 59) (hp0 : x0.toInt < (m 123 3).toInt) : PM g mX12_leaves yX12_leaves (sqV T BB (wl [(123, 123, some 3), (143, 143, none), (144, 144, none), (145, 145, none), (146, 146, none), (147, 147, none), (148, 148, none)]) r m (fun m' => RMVr m m' x0.toInt.toNat)) 1 0 0 [.ref 123, .int x0] (mk T m n r) := by
  have Kp : fr (wl [(123, 123, some 3), (143, 143, none), (144, 144, none), (145, 145, none), (146, 146, none), (147, 147, none), (148, 148, none)]) m m := fr.rf
  have z103 : 0 ≤ (m 123 3).toInt ∧ (m 123 3).toInt ≤ 60 := I 123 3
  refine PM.of 2 (lo := [.ref 123, .int x0, pv_U, pv_U]) rfl (by decide) rfl rfl (Nat.le_of_ble_eq_true rfl) ?_
  refine pv_iload_n (M := mX12_leaves) 1 dX12_leaves_0 1 rfl rfl rfl ?_
  refine pv_istore_n (M := mX12_leaves) 2 (lo2 := [.ref 123, .int x0, .int x0, pv_U]) dX12_leaves_1 2 rfl rfl (by decide) rfl rfl ?_
  have lp7 : ∀ (fuel6 : Nat) (y1 : Int32) (m2 : Nat → Nat → Int32) (n3 : Nat → Nat → Int64), (0 ≤ y1.toInt) → (y1.toInt ≤ 60) → ((m2 123 3).toInt = (m 123 3).toInt) → (y1.toInt + 1 ≤ (m 123 3).toInt) → (x0.toInt ≤ y1.toInt) → ((∀ a j, 143 ≤ a → a ≤ 147 → m2 a j = rmv (m a) x0.toInt.toNat y1.toInt.toNat 1 j) ∧ ∀ j, m2 148 j = rmv (m 148) (9 * x0.toInt.toNat) (9 * y1.toInt.toNat) 9 j) → IV BB m2 → fr (wl [(123, 123, some 3), (143, 143, none), (144, 144, none), (145, 145, none), (146, 146, none), (147, 147, none), (148, 148, none)]) m m2 → ((60 - y1.toInt) : Int).toNat < fuel6 → PV none g mX12_leaves (sqV T BB (wl [(123, 123, some 3), (143, 143, none), (144, 144, none), (145, 145, none), (146, 146, none), (147, 147, none), (148, 148, none)]) r m (fun m' => RMVr m m' x0.toInt.toNat)) 1 0 0 2 [.ref 123, .int x0, .int y1, pv_U] [] (mk T m2 n3 r) := by
    intro fuel6
    induction fuel6 with
    | zero => intro y1 m2 n3 b9 b10 b11 b12 b13 b14 I4 K5 z15; omega
    | succ fuel6 ih8 =>
      intro y1 m2 n3 b9 b10 b11 b12 b13 b14 I4 K5 z15
      have z16 : 0 ≤ (m2 123 3).toInt ∧ (m2 123 3).toInt ≤ 60 := I4 123 3
      have kg1 := (show (∀ a j, 143 ≤ a → a ≤ 147 → m2 a j = rmv (m a) x0.toInt.toNat y1.toInt.toNat 1 j) ∧ ∀ j, m2 148 j = rmv (m 148) (9 * x0.toInt.toNat) (9 * y1.toInt.toNat) 9 j by assumption)
      refine pv_iload_n (M := mX12_leaves) 2 dX12_leaves_2 3 rfl rfl rfl ?_
      refine pv_iconst (M := mX12_leaves) (v := 1) dX12_leaves_3 4 rfl (by decide) ?_
      refine iv_iadd (M := mX12_leaves) (X := y1.toInt) (Y := 1) dX12_leaves_4 5 rfl rfl (by decide) (by omega) (by omega) (fun v18 ev18 => ?_)
      refine pv_aload_n (M := mX12_leaves) 0 dX12_leaves_5 6 rfl rfl rfl ?_
      refine iv_get (M := mX12_leaves) (l1 := 0) (l2 := 60) dX12_leaves_6 FX12 3 wd1176 (by decide) (tl123 hT) rfl I4 rfl 9 rfl (fun v19 ev19 pv19 qv19 => ?_)
      have wv19 : v19.toInt = (m2 123 3).toInt := congrArg Int32.toInt ev19
      refine pv_icmp_ge (M := mX12_leaves) (tgt := 127) dX12_leaves_9 12 rfl (by decide) (fun c20 => ?_) (fun c20 => ?_)
      · have c20 := iv_le (X := v19.toInt) (Y := v18.toInt) c20 rfl rfl
        refine pv_aload_n (M := mX12_leaves) 0 dX12_leaves_127 128 rfl rfl rfl ?_
        refine pv_aload_n (M := mX12_leaves) 0 dX12_leaves_128 129 rfl rfl rfl ?_
        refine iv_get (M := mX12_leaves) (l1 := 0) (l2 := 60) dX12_leaves_129 FX12 3 wd1176 (by decide) (tl123 hT) rfl I4 rfl 132 rfl (fun v21 ev21 pv21 qv21 => ?_)
        have wv21 : v21.toInt = (m2 123 3).toInt := congrArg Int32.toInt ev21
        refine pv_iconst (M := mX12_leaves) (v := 1) dX12_leaves_132 133 rfl (by decide) ?_
        refine iv_isub (M := mX12_leaves) (X := v21.toInt) (Y := 1) dX12_leaves_133 134 rfl rfl (by decide) (by omega) (by omega) (fun v22 ev22 => ?_)
        refine iv_put (M := mX12_leaves) (l1 := 0) (l2 := 60) dX12_leaves_134 FX12 3 wd1176 (by decide) rfl (tl123 hT) rfl rfl rfl I4 rfl (by omega) (by omega) 137 rfl (fun m23 e26 I24 => ?_)
        have K25 := K5.set e26 rfl
        have w27 : (m23 123 3).toInt = v22.toInt := by rw [e26, up2_eq]
        exact pv_vret (M := mX12_leaves) dX12_leaves_137 rfl ⟨_, _, rfl, rfl, I24, K25, ⟨by omega, fun a j h1 h2 => by rw [e26, up2_ne (by omega), show (m 123 3).toInt.toNat - 1 = y1.toInt.toNat by omega]; exact kg1.1 a j h1 h2, fun j => by rw [e26, up2_ne (by omega), show (m 123 3).toInt.toNat - 1 = y1.toInt.toNat by omega]; exact kg1.2 j⟩⟩
      · have c20 := iv_nle (X := v19.toInt) (Y := v18.toInt) c20 rfl rfl
        refine pv_aload_n (M := mX12_leaves) 0 dX12_leaves_12 13 rfl rfl rfl ?_
        refine mv_get (M := mX12_leaves) (v := .ref 143) dX12_leaves_13 FX12 34 wd1207 (by decide) (tl123 hT) rfl rfl 16 rfl ?_
        refine pv_iload_n (M := mX12_leaves) 2 dX12_leaves_16 17 rfl rfl rfl ?_
        refine pv_aload_n (M := mX12_leaves) 0 dX12_leaves_17 18 rfl rfl rfl ?_
        refine mv_get (M := mX12_leaves) (v := .ref 143) dX12_leaves_18 FX12 34 wd1207 (by decide) (tl123 hT) rfl rfl 21 rfl ?_
        refine pv_iload_n (M := mX12_leaves) 2 dX12_leaves_21 22 rfl rfl rfl ?_
        refine pv_iconst (M := mX12_leaves) (v := 1) dX12_leaves_22 23 rfl (by decide) ?_
        refine iv_iadd (M := mX12_leaves) (X := y1.toInt) (Y := 1) dX12_leaves_23 24 rfl rfl (by decide) (by omega) (by omega) (fun v28 ev28 => ?_)
        refine iv_iald (M := mX12_leaves) (X := v28.toInt) (l1 := 0) (l2 := 7) dX12_leaves_24 (tl143 hT) rfl (by omega) (by omega) I4 (fun _ => rfl) 25 rfl (fun v29 ev29 pv29 qv29 => ?_)
        have k24 : v29 = m 143 (y1.toInt.toNat + 1) := ev29.trans (by rw [kg1.1 143 _ (by omega) (by omega), rmv_hi (by omega)]; exact congrArg (m 143) (by omega))
        refine iv_iast (M := mX12_leaves) (X := y1.toInt) (l1 := 0) (l2 := 7) dX12_leaves_25 (tl143 hT) rfl (by omega) (by omega) I4 (fun _ => rfl) (by omega) (by omega) 26 rfl (fun m31 e34 I32 => ?_)
        have K33 := K5.set e34 rfl
        have w35 : (m31 123 3).toInt = (m2 123 3).toInt := by rw [e34, up2_ne (by omega)]
        refine pv_aload_n (M := mX12_leaves) 0 dX12_leaves_26 27 rfl rfl rfl ?_
        refine mv_get (M := mX12_leaves) (v := .ref 144) dX12_leaves_27 FX12 35 wd1208 (by decide) (tl123 hT) rfl rfl 30 rfl ?_
        refine pv_iload_n (M := mX12_leaves) 2 dX12_leaves_30 31 rfl rfl rfl ?_
        refine pv_aload_n (M := mX12_leaves) 0 dX12_leaves_31 32 rfl rfl rfl ?_
        refine mv_get (M := mX12_leaves) (v := .ref 144) dX12_leaves_32 FX12 35 wd1208 (by decide) (tl123 hT) rfl rfl 35 rfl ?_
        refine pv_iload_n (M := mX12_leaves) 2 dX12_leaves_35 36 rfl rfl rfl ?_
        refine pv_iconst (M := mX12_leaves) (v := 1) dX12_leaves_36 37 rfl (by decide) ?_
        refine iv_iadd (M := mX12_leaves) (X := y1.toInt) (Y := 1) dX12_leaves_37 38 rfl rfl (by decide) (by omega) (by omega) (fun v36 ev36 => ?_)
        refine iv_iald (M := mX12_leaves) (X := v36.toInt) (l1 := (-2147483648)) (l2 := 2147483647) dX12_leaves_38 (tl144 hT) rfl (by omega) (by omega) I32 (fun _ => rfl) 39 rfl (fun v37 ev37 pv37 qv37 => ?_)
        have k38 : v37 = m 144 (y1.toInt.toNat + 1) := ev37.trans (by rw [e34, up2_ne (by omega), kg1.1 144 _ (by omega) (by omega), rmv_hi (by omega)]; exact congrArg (m 144) (by omega))
        refine iv_iast (M := mX12_leaves) (X := y1.toInt) (l1 := (-2147483648)) (l2 := 2147483647) dX12_leaves_39 (tl144 hT) rfl (by omega) (by omega) I32 (fun _ => rfl) (iv_rng v37).1 (iv_rng v37).2 40 rfl (fun m39 e42 I40 => ?_)
        have K41 := K33.set e42 rfl
        have w43 : (m39 123 3).toInt = (m31 123 3).toInt := by rw [e42, up2_ne (by omega)]
        refine pv_aload_n (M := mX12_leaves) 0 dX12_leaves_40 41 rfl rfl rfl ?_
        refine mv_get (M := mX12_leaves) (v := .ref 145) dX12_leaves_41 FX12 36 wd1209 (by decide) (tl123 hT) rfl rfl 44 rfl ?_
        refine pv_iload_n (M := mX12_leaves) 2 dX12_leaves_44 45 rfl rfl rfl ?_
        refine pv_aload_n (M := mX12_leaves) 0 dX12_leaves_45 46 rfl rfl rfl ?_
        refine mv_get (M := mX12_leaves) (v := .ref 145) dX12_leaves_46 FX12 36 wd1209 (by decide) (tl123 hT) rfl rfl 49 rfl ?_
        refine pv_iload_n (M := mX12_leaves) 2 dX12_leaves_49 50 rfl rfl rfl ?_
        refine pv_iconst (M := mX12_leaves) (v := 1) dX12_leaves_50 51 rfl (by decide) ?_
        refine iv_iadd (M := mX12_leaves) (X := y1.toInt) (Y := 1) dX12_leaves_51 52 rfl rfl (by decide) (by omega) (by omega) (fun v44 ev44 => ?_)
        refine iv_iald (M := mX12_leaves) (X := v44.toInt) (l1 := (-2147483648)) (l2 := 2147483647) dX12_leaves_52 (tl145 hT) rfl (by omega) (by omega) I40 (fun _ => rfl) 53 rfl (fun v45 ev45 pv45 qv45 => ?_)
        have k52 : v45 = m 145 (y1.toInt.toNat + 1) := ev45.trans (by rw [e42, up2_ne (by omega), e34, up2_ne (by omega), kg1.1 145 _ (by omega) (by omega), rmv_hi (by omega)]; exact congrArg (m 145) (by omega))
        refine iv_iast (M := mX12_leaves) (X := y1.toInt) (l1 := (-2147483648)) (l2 := 2147483647) dX12_leaves_53 (tl145 hT) rfl (by omega) (by omega) I40 (fun _ => rfl) (iv_rng v45).1 (iv_rng v45).2 54 rfl (fun m47 e50 I48 => ?_)
        have K49 := K41.set e50 rfl
        have w51 : (m47 123 3).toInt = (m39 123 3).toInt := by rw [e50, up2_ne (by omega)]
        refine pv_aload_n (M := mX12_leaves) 0 dX12_leaves_54 55 rfl rfl rfl ?_
        refine mv_get (M := mX12_leaves) (v := .ref 146) dX12_leaves_55 FX12 37 wd1210 (by decide) (tl123 hT) rfl rfl 58 rfl ?_
        refine pv_iload_n (M := mX12_leaves) 2 dX12_leaves_58 59 rfl rfl rfl ?_
        refine pv_aload_n (M := mX12_leaves) 0 dX12_leaves_59 60 rfl rfl rfl ?_
        refine mv_get (M := mX12_leaves) (v := .ref 146) dX12_leaves_60 FX12 37 wd1210 (by decide) (tl123 hT) rfl rfl 63 rfl ?_
        refine pv_iload_n (M := mX12_leaves) 2 dX12_leaves_63 64 rfl rfl rfl ?_
        refine pv_iconst (M := mX12_leaves) (v := 1) dX12_leaves_64 65 rfl (by decide) ?_
        refine iv_iadd (M := mX12_leaves) (X := y1.toInt) (Y := 1) dX12_leaves_65 66 rfl rfl (by decide) (by omega) (by omega) (fun v52 ev52 => ?_)
        refine iv_iald (M := mX12_leaves) (X := v52.toInt) (l1 := (-2147483648)) (l2 := 2147483647) dX12_leaves_66 (tl146 hT) rfl (by omega) (by omega) I48 (fun _ => rfl) 67 rfl (fun v53 ev53 pv53 qv53 => ?_)
        have k66 : v53 = m 146 (y1.toInt.toNat + 1) := ev53.trans (by rw [e50, up2_ne (by omega), e42, up2_ne (by omega), e34, up2_ne (by omega), kg1.1 146 _ (by omega) (by omega), rmv_hi (by omega)]; exact congrArg (m 146) (by omega))
        refine iv_iast (M := mX12_leaves) (X := y1.toInt) (l1 := (-2147483648)) (l2 := 2147483647) dX12_leaves_67 (tl146 hT) rfl (by omega) (by omega) I48 (fun _ => rfl) (iv_rng v53).1 (iv_rng v53).2 68 rfl (fun m55 e58 I56 => ?_)
        have K57 := K49.set e58 rfl
        have w59 : (m55 123 3).toInt = (m47 123 3).toInt := by rw [e58, up2_ne (by omega)]
        refine pv_aload_n (M := mX12_leaves) 0 dX12_leaves_68 69 rfl rfl rfl ?_
        refine mv_get (M := mX12_leaves) (v := .ref 147) dX12_leaves_69 FX12 38 wd1211 (by decide) (tl123 hT) rfl rfl 72 rfl ?_
        refine pv_iload_n (M := mX12_leaves) 2 dX12_leaves_72 73 rfl rfl rfl ?_
        refine pv_aload_n (M := mX12_leaves) 0 dX12_leaves_73 74 rfl rfl rfl ?_
        refine mv_get (M := mX12_leaves) (v := .ref 147) dX12_leaves_74 FX12 38 wd1211 (by decide) (tl123 hT) rfl rfl 77 rfl ?_
        refine pv_iload_n (M := mX12_leaves) 2 dX12_leaves_77 78 rfl rfl rfl ?_
        refine pv_iconst (M := mX12_leaves) (v := 1) dX12_leaves_78 79 rfl (by decide) ?_
        refine iv_iadd (M := mX12_leaves) (X := y1.toInt) (Y := 1) dX12_leaves_79 80 rfl rfl (by decide) (by omega) (by omega) (fun v60 ev60 => ?_)
        refine iv_iald (M := mX12_leaves) (X := v60.toInt) (l1 := 0) (l2 := 9) dX12_leaves_80 (tl147 hT) rfl (by omega) (by omega) I56 (fun _ => rfl) 81 rfl (fun v61 ev61 pv61 qv61 => ?_)
        have k80 : v61 = m 147 (y1.toInt.toNat + 1) := ev61.trans (by rw [e58, up2_ne (by omega), e50, up2_ne (by omega), e42, up2_ne (by omega), e34, up2_ne (by omega), kg1.1 147 _ (by omega) (by omega), rmv_hi (by omega)]; exact congrArg (m 147) (by omega))
        refine iv_iast (M := mX12_leaves) (X := y1.toInt) (l1 := 0) (l2 := 9) dX12_leaves_81 (tl147 hT) rfl (by omega) (by omega) I56 (fun _ => rfl) (by omega) (by omega) 82 rfl (fun m63 e66 I64 => ?_)
        have K65 := K57.set e66 rfl
        have w67 : (m63 123 3).toInt = (m55 123 3).toInt := by rw [e66, up2_ne (by omega)]
        refine pv_iconst (M := mX12_leaves) (v := 0) dX12_leaves_82 83 rfl (by decide) ?_
        refine pv_istore_n (M := mX12_leaves) 3 (lo2 := [.ref 123, .int x0, .int y1, .int 0]) dX12_leaves_83 84 rfl rfl (by decide) rfl rfl ?_
        have lp74 : ∀ (fuel73 : Nat) (y68 : Int32) (m69 : Nat → Nat → Int32) (n70 : Nat → Nat → Int64), (0 ≤ y68.toInt) → (y68.toInt ≤ 9) → ((m69 123 3).toInt = (m 123 3).toInt) → ((∀ a j, 143 ≤ a → a ≤ 147 → m69 a j = rmv (m a) x0.toInt.toNat (y1.toInt.toNat + 1) 1 j) ∧ ∀ j, m69 148 j = rmv (m 148) (9 * x0.toInt.toNat) (9 * y1.toInt.toNat + y68.toInt.toNat) 9 j) → IV BB m69 → fr (wl [(123, 123, some 3), (143, 143, none), (144, 144, none), (145, 145, none), (146, 146, none), (147, 147, none), (148, 148, none)]) m m69 → ((9 - y68.toInt) : Int).toNat < fuel73 → PV none g mX12_leaves (sqV T BB (wl [(123, 123, some 3), (143, 143, none), (144, 144, none), (145, 145, none), (146, 146, none), (147, 147, none), (148, 148, none)]) r m (fun m' => RMVr m m' x0.toInt.toNat)) 1 0 0 84 [.ref 123, .int x0, .int y1, .int y68] [] (mk T m69 n70 r) := by
          intro fuel73
          induction fuel73 with
          | zero => intro y68 m69 n70 b76 b77 b78 b79 I71 K72 z80; omega
          | succ fuel73 ih75 =>
            intro y68 m69 n70 b76 b77 b78 b79 I71 K72 z80
            have z81 : 0 ≤ (m69 123 3).toInt ∧ (m69 123 3).toInt ≤ 60 := I71 123 3
            have kg2 := (show (∀ a j, 143 ≤ a → a ≤ 147 → m69 a j = rmv (m a) x0.toInt.toNat (y1.toInt.toNat + 1) 1 j) ∧ ∀ j, m69 148 j = rmv (m 148) (9 * x0.toInt.toNat) (9 * y1.toInt.toNat + y68.toInt.toNat) 9 j by assumption)
            refine pv_iload_n (M := mX12_leaves) 3 dX12_leaves_84 85 rfl rfl rfl ?_
            refine pv_bipush (M := mX12_leaves) (v := 9) dX12_leaves_85 87 rfl (by decide) ?_
            refine pv_icmp_ge (M := mX12_leaves) (tgt := 121) dX12_leaves_87 90 rfl (by decide) (fun c83 => ?_) (fun c83 => ?_)
            · have c83 := iv_le (X := 9) (Y := y68.toInt) c83 (by decide) rfl
              refine iv_inc (M := mX12_leaves) (C := 1) dX12_leaves_121 124 rfl rfl (by decide) rfl rfl (by decide) (by omega) (by omega) (fun v84 ev84 => ?_)
              show PV _ _ _ _ _ _ _ 124 [.ref 123, .int x0, .int v84, .int y68] [] _
              refine pv_goto (M := mX12_leaves) (tgt := 2) dX12_leaves_124 (by decide) ?_
              refine pv_fg (lo2 := [.ref 123, .int x0, .int v84, pv_U]) ⟨Or.inr rfl, ⟨Or.inr rfl, ⟨Or.inr rfl, ⟨Or.inl rfl, trivial⟩⟩⟩⟩ ?_
              have kb1 : (∀ a j, 143 ≤ a → a ≤ 147 → m69 a j = rmv (m a) x0.toInt.toNat v84.toInt.toNat 1 j) ∧ ∀ j, m69 148 j = rmv (m 148) (9 * x0.toInt.toNat) (9 * v84.toInt.toNat) 9 j := by rw [show v84.toInt.toNat = (y1.toInt).toNat + 1 by omega]; exact ⟨kg2.1, fun j => by rw [kg2.2 j]; congr 1; omega⟩
              exact ih8 v84 m69 n70 (by first | omega | assumption | exact (iv_rng _).2 | exact (iv_rng _).1 | decide) (by first | omega | assumption | exact (iv_rng _).2 | exact (iv_rng _).1 | decide) (by first | omega | assumption | (show (m69 123 3).toInt = (m 123 3).toInt; omega) | decide) (by first | omega | assumption | (show v84.toInt + 1 ≤ (m 123 3).toInt; omega) | decide) (by first | omega | assumption | (show x0.toInt ≤ v84.toInt; omega) | decide) kb1 I71 K72 (by omega)
            · have c83 := iv_nle (X := 9) (Y := y68.toInt) c83 (by decide) rfl
              refine pv_aload_n (M := mX12_leaves) 0 dX12_leaves_90 91 rfl rfl rfl ?_
              refine mv_get (M := mX12_leaves) (v := .ref 148) dX12_leaves_91 FX12 39 wd1212 (by decide) (tl123 hT) rfl rfl 94 rfl ?_
              refine pv_bipush (M := mX12_leaves) (v := 9) dX12_leaves_94 96 rfl (by decide) ?_
              refine pv_iload_n (M := mX12_leaves) 2 dX12_leaves_96 97 rfl rfl rfl ?_
              refine iv_imul (M := mX12_leaves) (X := 9) (Y := y1.toInt) dX12_leaves_97 98 rfl (by decide) rfl (by omega) (by omega) (fun v86 ev86 => ?_)
              refine pv_iload_n (M := mX12_leaves) 3 dX12_leaves_98 99 rfl rfl rfl ?_
              refine iv_iadd (M := mX12_leaves) (X := v86.toInt) (Y := y68.toInt) dX12_leaves_99 100 rfl rfl rfl (by omega) (by omega) (fun v87 ev87 => ?_)
              refine pv_aload_n (M := mX12_leaves) 0 dX12_leaves_100 101 rfl rfl rfl ?_
              refine mv_get (M := mX12_leaves) (v := .ref 148) dX12_leaves_101 FX12 39 wd1212 (by decide) (tl123 hT) rfl rfl 104 rfl ?_
              refine pv_bipush (M := mX12_leaves) (v := 9) dX12_leaves_104 106 rfl (by decide) ?_
              refine pv_iload_n (M := mX12_leaves) 2 dX12_leaves_106 107 rfl rfl rfl ?_
              refine iv_imul (M := mX12_leaves) (X := 9) (Y := y1.toInt) dX12_leaves_107 108 rfl (by decide) rfl (by omega) (by omega) (fun v88 ev88 => ?_)
              refine pv_bipush (M := mX12_leaves) (v := 9) dX12_leaves_108 110 rfl (by decide) ?_
              refine iv_iadd (M := mX12_leaves) (X := v88.toInt) (Y := 9) dX12_leaves_110 111 rfl rfl (by decide) (by omega) (by omega) (fun v89 ev89 => ?_)
              refine pv_iload_n (M := mX12_leaves) 3 dX12_leaves_111 112 rfl rfl rfl ?_
              refine iv_iadd (M := mX12_leaves) (X := v89.toInt) (Y := y68.toInt) dX12_leaves_112 113 rfl rfl rfl (by omega) (by omega) (fun v90 ev90 => ?_)
              refine iv_iald (M := mX12_leaves) (X := v90.toInt) (l1 := 0) (l2 := 39) dX12_leaves_113 (tl148 hT) rfl (by omega) (by omega) I71 (fun _ => rfl) 114 rfl (fun v91 ev91 pv91 qv91 => ?_)
              have k114 : v91 = m 148 (9 * y1.toInt.toNat + y68.toInt.toNat + 9) := ev91.trans (by rw [kg2.2, rmv_hi (by omega)]; congr 1; omega)
              refine iv_iast (M := mX12_leaves) (X := v87.toInt) (l1 := 0) (l2 := 39) dX12_leaves_114 (tl148 hT) rfl (by omega) (by omega) I71 (fun _ => rfl) (by omega) (by omega) 115 rfl (fun m93 e96 I94 => ?_)
              have K95 := K72.set e96 rfl
              have w97 : (m93 123 3).toInt = (m69 123 3).toInt := by rw [e96, up2_ne (by omega)]
              have k115 := (e96).trans (up2_ix (j := 9 * y1.toInt.toNat + y68.toInt.toNat) (by omega))
              refine iv_inc (M := mX12_leaves) (C := 1) dX12_leaves_115 118 rfl rfl (by decide) rfl rfl (by decide) (by omega) (by omega) (fun v99 ev99 => ?_)
              show PV _ _ _ _ _ _ _ 118 [.ref 123, .int x0, .int y1, .int v99] [] _
              refine pv_goto (M := mX12_leaves) (tgt := 84) dX12_leaves_118 (by decide) ?_
              have kb2 : (∀ a j, 143 ≤ a → a ≤ 147 → m93 a j = rmv (m a) x0.toInt.toNat (y1.toInt.toNat + 1) 1 j) ∧ ∀ j, m93 148 j = rmv (m 148) (9 * x0.toInt.toNat) (9 * y1.toInt.toNat + v99.toInt.toNat) 9 j := ⟨fun a j h1 h2 => by rw [k115, up2_ne (by omega)]; exact kg2.1 a j h1 h2, fun j => by rw [show 9 * y1.toInt.toNat + v99.toInt.toNat = 9 * y1.toInt.toNat + (y68.toInt).toNat + 1 by omega, rmv_s (by omega)]; by_cases y : j = 9 * y1.toInt.toNat + (y68.toInt).toNat; (rw [if_pos y, k115, y, up2_eq]; exact k114); (rw [if_neg y, k115, up2_ne (by omega)]; exact kg2.2 j)⟩
              exact ih75 v99 m93 n70 (by first | omega | assumption | exact (iv_rng _).2 | exact (iv_rng _).1 | decide) (by first | omega | assumption | exact (iv_rng _).2 | exact (iv_rng _).1 | decide) (by first | omega | assumption | (show (m93 123 3).toInt = (m 123 3).toInt; omega) | decide) kb2 I94 K95 (by omega)
        have z101 : (0 : Int32).toInt = 0 := by decide
        have kin : (∀ a j, 143 ≤ a → a ≤ 147 → m63 a j = rmv (m a) x0.toInt.toNat (y1.toInt.toNat + 1) 1 j) ∧ ∀ j, m63 148 j = rmv (m 148) (9 * x0.toInt.toNat) (9 * y1.toInt.toNat + (0 : Int32).toInt.toNat) 9 j := ⟨fun a j h1 h2 => by rcases (show a = 143 ∨ a = 144 ∨ a = 145 ∨ a = 146 ∨ a = 147 by omega) with z | z | z | z | z <;> subst z <;> (rw [rmv_s (f := _) (j := j) (by omega)]; by_cases y : j = y1.toInt.toNat) <;> (first | rw [if_pos y, y] | rw [if_neg y]) <;> first | (rw [e66, up2_ne (by omega), e58, up2_ne (by omega), e50, up2_ne (by omega), e42, up2_ne (by omega), e34, up2_at (by omega)]; exact k24) | (rw [e66, up2_ne (by omega), e58, up2_ne (by omega), e50, up2_ne (by omega), e42, up2_at (by omega)]; exact k38) | (rw [e66, up2_ne (by omega), e58, up2_ne (by omega), e50, up2_at (by omega)]; exact k52) | (rw [e66, up2_ne (by omega), e58, up2_at (by omega)]; exact k66) | (rw [e66, up2_at (by omega)]; exact k80) | (rw [e66, up2_ne (by omega), e58, up2_ne (by omega), e50, up2_ne (by omega), e42, up2_ne (by omega), e34, up2_ne (by omega)]; exact kg1.1 _ j (by omega) (by omega)), fun j => by rw [show (0 : Int32).toInt.toNat = 0 from (by decide), Nat.add_zero, e66, up2_ne (by omega), e58, up2_ne (by omega), e50, up2_ne (by omega), e42, up2_ne (by omega), e34, up2_ne (by omega)]; exact kg1.2 j⟩
        exact lp74 (((9 - 0) : Int).toNat + 1) 0 m63 n3 (by first | omega | assumption | exact (iv_rng _).2 | exact (iv_rng _).1 | decide) (by first | omega | assumption | exact (iv_rng _).2 | exact (iv_rng _).1 | decide) (by first | omega | assumption | (show (m63 123 3).toInt = (m 123 3).toInt; omega) | decide) kin I64 K65 (by omega)
  exact lp7 (((60 - x0.toInt) : Int).toNat + 1) x0 m n (by first | omega | assumption | exact (iv_rng _).2 | exact (iv_rng _).1 | decide) (by first | omega | assumption | exact (iv_rng _).2 | exact (iv_rng _).1 | decide) (by first | omega | assumption | (show (m 123 3).toInt = (m 123 3).toInt; omega) | decide) (by first | omega | assumption | (show x0.toInt + 1 ≤ (m 123 3).toInt; omega) | decide) (by first | omega | assumption | (show x0.toInt ≤ x0.toInt; omega) | decide) ⟨fun a j _ _ => (rmv_0 (by omega)).symm, fun j => (rmv_0 (by omega)).symm⟩ I Kp (by omega)

set_option maxHeartbeats 2000000 in
set_option maxRecDepth 20000 in
theorem s_X12_back_va (g : pv_G) {T : List mv_T} {m : Nat → Nat → Int32} {n : Nat → Nat → Int64} {r : Nat → Value} (hT : TX T) (I : IV BB m) (x0 : Int32) : PM g mX12_back yX12_back (sqI T BB (wl [(123, 123, some 3), (128, 128, none), (143, 143, none), (144, 144, none), (145, 145, none), (146, 146, none), (147, 147, none), (148, 148, none)]) r m (-2147483648) 2147483647 (fun m' v => BCKP ((0 ≤ x0.toInt ∧ x0.toInt < (m 123 0).toInt) ∧ ∃ i : Nat, (i : Int) < (m 123 3).toInt ∧ (m 143 i).toInt = x0.toInt) (∀ a j, isR a j = true → m' a j = m a j) (fun v => BCKr m m' x0.toInt.toNat v) v.toInt)) 2 0 0 [.ref 123, .int x0] (mk T m n r) := by
  have Kp : fr (wl [(123, 123, some 3), (128, 128, none), (143, 143, none), (144, 144, none), (145, 145, none), (146, 146, none), (147, 147, none), (148, 148, none)]) m m := fr.rf
  have z84 : 0 ≤ (m 123 3).toInt ∧ (m 123 3).toInt ≤ 60 := I 123 3
  have z85 : 0 ≤ (m 123 0).toInt ∧ (m 123 0).toInt ≤ 8 := I 123 0
  refine PM.of 3 (lo := [.ref 123, .int x0, pv_U, pv_U, pv_U]) rfl (by decide) rfl rfl (Nat.le_of_ble_eq_true rfl) ?_
  refine pv_aload_n (M := mX12_back) 0 dX12_back_0 1 rfl rfl rfl ?_
  refine pv_iload_n (M := mX12_back) 1 dX12_back_1 2 rfl rfl rfl ?_
  refine pv_callv (M := mX12_back) (as := [.int x0]) (st := []) (kc2 := 0) (ks2 := 0) dX12_back_2 wd1389 YX12_isBlank ⟨wd1391, wd55⟩ (mk_get (tl123 hT)) rfl rfl (s_X12_isBlank_vx g hT I x0) rfl rfl (Nat.le_of_ble_eq_true rfl) (by decide) rfl rfl 5 rfl (fun rv h1 q1 => ?_)
  obtain ⟨v2, rfl, rfl, pv2, qv2, rv2⟩ := q1
  replace rv2 : (v2 = 0 ∨ (0 ≤ x0.toInt ∧ x0.toInt ≤ 7)) ∧ ((v2.toInt = 1 ∧ 0 ≤ x0.toInt ∧ x0.toInt < (m 123 0).toInt) ∨ (v2.toInt = 0 ∧ (x0.toInt < 0 ∨ (m 123 0).toInt ≤ x0.toInt))) := rv2
  show PV _ _ _ _ _ _ _ 5 [.ref 123, .int x0, pv_U, pv_U, pv_U] [.int v2] _
  have k5 := rv2.2
  refine pv_if_ne (M := mX12_back) (tgt := 10) dX12_back_5 8 rfl (by decide) (fun c4 => ?_) (fun c4 => ?_)
  · have pc4 := rv2.1.resolve_left c4
    have c4 := iv_ne (X := v2.toInt) (Y := 0) c4 rfl (by decide)
    refine pv_aload_n (M := mX12_back) 0 dX12_back_10 11 rfl rfl rfl ?_
    refine iv_get (M := mX12_back) (l1 := 0) (l2 := 60) dX12_back_11 FX12 3 wd1176 (by decide) (tl123 hT) rfl I rfl 14 rfl (fun v5 ev5 pv5 qv5 => ?_)
    have wv5 : v5.toInt = (m 123 3).toInt := congrArg Int32.toInt ev5
    refine pv_iconst (M := mX12_back) (v := 1) dX12_back_14 15 rfl (by decide) ?_
    refine iv_isub (M := mX12_back) (X := v5.toInt) (Y := 1) dX12_back_15 16 rfl rfl (by decide) (by omega) (by omega) (fun v6 ev6 => ?_)
    refine pv_istore_n (M := mX12_back) 2 (lo2 := [.ref 123, .int x0, .int v6, pv_U, pv_U]) dX12_back_16 17 rfl rfl (by decide) rfl rfl ?_
    have lp13 : ∀ (fuel12 : Nat) (y7 : Int32), (-1 ≤ y7.toInt) → (y7.toInt ≤ 59) → (y7.toInt + 1 ≤ (m 123 3).toInt) → (∀ i : Nat, y7.toInt < (i : Int) → (i : Int) < (m 123 3).toInt → (m 143 i).toInt ≠ x0.toInt) → ((y7.toInt + 1) : Int).toNat < fuel12 → PV none g mX12_back (sqI T BB (wl [(123, 123, some 3), (128, 128, none), (143, 143, none), (144, 144, none), (145, 145, none), (146, 146, none), (147, 147, none), (148, 148, none)]) r m (-2147483648) 2147483647 (fun m' v => BCKP ((0 ≤ x0.toInt ∧ x0.toInt < (m 123 0).toInt) ∧ ∃ i : Nat, (i : Int) < (m 123 3).toInt ∧ (m 143 i).toInt = x0.toInt) (∀ a j, isR a j = true → m' a j = m a j) (fun v => BCKr m m' x0.toInt.toNat v) v.toInt)) 2 0 0 17 [.ref 123, .int x0, .int y7, pv_U, pv_U] [] (mk T m n r) := by
      intro fuel12
      induction fuel12 with
      | zero => intro y7 b15 b16 b17 b18 z19; omega
      | succ fuel12 ih14 =>
        intro y7 b15 b16 b17 b18 z19
        have kgL := (show ∀ i : Nat, y7.toInt < (i : Int) → (i : Int) < (m 123 3).toInt → (m 143 i).toInt ≠ x0.toInt by assumption)
        refine pv_iload_n (M := mX12_back) 2 dX12_back_17 18 rfl rfl rfl ?_
        refine pv_if_lt (M := mX12_back) (tgt := 38) dX12_back_18 21 rfl (by decide) (fun c21 => ?_) (fun c21 => ?_)
        · have c21 := iv_lt (X := y7.toInt) (Y := 0) c21 rfl (by decide)
          refine pv_iload_n (M := mX12_back) 2 dX12_back_38 39 rfl rfl rfl ?_
          refine pv_if_ge (M := mX12_back) (tgt := 44) dX12_back_39 42 rfl (by decide) (fun c22 => ?_) (fun c22 => ?_)
          · have c22 := iv_le (X := 0) (Y := y7.toInt) c22 (by decide) rfl
            omega
          · have c22 := iv_nle (X := 0) (Y := y7.toInt) c22 (by decide) rfl
            refine pv_iconst (M := mX12_back) (v := (-1)) dX12_back_42 43 rfl (by decide) ?_
            have z23 : ((-1) : Int32).toInt = (-1) := by decide
            exact pv_iret (M := mX12_back) dX12_back_43 rfl rfl ⟨_, _, _, rfl, rfl, I, Kp, by decide, by decide, (Or.inl ⟨(by rintro ⟨h1, i, h2, h3⟩; exact kgL i (by omega) h2 h3), by decide, fun _ _ _ => rfl⟩)⟩
        · have c21 := iv_nlt (X := y7.toInt) (Y := 0) c21 rfl (by decide)
          refine pv_aload_n (M := mX12_back) 0 dX12_back_21 22 rfl rfl rfl ?_
          refine mv_get (M := mX12_back) (v := .ref 143) dX12_back_22 FX12 34 wd1207 (by decide) (tl123 hT) rfl rfl 25 rfl ?_
          refine pv_iload_n (M := mX12_back) 2 dX12_back_25 26 rfl rfl rfl ?_
          refine iv_iald (M := mX12_back) (X := y7.toInt) (l1 := 0) (l2 := 7) dX12_back_26 (tl143 hT) rfl (by omega) (by omega) I (fun _ => rfl) 27 rfl (fun v24 ev24 pv24 qv24 => ?_)
          have k27i : v24.toInt = (m 143 y7.toInt.toNat).toInt := congrArg Int32.toInt ev24
          refine pv_iload_n (M := mX12_back) 1 dX12_back_27 28 rfl rfl rfl ?_
          refine pv_icmp_eq (M := mX12_back) (tgt := 38) dX12_back_28 31 rfl (by decide) (fun c26 => ?_) (fun c26 => ?_)
          · have c26 := iv_eq (X := v24.toInt) (Y := x0.toInt) c26 rfl rfl
            refine pv_iload_n (M := mX12_back) 2 dX12_back_38 39 rfl rfl rfl ?_
            refine pv_if_ge (M := mX12_back) (tgt := 44) dX12_back_39 42 rfl (by decide) (fun c27 => ?_) (fun c27 => ?_)
            · have c27 := iv_le (X := 0) (Y := y7.toInt) c27 (by decide) rfl
              have k44 : LSO (m 143) (m 123 3).toInt x0.toInt y7.toInt := Or.inl ⟨by omega, by omega, by omega, kgL⟩
              refine pv_aload_n (M := mX12_back) 0 dX12_back_44 45 rfl rfl rfl ?_
              refine mv_get (M := mX12_back) (v := .ref 147) dX12_back_45 FX12 38 wd1211 (by decide) (tl123 hT) rfl rfl 48 rfl ?_
              refine pv_iload_n (M := mX12_back) 2 dX12_back_48 49 rfl rfl rfl ?_
              refine iv_iald (M := mX12_back) (X := y7.toInt) (l1 := 0) (l2 := 9) dX12_back_49 (tl147 hT) rfl (by omega) (by omega) I (fun _ => rfl) 50 rfl (fun v29 ev29 pv29 qv29 => ?_)
              have k50 : v29.toInt = (m 147 y7.toInt.toNat).toInt := congrArg Int32.toInt ev29
              refine pv_istore_n (M := mX12_back) 3 (lo2 := [.ref 123, .int x0, .int y7, .int v29, pv_U]) dX12_back_50 51 rfl rfl (by decide) rfl rfl ?_
              refine pv_iconst (M := mX12_back) (v := 0) dX12_back_51 52 rfl (by decide) ?_
              refine pv_istore (M := mX12_back) (lo2 := [.ref 123, .int x0, .int y7, .int v29, .int 0]) dX12_back_52 54 rfl (by decide) rfl rfl ?_
              have lp37 : ∀ (fuel36 : Nat) (y31 : Int32) (m32 : Nat → Nat → Int32) (n33 : Nat → Nat → Int64), (0 ≤ y31.toInt) → (y31.toInt ≤ 9) → ((m32 123 3).toInt = (m 123 3).toInt) → (0 ≤ y31.toInt) → (y31.toInt ≤ v29.toInt) → (∀ j, m32 128 j = mkd (m 128) (fun k => 40 * x0.toInt.toNat + (m 148 (9 * y7.toInt.toNat + k)).toInt.toNat) 0 y31.toInt.toNat j) → (∀ a j, a ≠ 128 → m32 a j = m a j) → IV BB m32 → fr (wl [(123, 123, some 3), (128, 128, none), (143, 143, none), (144, 144, none), (145, 145, none), (146, 146, none), (147, 147, none), (148, 148, none)]) m m32 → ((9 - y31.toInt) : Int).toNat < fuel36 → PV none g mX12_back (sqI T BB (wl [(123, 123, some 3), (128, 128, none), (143, 143, none), (144, 144, none), (145, 145, none), (146, 146, none), (147, 147, none), (148, 148, none)]) r m (-2147483648) 2147483647 (fun m' v => BCKP ((0 ≤ x0.toInt ∧ x0.toInt < (m 123 0).toInt) ∧ ∃ i : Nat, (i : Int) < (m 123 3).toInt ∧ (m 143 i).toInt = x0.toInt) (∀ a j, isR a j = true → m' a j = m a j) (fun v => BCKr m m' x0.toInt.toNat v) v.toInt)) 2 0 0 54 [.ref 123, .int x0, .int y7, .int v29, .int y31] [] (mk T m32 n33 r) := by
                intro fuel36
                induction fuel36 with
                | zero => intro y31 m32 n33 b39 b40 b41 b42 b43 b44 b45 I34 K35 z46; omega
                | succ fuel36 ih38 =>
                  intro y31 m32 n33 b39 b40 b41 b42 b43 b44 b45 I34 K35 z46
                  have z47 : 0 ≤ (m32 123 3).toInt ∧ (m32 123 3).toInt ≤ 60 := I34 123 3
                  have z48 : 0 ≤ (m32 123 0).toInt ∧ (m32 123 0).toInt ≤ 8 := I34 123 0
                  have kgm := (show ∀ j, m32 128 j = mkd (m 128) (fun k => 40 * x0.toInt.toNat + (m 148 (9 * y7.toInt.toNat + k)).toInt.toNat) 0 y31.toInt.toNat j by assumption)
                  have kgo := (show ∀ a j, a ≠ 128 → m32 a j = m a j by assumption)
                  refine pv_iload (M := mX12_back) dX12_back_54 56 rfl rfl ?_
                  refine pv_iload_n (M := mX12_back) 3 dX12_back_56 57 rfl rfl rfl ?_
                  refine pv_icmp_ge (M := mX12_back) (tgt := 89) dX12_back_57 60 rfl (by decide) (fun c51 => ?_) (fun c51 => ?_)
                  · have c51 := iv_le (X := v29.toInt) (Y := y31.toInt) c51 rfl rfl
                    refine pv_aload_n (M := mX12_back) 0 dX12_back_89 90 rfl rfl rfl ?_
                    refine pv_iload_n (M := mX12_back) 2 dX12_back_90 91 rfl rfl rfl ?_
                    have k91 : y31.toInt.toNat = v29.toInt.toNat := by omega
                    rw [k91] at kgm
                    refine pv_callv (M := mX12_back) (as := [.int y7]) (st := []) (kc2 := 0) (ks2 := 0) dX12_back_91 wd1542 YX12_leaves ⟨wd1544, wd85⟩ (mk_get (tl123 hT)) rfl rfl (s_X12_leaves_va g hT I34 y7 (by omega) (by omega) (by first | omega | assumption | exact (iv_rng _).2 | exact (iv_rng _).1 | decide)) rfl rfl (Nat.le_of_ble_eq_true rfl) (by decide) rfl rfl 94 rfl (fun rv h1 q54 => ?_)
                    obtain ⟨m55, n56, rfl, rfl, I57, K58, rm55⟩ := q54
                    replace rm55 : RMVr m32 m55 y7.toInt.toNat := rm55
                    have K58c := K58
                    have w59 : (m55 123 0).toInt = (m32 123 0).toInt := congrArg Int32.toInt (K58 123 0 rfl)
                    have K58 := K35.trans (K58.sub (wl_sub (by decide)))
                    show PV _ _ _ _ _ _ _ 94 [.ref 123, .int x0, .int y7, .int v29, .int y31] [] _
                    have k94 : RMVr m m55 y7.toInt.toNat := by obtain ⟨z1, z2, z3⟩ := rm55; rw [kgo 123 3 (by omega)] at z1 z2 z3; rw [show m32 148 = m 148 from funext fun i => kgo 148 i (by omega)] at z3; exact ⟨z1, fun a j h1 h2 => by rw [z2 a j h1 h2, show m32 a = m a from funext fun i => kgo a i (by omega)], z3⟩
                    have k94m : ∀ j, m55 128 j = m32 128 j := fun j => K58c 128 j rfl
                    refine pv_iload_n (M := mX12_back) 3 dX12_back_94 95 rfl rfl rfl ?_
                    exact pv_iret (M := mX12_back) dX12_back_95 rfl rfl ⟨_, _, _, rfl, rfl, I57, K58, (iv_rng v29).1, (iv_rng v29).2, (Or.inr ⟨⟨by omega, LSO_has k44 (by omega)⟩, y7.toInt.toNat, (by rw [show ((y7.toInt.toNat : Nat) : Int) = y7.toInt by omega]; rw [show ((x0.toInt.toNat : Nat) : Int) = x0.toInt by omega]; exact k44), k50, (fun j => by rw [k94m]; exact kgm j), k94⟩)⟩
                  · have c51 := iv_nle (X := v29.toInt) (Y := y31.toInt) c51 rfl rfl
                    refine pv_aload_n (M := mX12_back) 0 dX12_back_60 61 rfl rfl rfl ?_
                    refine mv_get (M := mX12_back) (v := .ref 128) dX12_back_61 FX12 9 wd1182 (by decide) (tl123 hT) rfl rfl 64 rfl ?_
                    refine pv_bipush (M := mX12_back) (v := 40) dX12_back_64 66 rfl (by decide) ?_
                    refine pv_iload_n (M := mX12_back) 1 dX12_back_66 67 rfl rfl rfl ?_
                    refine iv_imul (M := mX12_back) (X := 40) (Y := x0.toInt) dX12_back_67 68 rfl (by decide) rfl (by omega) (by omega) (fun v62 ev62 => ?_)
                    refine pv_aload_n (M := mX12_back) 0 dX12_back_68 69 rfl rfl rfl ?_
                    refine mv_get (M := mX12_back) (v := .ref 148) dX12_back_69 FX12 39 wd1212 (by decide) (tl123 hT) rfl rfl 72 rfl ?_
                    refine pv_bipush (M := mX12_back) (v := 9) dX12_back_72 74 rfl (by decide) ?_
                    refine pv_iload_n (M := mX12_back) 2 dX12_back_74 75 rfl rfl rfl ?_
                    refine iv_imul (M := mX12_back) (X := 9) (Y := y7.toInt) dX12_back_75 76 rfl (by decide) rfl (by omega) (by omega) (fun v63 ev63 => ?_)
                    refine pv_iload (M := mX12_back) dX12_back_76 78 rfl rfl ?_
                    refine iv_iadd (M := mX12_back) (X := v63.toInt) (Y := y31.toInt) dX12_back_78 79 rfl rfl rfl (by omega) (by omega) (fun v64 ev64 => ?_)
                    refine iv_iald (M := mX12_back) (X := v64.toInt) (l1 := 0) (l2 := 39) dX12_back_79 (tl148 hT) rfl (by omega) (by omega) I34 (fun _ => rfl) 80 rfl (fun v65 ev65 pv65 qv65 => ?_)
                    have k80 : v65 = m 148 (9 * y7.toInt.toNat + y31.toInt.toNat) := ev65.trans ((kgo 148 _ (by omega)).trans (congrArg (fun z => m 148 z) (by omega)))
                    have k80i := congrArg Int32.toInt k80
                    refine iv_iadd (M := mX12_back) (X := v62.toInt) (Y := v65.toInt) dX12_back_80 81 rfl rfl rfl (by omega) (by omega) (fun v68 ev68 => ?_)
                    refine pv_iconst (M := mX12_back) (v := 0) dX12_back_81 82 rfl (by decide) ?_
                    refine iv_zast (M := mX12_back) (X := v68.toInt) (l1 := 0) (l2 := 1) dX12_back_82 (tl128 hT) rfl (by omega) (by omega) I34 (fun _ => rfl) (y := 0) (by decide) (by decide) (by decide) 83 rfl (fun m69 e72 I70 => ?_)
                    have K71 := K35.set e72 rfl
                    have w73 : (m69 123 3).toInt = (m32 123 3).toInt := by rw [e72, up2_ne (by omega)]
                    have w74 : (m69 123 0).toInt = (m32 123 0).toInt := by rw [e72, up2_ne (by omega)]
                    have k83 := (e72).trans (up2_ix (j := 40 * x0.toInt.toNat + (m 148 (9 * y7.toInt.toNat + y31.toInt.toNat)).toInt.toNat) (by omega))
                    refine iv_inc (M := mX12_back) (C := 1) dX12_back_83 86 rfl rfl (by decide) rfl rfl (by decide) (by omega) (by omega) (fun v76 ev76 => ?_)
                    show PV _ _ _ _ _ _ _ 86 [.ref 123, .int x0, .int y7, .int v29, .int v76] [] _
                    refine pv_goto (M := mX12_back) (tgt := 54) dX12_back_86 (by decide) ?_
                    have kn : v76.toInt.toNat = (y31.toInt).toNat + 1 := by omega
                    have kbm : ∀ j, m69 128 j = mkd (m 128) (fun k => 40 * x0.toInt.toNat + (m 148 (9 * y7.toInt.toNat + k)).toInt.toNat) 0 v76.toInt.toNat j := fun j => by rw [kn, mkd_s, k83, up2_rw, kgm j]
                    have kbo : ∀ a j, a ≠ 128 → m69 a j = m a j := fun a j q => by rw [k83, up2_ne (by omega)]; exact kgo a j q
                    exact ih38 v76 m69 n33 (by first | omega | assumption | exact (iv_rng _).2 | exact (iv_rng _).1 | decide) (by first | omega | assumption | exact (iv_rng _).2 | exact (iv_rng _).1 | decide) (by first | omega | assumption | (show (m69 123 3).toInt = (m 123 3).toInt; omega) | decide) (by first | omega | assumption | (show 0 ≤ v76.toInt; omega) | decide) (by first | omega | assumption | (show v76.toInt ≤ v29.toInt; omega) | decide) kbm kbo I70 K71 (by omega)
              have z80 : (0 : Int32).toInt = 0 := by decide
              exact lp37 (((9 - 0) : Int).toNat + 1) 0 m n (by first | omega | assumption | exact (iv_rng _).2 | exact (iv_rng _).1 | decide) (by first | omega | assumption | exact (iv_rng _).2 | exact (iv_rng _).1 | decide) (by first | omega | assumption | (show (m 123 3).toInt = (m 123 3).toInt; omega) | decide) (by first | omega | assumption | (show 0 ≤ 0; omega) | decide) (by first | omega | assumption | (show 0 ≤ v29.toInt; omega) | decide) (fun w => by rw [Int32.toInt_zero]; rfl) (fun _ _ _ => rfl) I Kp (by omega)
            · have c27 := iv_nle (X := 0) (Y := y7.toInt) c27 (by decide) rfl
              omega
          · have c26 := iv_ne (X := v24.toInt) (Y := x0.toInt) c26 rfl rfl
            refine pv_iload_n (M := mX12_back) 2 dX12_back_31 32 rfl rfl rfl ?_
            refine pv_iconst (M := mX12_back) (v := 1) dX12_back_32 33 rfl (by decide) ?_
            refine iv_isub (M := mX12_back) (X := y7.toInt) (Y := 1) dX12_back_33 34 rfl rfl (by decide) (by omega) (by omega) (fun v81 ev81 => ?_)
            refine pv_istore_n (M := mX12_back) 2 (lo2 := [.ref 123, .int x0, .int v81, pv_U, pv_U]) dX12_back_34 35 rfl rfl (by decide) rfl rfl ?_
            refine pv_goto (M := mX12_back) (tgt := 17) dX12_back_35 (by decide) ?_
            have kbL : ∀ i : Nat, v81.toInt < (i : Int) → (i : Int) < (m 123 3).toInt → (m 143 i).toInt ≠ x0.toInt := fun i h1 h2 => if z : (i : Int) = y7.toInt then (by rw [show i = (y7.toInt).toNat by omega]; omega) else kgL i (by omega) h2
            exact ih14 v81 (by first | omega | assumption | exact (iv_rng _).2 | exact (iv_rng _).1 | decide) (by first | omega | assumption | exact (iv_rng _).2 | exact (iv_rng _).1 | decide) (by first | omega | assumption | (show v81.toInt + 1 ≤ (m 123 3).toInt; omega) | decide) kbL (by omega)
    exact lp13 (((v6.toInt + 1) : Int).toNat + 1) v6 (by first | omega | assumption | exact (iv_rng _).2 | exact (iv_rng _).1 | decide) (by first | omega | assumption | exact (iv_rng _).2 | exact (iv_rng _).1 | decide) (by first | omega | assumption | (show v6.toInt + 1 ≤ (m 123 3).toInt; omega) | decide) (fun i h1 h2 => by omega) (by omega)
  · have c4 := iv_eq (X := v2.toInt) (Y := 0) c4 rfl (by decide)
    refine pv_iconst (M := mX12_back) (v := (-1)) dX12_back_8 9 rfl (by decide) ?_
    have z83 : ((-1) : Int32).toInt = (-1) := by decide
    exact pv_iret (M := mX12_back) dX12_back_9 rfl rfl ⟨_, _, _, rfl, rfl, I, Kp, by decide, by decide, (Or.inl ⟨(by rintro ⟨h1, h2⟩; omega), by decide, fun _ _ _ => rfl⟩)⟩
