set_option maxHeartbeats 2000000 in
set_option maxRecDepth 20000 in
theorem s_X12_isClerk_va (g : pv_G) {T : List mv_T} {m : Nat → Nat → Int32} {n : Nat → Nat → Int64} {r : Nat → Value} (hT : TX T) (I : IV BB m) (x0 : Int32) : PM g mX12_isClerk yX12_isClerk (sqP (mk T m n r) 0 1 (fun v => (v = 0 ∨ (0 ≤ x0.toInt ∧ x0.toInt ≤ 7)) ∧ ((v.toInt = 1 ∧ 0 ≤ x0.toInt ∧ x0.toInt ≤ 7) ∨ (v.toInt = 0 ∧ (x0.toInt < 0 ∨ 7 < x0.toInt))))) 1 0 0 [.int x0] (mk T m n r) := by
  have Kp : fr (wl []) m m := fr.rf
  refine PM.of 0 (lo := [.int x0]) rfl (by decide) rfl rfl (Nat.le_of_ble_eq_true rfl) ?_
  refine pv_iload_n (M := mX12_isClerk) 0 dX12_isClerk_0 1 rfl rfl rfl ?_
  refine pv_if_lt (M := mX12_isClerk) (tgt := 14) dX12_isClerk_1 4 rfl (by decide) (fun c1 => ?_) (fun c1 => ?_)
  · have c1 := iv_lt (X := x0.toInt) (Y := 0) c1 rfl (by decide)
    refine pv_iconst (M := mX12_isClerk) (v := 0) dX12_isClerk_14 15 rfl (by decide) ?_
    have z2 : (0 : Int32).toInt = 0 := by decide
    exact pv_iret (M := mX12_isClerk) dX12_isClerk_15 rfl rfl ⟨_, rfl, rfl, by decide, by decide, ⟨Or.inl rfl, Or.inr ⟨by decide, by omega⟩⟩⟩
  · have c1 := iv_nlt (X := x0.toInt) (Y := 0) c1 rfl (by decide)
    refine pv_iload_n (M := mX12_isClerk) 0 dX12_isClerk_4 5 rfl rfl rfl ?_
    refine pv_bipush (M := mX12_isClerk) (v := 8) dX12_isClerk_5 7 rfl (by decide) ?_
    refine pv_icmp_ge (M := mX12_isClerk) (tgt := 14) dX12_isClerk_7 10 rfl (by decide) (fun c3 => ?_) (fun c3 => ?_)
    · have c3 := iv_le (X := 8) (Y := x0.toInt) c3 (by decide) rfl
      refine pv_iconst (M := mX12_isClerk) (v := 0) dX12_isClerk_14 15 rfl (by decide) ?_
      have z4 : (0 : Int32).toInt = 0 := by decide
      exact pv_iret (M := mX12_isClerk) dX12_isClerk_15 rfl rfl ⟨_, rfl, rfl, by decide, by decide, ⟨Or.inl rfl, Or.inr ⟨by decide, by omega⟩⟩⟩
    · have c3 := iv_nle (X := 8) (Y := x0.toInt) c3 (by decide) rfl
      refine pv_iconst (M := mX12_isClerk) (v := 1) dX12_isClerk_10 11 rfl (by decide) ?_
      refine pv_goto (M := mX12_isClerk) (tgt := 15) dX12_isClerk_11 (by decide) ?_
      have z5 : (1 : Int32).toInt = 1 := by decide
      exact pv_iret (M := mX12_isClerk) dX12_isClerk_15 rfl rfl ⟨_, rfl, rfl, by decide, by decide, ⟨Or.inr (by omega), Or.inl ⟨by decide, by omega, by omega⟩⟩⟩

set_option maxHeartbeats 2000000 in
set_option maxRecDepth 20000 in
theorem s_X12_writes_va (g : pv_G) {T : List mv_T} {m : Nat → Nat → Int32} {n : Nat → Nat → Int64} {r : Nat → Value} (hT : TX T) (I : IV BB m) (x0 : Int32) (hl0 : 0 ≤ x0.toInt) (hh0 : x0.toInt ≤ 7) (x1 : Int32) (hl1 : 0 ≤ x1.toInt) (hh1 : x1.toInt ≤ 7) (x2 : Int32) (x3 : Int32) (hl3 : 0 ≤ x3.toInt) (hh3 : x3.toInt ≤ 9) (hp0 : (m 123 3).toInt ≤ 59) : PM g mX12_writes yX12_writes (sqV T BB (wl [(123, 123, some 3), (143, 143, none), (144, 144, none), (145, 145, none), (146, 146, none), (147, 147, none)]) r m (fun m' => WRI m m' x0 x1 x2 x3)) 1 0 0 [.ref 123, .int x0, .int x1, .int x2, .int x3] (mk T m n r) := by
  have Kp : fr (wl [(123, 123, some 3), (143, 143, none), (144, 144, none), (145, 145, none), (146, 146, none), (147, 147, none)]) m m := fr.rf
  have z40 : 0 ≤ (m 123 3).toInt ∧ (m 123 3).toInt ≤ 60 := I 123 3
  refine PM.of 0 (lo := [.ref 123, .int x0, .int x1, .int x2, .int x3]) rfl (by decide) rfl rfl (Nat.le_of_ble_eq_true rfl) ?_
  refine pv_aload_n (M := mX12_writes) 0 dX12_writes_0 1 rfl rfl rfl ?_
  refine mv_get (M := mX12_writes) (v := .ref 143) dX12_writes_1 FX12 34 wd1207 (by decide) (tl123 hT) rfl rfl 4 rfl ?_
  refine pv_aload_n (M := mX12_writes) 0 dX12_writes_4 5 rfl rfl rfl ?_
  refine iv_get (M := mX12_writes) (l1 := 0) (l2 := 60) dX12_writes_5 FX12 3 wd1176 (by decide) (tl123 hT) rfl I rfl 8 rfl (fun v1 ev1 pv1 qv1 => ?_)
  have wv1 : v1.toInt = (m 123 3).toInt := congrArg Int32.toInt ev1
  refine pv_iload_n (M := mX12_writes) 1 dX12_writes_8 9 rfl rfl rfl ?_
  refine iv_iast (M := mX12_writes) (X := v1.toInt) (l1 := 0) (l2 := 7) dX12_writes_9 (tl143 hT) rfl (by omega) (by omega) I (fun _ => rfl) (by omega) (by omega) 10 rfl (fun m2 e5 I3 => ?_)
  have K4 := Kp.set e5 rfl
  have w6 : (m2 123 3).toInt = (m 123 3).toInt := by rw [e5, up2_ne (by omega)]
  refine pv_aload_n (M := mX12_writes) 0 dX12_writes_10 11 rfl rfl rfl ?_
  refine mv_get (M := mX12_writes) (v := .ref 144) dX12_writes_11 FX12 35 wd1208 (by decide) (tl123 hT) rfl rfl 14 rfl ?_
  refine pv_aload_n (M := mX12_writes) 0 dX12_writes_14 15 rfl rfl rfl ?_
  refine iv_get (M := mX12_writes) (l1 := 0) (l2 := 60) dX12_writes_15 FX12 3 wd1176 (by decide) (tl123 hT) rfl I3 rfl 18 rfl (fun v7 ev7 pv7 qv7 => ?_)
  have wv7 : v7.toInt = (m2 123 3).toInt := congrArg Int32.toInt ev7
  refine pv_iload_n (M := mX12_writes) 2 dX12_writes_18 19 rfl rfl rfl ?_
  refine iv_iast (M := mX12_writes) (X := v7.toInt) (l1 := (-2147483648)) (l2 := 2147483647) dX12_writes_19 (tl144 hT) rfl (by omega) (by omega) I3 (fun _ => rfl) (iv_rng x1).1 (iv_rng x1).2 20 rfl (fun m8 e11 I9 => ?_)
  have K10 := K4.set e11 rfl
  have w12 : (m8 123 3).toInt = (m2 123 3).toInt := by rw [e11, up2_ne (by omega)]
  refine pv_aload_n (M := mX12_writes) 0 dX12_writes_20 21 rfl rfl rfl ?_
  refine mv_get (M := mX12_writes) (v := .ref 145) dX12_writes_21 FX12 36 wd1209 (by decide) (tl123 hT) rfl rfl 24 rfl ?_
  refine pv_aload_n (M := mX12_writes) 0 dX12_writes_24 25 rfl rfl rfl ?_
  refine iv_get (M := mX12_writes) (l1 := 0) (l2 := 60) dX12_writes_25 FX12 3 wd1176 (by decide) (tl123 hT) rfl I9 rfl 28 rfl (fun v13 ev13 pv13 qv13 => ?_)
  have wv13 : v13.toInt = (m8 123 3).toInt := congrArg Int32.toInt ev13
  refine pv_aload_n (M := mX12_writes) 0 dX12_writes_28 29 rfl rfl rfl ?_
  refine iv_get (M := mX12_writes) (l1 := 0) (l2 := 999) dX12_writes_29 FX12 1 wd1174 (by decide) (tl123 hT) rfl I9 rfl 32 rfl (fun v14 ev14 pv14 qv14 => ?_)
  have k32 : v14 = m 123 1 := ev14.trans (by rw [e11, up2_ne (by omega), e5, up2_ne (by omega)])
  refine iv_iast (M := mX12_writes) (X := v13.toInt) (l1 := (-2147483648)) (l2 := 2147483647) dX12_writes_32 (tl145 hT) rfl (by omega) (by omega) I9 (fun _ => rfl) (iv_rng v14).1 (iv_rng v14).2 33 rfl (fun m16 e19 I17 => ?_)
  have K18 := K10.set e19 rfl
  have w20 : (m16 123 3).toInt = (m8 123 3).toInt := by rw [e19, up2_ne (by omega)]
  refine pv_aload_n (M := mX12_writes) 0 dX12_writes_33 34 rfl rfl rfl ?_
  refine mv_get (M := mX12_writes) (v := .ref 146) dX12_writes_34 FX12 37 wd1210 (by decide) (tl123 hT) rfl rfl 37 rfl ?_
  refine pv_aload_n (M := mX12_writes) 0 dX12_writes_37 38 rfl rfl rfl ?_
  refine iv_get (M := mX12_writes) (l1 := 0) (l2 := 60) dX12_writes_38 FX12 3 wd1176 (by decide) (tl123 hT) rfl I17 rfl 41 rfl (fun v21 ev21 pv21 qv21 => ?_)
  have wv21 : v21.toInt = (m16 123 3).toInt := congrArg Int32.toInt ev21
  refine pv_iload_n (M := mX12_writes) 3 dX12_writes_41 42 rfl rfl rfl ?_
  refine iv_iast (M := mX12_writes) (X := v21.toInt) (l1 := (-2147483648)) (l2 := 2147483647) dX12_writes_42 (tl146 hT) rfl (by omega) (by omega) I17 (fun _ => rfl) (iv_rng x2).1 (iv_rng x2).2 43 rfl (fun m22 e25 I23 => ?_)
  have K24 := K18.set e25 rfl
  have w26 : (m22 123 3).toInt = (m16 123 3).toInt := by rw [e25, up2_ne (by omega)]
  refine pv_aload_n (M := mX12_writes) 0 dX12_writes_43 44 rfl rfl rfl ?_
  refine mv_get (M := mX12_writes) (v := .ref 147) dX12_writes_44 FX12 38 wd1211 (by decide) (tl123 hT) rfl rfl 47 rfl ?_
  refine pv_aload_n (M := mX12_writes) 0 dX12_writes_47 48 rfl rfl rfl ?_
  refine iv_get (M := mX12_writes) (l1 := 0) (l2 := 60) dX12_writes_48 FX12 3 wd1176 (by decide) (tl123 hT) rfl I23 rfl 51 rfl (fun v27 ev27 pv27 qv27 => ?_)
  have wv27 : v27.toInt = (m22 123 3).toInt := congrArg Int32.toInt ev27
  refine pv_iload (M := mX12_writes) dX12_writes_51 53 rfl rfl ?_
  refine iv_iast (M := mX12_writes) (X := v27.toInt) (l1 := 0) (l2 := 9) dX12_writes_53 (tl147 hT) rfl (by omega) (by omega) I23 (fun _ => rfl) (by omega) (by omega) 54 rfl (fun m28 e31 I29 => ?_)
  have K30 := K24.set e31 rfl
  have w32 : (m28 123 3).toInt = (m22 123 3).toInt := by rw [e31, up2_ne (by omega)]
  refine pv_aload_n (M := mX12_writes) 0 dX12_writes_54 55 rfl rfl rfl ?_
  refine pv_aload_n (M := mX12_writes) 0 dX12_writes_55 56 rfl rfl rfl ?_
  refine iv_get (M := mX12_writes) (l1 := 0) (l2 := 60) dX12_writes_56 FX12 3 wd1176 (by decide) (tl123 hT) rfl I29 rfl 59 rfl (fun v33 ev33 pv33 qv33 => ?_)
  have wv33 : v33.toInt = (m28 123 3).toInt := congrArg Int32.toInt ev33
  refine pv_iconst (M := mX12_writes) (v := 1) dX12_writes_59 60 rfl (by decide) ?_
  refine iv_iadd (M := mX12_writes) (X := v33.toInt) (Y := 1) dX12_writes_60 61 rfl rfl (by decide) (by omega) (by omega) (fun v34 ev34 => ?_)
  refine iv_put (M := mX12_writes) (l1 := 0) (l2 := 60) dX12_writes_61 FX12 3 wd1176 (by decide) rfl (tl123 hT) rfl rfl rfl I29 rfl (by omega) (by omega) 64 rfl (fun m35 e38 I36 => ?_)
  have K37 := K30.set e38 rfl
  have w39 : (m35 123 3).toInt = v34.toInt := by rw [e38, up2_eq]
  exact pv_vret (M := mX12_writes) dX12_writes_64 rfl ⟨_, _, rfl, rfl, I36, K37, ⟨by omega, by rw [e38, up2_ne (by omega), e31, up2_ne (by omega), e25, up2_ne (by omega), e19, up2_ne (by omega), e11, up2_ne (by omega), e5, up2_at (by omega)], by rw [e38, up2_ne (by omega), e31, up2_ne (by omega), e25, up2_ne (by omega), e19, up2_ne (by omega), e11, up2_at (by omega)], by rw [e38, up2_ne (by omega), e31, up2_ne (by omega), e25, up2_ne (by omega), e19, up2_at (by omega)]; exact k32, by rw [e38, up2_ne (by omega), e31, up2_ne (by omega), e25, up2_at (by omega)], by rw [e38, up2_ne (by omega), e31, up2_at (by omega)], fun a j q1 q2 q3 => by rw [e38, up2_ne (by omega), e31, up2_ne (by omega), e25, up2_ne (by omega), e19, up2_ne (by omega), e11, up2_ne (by omega), e5, up2_ne (by omega)]⟩⟩

set_option maxHeartbeats 2000000 in
set_option maxRecDepth 20000 in
theorem s_X12_makes_va (g : pv_G) {T : List mv_T} {m : Nat → Nat → Int32} {n : Nat → Nat → Int64} {r : Nat → Value} (hT : TX T) (I : IV BB m) (x0 : Int32) (hl0 : 0 ≤ x0.toInt) (hh0 : x0.toInt ≤ 7) (x1 : Int32) (hl1 : 0 ≤ x1.toInt) (hh1 : x1.toInt ≤ 39) (x2 : Int32) (hl2 : 0 ≤ x2.toInt) (hh2 : x2.toInt ≤ 9) (x3 : Int32) (hl3 : 0 ≤ x3.toInt) (hh3 : x3.toInt ≤ 7) (x4 : Int32) (hp0 : x1.toInt + x2.toInt ≤ nu m x0.toInt 0) (hp1 : (m 123 3).toInt ≤ 59) : PM g mX12_makes yX12_makes (sqV T BB (wl [(123, 123, some 3), (128, 128, none), (143, 143, none), (144, 144, none), (145, 145, none), (146, 146, none), (147, 147, none), (148, 148, none)]) r m (fun m' => (nu m' x0.toInt 0 = nu m x0.toInt 0 - x2.toInt ∧ (m' 123 3).toInt = (m 123 3).toInt + 1) ∧ STKr m m' x0.toInt.toNat x1.toInt.toNat x2.toInt.toNat x3 x4)) 2 0 0 [.ref 123, .int x0, .int x1, .int x2, .int x3, .int x4] (mk T m n r) := by
  have Kp : fr (wl [(123, 123, some 3), (128, 128, none), (143, 143, none), (144, 144, none), (145, 145, none), (146, 146, none), (147, 147, none), (148, 148, none)]) m m := fr.rf
  have z61 : 0 ≤ (m 123 3).toInt ∧ (m 123 3).toInt ≤ 60 := I 123 3
  refine PM.of 2 (lo := [.ref 123, .int x0, .int x1, .int x2, .int x3, .int x4, pv_U, pv_U]) rfl (by decide) rfl rfl (Nat.le_of_ble_eq_true rfl) ?_
  refine pv_iconst (M := mX12_makes) (v := 0) dX12_makes_0 1 rfl (by decide) ?_
  refine pv_istore (M := mX12_makes) (lo2 := [.ref 123, .int x0, .int x1, .int x2, .int x3, .int x4, .int 0, pv_U]) dX12_makes_1 3 rfl (by decide) rfl rfl ?_
  have lp7 : ∀ (fuel6 : Nat) (y1 : Int32) (m2 : Nat → Nat → Int32) (n3 : Nat → Nat → Int64), (0 ≤ y1.toInt) → (y1.toInt ≤ 9) → (nu m2 x0.toInt 0 = nu m x0.toInt 0 - y1.toInt) → (y1.toInt ≤ x2.toInt) → ((m2 123 3).toInt = (m 123 3).toInt) → (MKI m m2 x0.toInt.toNat x1.toInt.toNat y1.toInt.toNat) → ((∀ a j, 143 ≤ a → a ≤ 147 → m2 a j = m a j) ∧ m2 123 3 = m 123 3) → IV BB m2 → fr (wl [(123, 123, some 3), (128, 128, none), (143, 143, none), (144, 144, none), (145, 145, none), (146, 146, none), (147, 147, none), (148, 148, none)]) m m2 → ((9 - y1.toInt) : Int).toNat < fuel6 → PV none g mX12_makes (sqV T BB (wl [(123, 123, some 3), (128, 128, none), (143, 143, none), (144, 144, none), (145, 145, none), (146, 146, none), (147, 147, none), (148, 148, none)]) r m (fun m' => (nu m' x0.toInt 0 = nu m x0.toInt 0 - x2.toInt ∧ (m' 123 3).toInt = (m 123 3).toInt + 1) ∧ STKr m m' x0.toInt.toNat x1.toInt.toNat x2.toInt.toNat x3 x4)) 2 0 0 3 [.ref 123, .int x0, .int x1, .int x2, .int x3, .int x4, .int y1, pv_U] [] (mk T m2 n3 r) := by
    intro fuel6
    induction fuel6 with
    | zero => intro y1 m2 n3 b9 b10 b11 b12 b13 b14 b15 I4 K5 z16; omega
    | succ fuel6 ih8 =>
      intro y1 m2 n3 b9 b10 b11 b12 b13 b14 b15 I4 K5 z16
      have z17 : 0 ≤ (m2 123 3).toInt ∧ (m2 123 3).toInt ≤ 60 := I4 123 3
      have kgk := (show MKI m m2 x0.toInt.toNat x1.toInt.toNat y1.toInt.toNat by assumption)
      have kgf := (show (∀ a j, 143 ≤ a → a ≤ 147 → m2 a j = m a j) ∧ m2 123 3 = m 123 3 by assumption)
      refine pv_iload (M := mX12_makes) dX12_makes_3 5 rfl rfl ?_
      refine pv_iload_n (M := mX12_makes) 3 dX12_makes_5 6 rfl rfl rfl ?_
      refine pv_icmp_ge (M := mX12_makes) (tgt := 53) dX12_makes_6 9 rfl (by decide) (fun c20 => ?_) (fun c20 => ?_)
      · have c20 := iv_le (X := x2.toInt) (Y := y1.toInt) c20 rfl rfl
        have k53n : y1.toInt.toNat = x2.toInt.toNat := by omega
        rw [k53n] at kgk
        have k53o : m2 123 1 = m 123 1 := K5 123 1 rfl
        refine pv_aload_n (M := mX12_makes) 0 dX12_makes_53 54 rfl rfl rfl ?_
        refine pv_iload_n (M := mX12_makes) 1 dX12_makes_54 55 rfl rfl rfl ?_
        refine pv_iload (M := mX12_makes) dX12_makes_55 57 rfl rfl ?_
        refine pv_iload (M := mX12_makes) dX12_makes_57 59 rfl rfl ?_
        refine pv_iload_n (M := mX12_makes) 3 dX12_makes_59 60 rfl rfl rfl ?_
        refine pv_callv (M := mX12_makes) (as := [.int x0, .int x3, .int x4, .int x2]) (st := []) (kc2 := 0) (ks2 := 0) dX12_makes_60 wd1534 YX12_writes ⟨wd1536, wd84⟩ (mk_get (tl123 hT)) rfl rfl (s_X12_writes_va g hT I4 x0 (by omega) (by omega) x3 (by omega) (by omega) x4 x2 (by omega) (by omega) (by first | omega | assumption | exact (iv_rng _).2 | exact (iv_rng _).1 | decide)) rfl rfl (Nat.le_of_ble_eq_true rfl) (by decide) rfl rfl 63 rfl (fun rv h1 q24 => ?_)
        obtain ⟨m25, n26, rfl, rfl, I27, K28, rm25⟩ := q24
        replace rm25 : WRI m2 m25 x0 x3 x4 x2 := rm25
        have K28c := K28
        have u29 : nu m25 x0.toInt 0 = nu m2 x0.toInt 0 := nu_eq (fun j => K28c 124 j rfl) (fun j => K28c 128 j rfl) _ _
        have K28 := K5.trans (K28.sub (wl_sub (by decide)))
        show PV _ _ _ _ _ _ _ 63 [.ref 123, .int x0, .int x1, .int x2, .int x3, .int x4, .int y1, pv_U] [] _
        have rW := rm25
        have k63 : STKr m m25 x0.toInt.toNat x1.toInt.toNat x2.toInt.toNat x3 x4 := STKr_of kgk kgf.2 k53o kgf.1 rm25 (fun a j q => by rcases q with q | q <;> subst q <;> exact K28c _ j rfl) (by omega) (by omega)
        exact pv_vret (M := mX12_makes) dX12_makes_63 rfl ⟨_, _, rfl, rfl, I27, K28, ⟨(by have q := rW.1; constructor <;> omega), k63⟩⟩
      · have c20 := iv_nle (X := x2.toInt) (Y := y1.toInt) c20 rfl rfl
        refine pv_aload_n (M := mX12_makes) 0 dX12_makes_9 10 rfl rfl rfl ?_
        refine pv_iload_n (M := mX12_makes) 1 dX12_makes_10 11 rfl rfl rfl ?_
        refine pv_iload_n (M := mX12_makes) 2 dX12_makes_11 12 rfl rfl rfl ?_
        have k15f : m2 124 x0.toInt.toNat = m 124 x0.toInt.toNat := K5 124 _ rfl
        refine pv_callv (M := mX12_makes) (as := [.int x0, .int x1]) (st := []) (kc2 := 0) (ks2 := 0) dX12_makes_12 wd1397 YX12_numberAt ⟨wd1399, wd57⟩ (mk_get (tl123 hT)) rfl rfl (s_X12_numberAt_vz g hT I4 x0 (by omega) (by omega) x1 (by omega) (by omega) (by first | omega | assumption | exact (iv_rng _).2 | exact (iv_rng _).1 | decide)) rfl rfl (Nat.le_of_ble_eq_true rfl) (by decide) rfl rfl 15 rfl (fun rv h1 q33 => ?_)
        obtain ⟨v34, rfl, rfl, pv34, qv34, rv34⟩ := q33
        replace rv34 : (v34.toInt < (m2 124 x0.toInt.toNat).toInt ∧ (m2 128 (40 * x0.toInt + v34.toInt).toNat).toInt = 0) ∧ IsN (m2 128) (40 * x0.toInt.toNat) (m2 124 x0.toInt.toNat).toInt.toNat x1.toInt.toNat v34.toInt.toNat := rv34
        show PV _ _ _ _ _ _ _ 15 [.ref 123, .int x0, .int x1, .int x2, .int x3, .int x4, .int y1, pv_U] [.int v34] _
        have k15 := rv34.2
        refine pv_istore (M := mX12_makes) (lo2 := [.ref 123, .int x0, .int x1, .int x2, .int x3, .int x4, .int y1, .int v34]) dX12_makes_15 17 rfl (by decide) rfl rfl ?_
        refine pv_aload_n (M := mX12_makes) 0 dX12_makes_17 18 rfl rfl rfl ?_
        refine mv_get (M := mX12_makes) (v := .ref 148) dX12_makes_18 FX12 39 wd1212 (by decide) (tl123 hT) rfl rfl 21 rfl ?_
        refine pv_bipush (M := mX12_makes) (v := 9) dX12_makes_21 23 rfl (by decide) ?_
        refine pv_aload_n (M := mX12_makes) 0 dX12_makes_23 24 rfl rfl rfl ?_
        refine iv_get (M := mX12_makes) (l1 := 0) (l2 := 60) dX12_makes_24 FX12 3 wd1176 (by decide) (tl123 hT) rfl I4 rfl 27 rfl (fun v36 ev36 pv36 qv36 => ?_)
        have wv36 : v36.toInt = (m2 123 3).toInt := congrArg Int32.toInt ev36
        refine iv_imul (M := mX12_makes) (X := 9) (Y := v36.toInt) dX12_makes_27 28 rfl (by decide) rfl (by omega) (by omega) (fun v37 ev37 => ?_)
        refine pv_iload (M := mX12_makes) dX12_makes_28 30 rfl rfl ?_
        refine iv_iadd (M := mX12_makes) (X := v37.toInt) (Y := y1.toInt) dX12_makes_30 31 rfl rfl rfl (by omega) (by omega) (fun v38 ev38 => ?_)
        refine pv_iload (M := mX12_makes) dX12_makes_31 33 rfl rfl ?_
        refine iv_iast (M := mX12_makes) (X := v38.toInt) (l1 := 0) (l2 := 39) dX12_makes_33 (tl148 hT) rfl (by omega) (by omega) I4 (fun _ => rfl) (by omega) (by omega) 34 rfl (fun m39 e42 I40 => ?_)
        have K41 := K5.set e42 rfl
        have u43 : nu m39 x0.toInt 0 = nu m2 x0.toInt 0 := nu_eq (st_off e42 (by decide)) (st_off e42 (by decide)) _ _
        have w44 : (m39 123 3).toInt = (m2 123 3).toInt := by rw [e42, up2_ne (by omega)]
        refine pv_aload_n (M := mX12_makes) 0 dX12_makes_34 35 rfl rfl rfl ?_
        refine mv_get (M := mX12_makes) (v := .ref 128) dX12_makes_35 FX12 9 wd1182 (by decide) (tl123 hT) rfl rfl 38 rfl ?_
        refine pv_bipush (M := mX12_makes) (v := 40) dX12_makes_38 40 rfl (by decide) ?_
        refine pv_iload_n (M := mX12_makes) 1 dX12_makes_40 41 rfl rfl rfl ?_
        refine iv_imul (M := mX12_makes) (X := 40) (Y := x0.toInt) dX12_makes_41 42 rfl (by decide) rfl (by omega) (by omega) (fun v45 ev45 => ?_)
        refine pv_iload (M := mX12_makes) dX12_makes_42 44 rfl rfl ?_
        refine iv_iadd (M := mX12_makes) (X := v45.toInt) (Y := v34.toInt) dX12_makes_44 45 rfl rfl rfl (by omega) (by omega) (fun v46 ev46 => ?_)
        refine pv_iconst (M := mX12_makes) (v := 1) dX12_makes_45 46 rfl (by decide) ?_
        refine iv_zast (M := mX12_makes) (X := v46.toInt) (l1 := 0) (l2 := 1) dX12_makes_46 (tl128 hT) rfl (by omega) (by omega) I40 (fun _ => rfl) (y := 1) (by decide) (by decide) (by decide) 47 rfl (fun m47 e50 I48 => ?_)
        have K49 := K41.set e50 rfl
        have w51 : (m47 123 3).toInt = (m39 123 3).toInt := by rw [e50, up2_ne (by omega)]
        have k47 := nu_strike e42 (by decide) (by decide) e50 (b := x0.toInt) (w := v34.toInt) (by omega) (by omega) (by omega) (by omega) (by omega) (by decide)
        have k47e := (e42).trans (up2_ix (j := 9 * (m 123 3).toInt.toNat + y1.toInt.toNat) (by omega))
        have k47f := (e50).trans (up2_ix (j := 40 * x0.toInt.toNat + v34.toInt.toNat) (by omega))
        have k47k : MKI m m47 x0.toInt.toNat x1.toInt.toNat (y1.toInt.toNat + 1) := MKI_s kgk k15 (by omega) (k15f) k47e k47f rfl
        have k47g : (∀ a j, 143 ≤ a → a ≤ 147 → m47 a j = m a j) ∧ m47 123 3 = m 123 3 := ⟨fun a j q1 q2 => by rw [e50, up2_ne (by omega), e42, up2_ne (by omega)]; exact kgf.1 a j q1 q2, by rw [e50, up2_ne (by omega), e42, up2_ne (by omega)]; exact kgf.2⟩
        refine iv_inc (M := mX12_makes) (C := 1) dX12_makes_47 50 rfl rfl (by decide) rfl rfl (by decide) (by omega) (by omega) (fun v57 ev57 => ?_)
        show PV _ _ _ _ _ _ _ 50 [.ref 123, .int x0, .int x1, .int x2, .int x3, .int x4, .int v57, .int v34] [] _
        refine pv_goto (M := mX12_makes) (tgt := 3) dX12_makes_50 (by decide) ?_
        refine pv_fg (lo2 := [.ref 123, .int x0, .int x1, .int x2, .int x3, .int x4, .int v57, pv_U]) ⟨Or.inr rfl, ⟨Or.inr rfl, ⟨Or.inr rfl, ⟨Or.inr rfl, ⟨Or.inr rfl, ⟨Or.inr rfl, ⟨Or.inr rfl, ⟨Or.inl rfl, trivial⟩⟩⟩⟩⟩⟩⟩⟩ ?_
        have kbk : MKI m m47 x0.toInt.toNat x1.toInt.toNat v57.toInt.toNat := by rw [show v57.toInt.toNat = (y1.toInt).toNat + 1 by omega]; exact k47k
        have kbf := k47g
        exact ih8 v57 m47 n3 (by first | omega | assumption | exact (iv_rng _).2 | exact (iv_rng _).1 | decide) (by first | omega | assumption | exact (iv_rng _).2 | exact (iv_rng _).1 | decide) (by first | omega | assumption | (show nu m47 x0.toInt 0 = nu m x0.toInt 0 - v57.toInt; omega) | decide) (by first | omega | assumption | (show v57.toInt ≤ x2.toInt; omega) | decide) (by first | omega | assumption | (show (m47 123 3).toInt = (m 123 3).toInt; omega) | decide) kbk kbf I48 K49 (by omega)
  have z60 : (0 : Int32).toInt = 0 := by decide
  exact lp7 (((9 - 0) : Int).toNat + 1) 0 m n (by first | omega | assumption | exact (iv_rng _).2 | exact (iv_rng _).1 | decide) (by first | omega | assumption | exact (iv_rng _).2 | exact (iv_rng _).1 | decide) (by first | omega | assumption | (show nu m x0.toInt 0 = nu m x0.toInt 0 - 0; omega) | decide) (by first | omega | assumption | (show 0 ≤ x2.toInt; omega) | decide) (by first | omega | assumption | (show (m 123 3).toInt = (m 123 3).toInt; omega) | decide) (by rw [Int32.toInt_zero]; exact MKI_0) ⟨fun _ _ _ _ => rfl, rfl⟩ I Kp (by omega)

set_option maxHeartbeats 2000000 in
set_option maxRecDepth 20000 in
theorem s_X12_strike_va (g : pv_G) {T : List mv_T} {m : Nat → Nat → Int32} {n : Nat → Nat → Int64} {r : Nat → Value} (hT : TX T) (I : IV BB m) (x0 : Int32) (x1 : Int32) (x2 : Int32) (x3 : Int32) (t : Int → Int) (hp0 : LX m) (hp1 : LAWr m t (m 123 20).toInt.toNat) : PM g mX12_strike yX12_strike (sqI T BB (wl [(123, 123, some 3), (128, 128, none), (141, 141, none), (142, 142, none), (143, 143, none), (144, 144, none), (145, 145, none), (146, 146, none), (147, 147, none), (148, 148, none)]) r m (-2147483648) 2147483647 (fun m' v => STRK ((0 ≤ x0.toInt ∧ x0.toInt < (m 123 0).toInt) ∧ (0 ≤ x3.toInt ∧ x3.toInt ≤ 7) ∧ (1 ≤ x2.toInt ∧ x2.toInt ≤ 9) ∧ 0 ≤ x1.toInt ∧ x1.toInt + x2.toInt ≤ nu m x0.toInt 0) (fun k => FBr m t x0.toInt.toNat (x1.toInt.toNat + k) x3.toInt) (fun k => FFr m t x0.toInt.toNat (x1.toInt.toNat + k) x3.toInt) (fun k v => PRr m t x0.toInt.toNat (x1.toInt.toNat + k) x3.toInt v) ((m 123 3).toInt = 60) x2.toInt.toNat (∀ a j, isR a j = true → m' a j = m a j) (fun v => STKr m m' x0.toInt.toNat x1.toInt.toNat x2.toInt.toNat x3 v) v)) 4 0 0 [.ref 123, .int x0, .int x1, .int x2, .int x3] (mk T m n r) := by
  have Kp : fr (wl [(123, 123, some 3), (128, 128, none), (141, 141, none), (142, 142, none), (143, 143, none), (144, 144, none), (145, 145, none), (146, 146, none), (147, 147, none), (148, 148, none)]) m m := fr.rf
  have kLX := hp0
  have z109 : 0 ≤ (m 123 3).toInt ∧ (m 123 3).toInt ≤ 60 := I 123 3
  have z110 : 0 ≤ (m 123 0).toInt ∧ (m 123 0).toInt ≤ 8 := I 123 0
  refine PM.of 2 (lo := [.ref 123, .int x0, .int x1, .int x2, .int x3, pv_U, pv_U]) rfl (by decide) rfl rfl (Nat.le_of_ble_eq_true rfl) ?_
  refine pv_aload_n (M := mX12_strike) 0 dX12_strike_0 1 rfl rfl rfl ?_
  refine pv_iload_n (M := mX12_strike) 1 dX12_strike_1 2 rfl rfl rfl ?_
  refine pv_callv (M := mX12_strike) (as := [.int x0]) (st := []) (kc2 := 0) (ks2 := 0) dX12_strike_2 wd1389 YX12_isBlank ⟨wd1391, wd55⟩ (mk_get (tl123 hT)) rfl rfl (s_X12_isBlank_vx g hT I x0) rfl rfl (Nat.le_of_ble_eq_true rfl) (by decide) rfl rfl 5 rfl (fun rv h1 q1 => ?_)
  obtain ⟨v2, rfl, rfl, pv2, qv2, rv2⟩ := q1
  replace rv2 : (v2 = 0 ∨ (0 ≤ x0.toInt ∧ x0.toInt ≤ 7)) ∧ ((v2.toInt = 1 ∧ 0 ≤ x0.toInt ∧ x0.toInt < (m 123 0).toInt) ∨ (v2.toInt = 0 ∧ (x0.toInt < 0 ∨ (m 123 0).toInt ≤ x0.toInt))) := rv2
  show PV _ _ _ _ _ _ _ 5 [.ref 123, .int x0, .int x1, .int x2, .int x3, pv_U, pv_U] [.int v2] _
  have k5 := rv2.2
  refine pv_if_eq (M := mX12_strike) (tgt := 41) dX12_strike_5 8 rfl (by decide) (fun c4 => ?_) (fun c4 => ?_)
  · have c4 := iv_eq (X := v2.toInt) (Y := 0) c4 rfl (by decide)
    refine pv_iconst (M := mX12_strike) (v := (-1)) dX12_strike_41 42 rfl (by decide) ?_
    have z5 : ((-1) : Int32).toInt = (-1) := by decide
    exact pv_iret (M := mX12_strike) dX12_strike_42 rfl rfl ⟨_, _, _, rfl, rfl, I, Kp, by decide, by decide, (Or.inl ⟨by omega, by decide, fun _ _ _ => rfl⟩)⟩
  · have pc4 := rv2.1.resolve_left c4
    have c4 := iv_ne (X := v2.toInt) (Y := 0) c4 rfl (by decide)
    refine pv_iload (M := mX12_strike) dX12_strike_8 10 rfl rfl ?_
    refine pv_calls (M := mX12_strike) (as := [.int x3]) (st := []) (kc2 := 0) (ks2 := 0) dX12_strike_10 wd1496 YX12_isClerk wd1497 (s_X12_isClerk_va g hT I x3) rfl rfl (Nat.le_of_ble_eq_true rfl) (by decide) rfl rfl 13 rfl (fun rv h1 q6 => ?_)
    obtain ⟨v7, rfl, rfl, pv7, qv7, rv7⟩ := q6
    replace rv7 : (v7 = 0 ∨ (0 ≤ x3.toInt ∧ x3.toInt ≤ 7)) ∧ ((v7.toInt = 1 ∧ 0 ≤ x3.toInt ∧ x3.toInt ≤ 7) ∨ (v7.toInt = 0 ∧ (x3.toInt < 0 ∨ 7 < x3.toInt))) := rv7
    show PV _ _ _ _ _ _ _ 13 [.ref 123, .int x0, .int x1, .int x2, .int x3, pv_U, pv_U] [.int v7] _
    have k13 := rv7.2
    refine pv_if_eq (M := mX12_strike) (tgt := 41) dX12_strike_13 16 rfl (by decide) (fun c9 => ?_) (fun c9 => ?_)
    · have c9 := iv_eq (X := v7.toInt) (Y := 0) c9 rfl (by decide)
      refine pv_iconst (M := mX12_strike) (v := (-1)) dX12_strike_41 42 rfl (by decide) ?_
      have z10 : ((-1) : Int32).toInt = (-1) := by decide
      exact pv_iret (M := mX12_strike) dX12_strike_42 rfl rfl ⟨_, _, _, rfl, rfl, I, Kp, by decide, by decide, (Or.inl ⟨by omega, by decide, fun _ _ _ => rfl⟩)⟩
    · have pc9 := rv7.1.resolve_left c9
      have c9 := iv_ne (X := v7.toInt) (Y := 0) c9 rfl (by decide)
      refine pv_iload_n (M := mX12_strike) 3 dX12_strike_16 17 rfl rfl rfl ?_
      refine pv_iconst (M := mX12_strike) (v := 1) dX12_strike_17 18 rfl (by decide) ?_
      refine pv_bipush (M := mX12_strike) (v := 9) dX12_strike_18 20 rfl (by decide) ?_
      have z11 : (1 : Int32).toInt = 1 := by decide
      have z12 : (9 : Int32).toInt = 9 := by decide
      refine pv_calls (M := mX12_strike) (as := [.int x2, .int 1, .int 9]) (st := []) (kc2 := 0) (ks2 := 0) dX12_strike_20 wd1370 YX12_in wd1371 (s_X12_in_vx g hT I x2 1 9) rfl rfl (Nat.le_of_ble_eq_true rfl) (by decide) rfl rfl 23 rfl (fun rv h1 q13 => ?_)
      obtain ⟨v14, rfl, rfl, pv14, qv14, rv14⟩ := q13
      replace rv14 : (v14 = 0 ∨ ((1 : Int) ≤ x2.toInt ∧ x2.toInt ≤ (9 : Int))) ∧ ((v14.toInt = 1 ∧ (1 : Int) ≤ x2.toInt ∧ x2.toInt ≤ (9 : Int)) ∨ (v14.toInt = 0 ∧ (x2.toInt < (1 : Int) ∨ (9 : Int) < x2.toInt))) := by have q_ := rv14; (try rw [z11] at q_); (try rw [z12] at q_); exact q_
      show PV _ _ _ _ _ _ _ 23 [.ref 123, .int x0, .int x1, .int x2, .int x3, pv_U, pv_U] [.int v14] _
      have k23 := rv14.2
      refine pv_if_eq (M := mX12_strike) (tgt := 41) dX12_strike_23 26 rfl (by decide) (fun c16 => ?_) (fun c16 => ?_)
      · have c16 := iv_eq (X := v14.toInt) (Y := 0) c16 rfl (by decide)
        refine pv_iconst (M := mX12_strike) (v := (-1)) dX12_strike_41 42 rfl (by decide) ?_
        have z17 : ((-1) : Int32).toInt = (-1) := by decide
        exact pv_iret (M := mX12_strike) dX12_strike_42 rfl rfl ⟨_, _, _, rfl, rfl, I, Kp, by decide, by decide, (Or.inl ⟨by omega, by decide, fun _ _ _ => rfl⟩)⟩
      · have pc16 := rv14.1.resolve_left c16
        have c16 := iv_ne (X := v14.toInt) (Y := 0) c16 rfl (by decide)
        refine pv_iload_n (M := mX12_strike) 2 dX12_strike_26 27 rfl rfl rfl ?_
        refine pv_if_lt (M := mX12_strike) (tgt := 41) dX12_strike_27 30 rfl (by decide) (fun c18 => ?_) (fun c18 => ?_)
        · have c18 := iv_lt (X := x1.toInt) (Y := 0) c18 rfl (by decide)
          refine pv_iconst (M := mX12_strike) (v := (-1)) dX12_strike_41 42 rfl (by decide) ?_
          have z19 : ((-1) : Int32).toInt = (-1) := by decide
          exact pv_iret (M := mX12_strike) dX12_strike_42 rfl rfl ⟨_, _, _, rfl, rfl, I, Kp, by decide, by decide, (Or.inl ⟨by omega, by decide, fun _ _ _ => rfl⟩)⟩
        · have c18 := iv_nlt (X := x1.toInt) (Y := 0) c18 rfl (by decide)
          refine pv_iload_n (M := mX12_strike) 2 dX12_strike_30 31 rfl rfl rfl ?_
          refine pv_aload_n (M := mX12_strike) 0 dX12_strike_31 32 rfl rfl rfl ?_
          refine pv_iload_n (M := mX12_strike) 1 dX12_strike_32 33 rfl rfl rfl ?_
          refine pv_callv (M := mX12_strike) (as := [.int x0]) (st := [.int x1]) (kc2 := 0) (ks2 := 0) dX12_strike_33 wd1393 YX12_leftMany ⟨wd1395, wd56⟩ (mk_get (tl123 hT)) rfl rfl (s_X12_leftMany g hT I x0 (by omega) (by omega)) rfl rfl (Nat.le_of_ble_eq_true rfl) (by decide) rfl rfl 36 rfl (fun rv h1 q20 => ?_)
          obtain ⟨v21, rfl, rfl, pv21, qv21, rv21⟩ := q20
          replace rv21 : v21.toInt = nu m x0.toInt 0 := rv21
          show PV _ _ _ _ _ _ _ 36 [.ref 123, .int x0, .int x1, .int x2, .int x3, pv_U, pv_U] [.int v21, .int x1] _
          have k36 : v21.toInt = nu m x0.toInt 0 := rv21
          refine pv_iload_n (M := mX12_strike) 3 dX12_strike_36 37 rfl rfl rfl ?_
          refine iv_isub (M := mX12_strike) (X := v21.toInt) (Y := x2.toInt) dX12_strike_37 38 rfl rfl rfl (by omega) (by omega) (fun v23 ev23 => ?_)
          refine pv_icmp_le (M := mX12_strike) (tgt := 43) dX12_strike_38 41 rfl (by decide) (fun c24 => ?_) (fun c24 => ?_)
          · have c24 := iv_le (X := x1.toInt) (Y := v23.toInt) c24 rfl rfl
            refine pv_iconst (M := mX12_strike) (v := 0) dX12_strike_43 44 rfl (by decide) ?_
            refine pv_istore (M := mX12_strike) (lo2 := [.ref 123, .int x0, .int x1, .int x2, .int x3, .int 0, pv_U]) dX12_strike_44 46 rfl (by decide) rfl rfl ?_
            refine pv_iconst (M := mX12_strike) (v := 0) dX12_strike_46 47 rfl (by decide) ?_
            refine pv_istore (M := mX12_strike) (lo2 := [.ref 123, .int x0, .int x1, .int x2, .int x3, .int 0, .int 0]) dX12_strike_47 49 rfl (by decide) rfl rfl ?_
            have lp32 : ∀ (fuel31 : Nat) (y25 : Int32) (y26 : Int32) (m27 : Nat → Nat → Int32) (n28 : Nat → Nat → Int64), (0 ≤ y26.toInt) → (y26.toInt ≤ 9) → (nu m27 x0.toInt 0 = nu m x0.toInt 0) → (0 ≤ y26.toInt) → (y26.toInt ≤ x2.toInt) → (∀ a j, isR a j = true → m27 a j = m a j) → (∀ k : Nat, (k : Int) < y26.toInt → FFr m t x0.toInt.toNat (x1.toInt.toNat + k) x3.toInt) → (CST m t x0.toInt.toNat x1.toInt.toNat x3.toInt y26.toInt.toNat y25) → (LX m27) → IV BB m27 → fr (wl [(123, 123, some 3), (128, 128, none), (141, 141, none), (142, 142, none), (143, 143, none), (144, 144, none), (145, 145, none), (146, 146, none), (147, 147, none), (148, 148, none)]) m m27 → ((9 - y26.toInt) : Int).toNat < fuel31 → PV none g mX12_strike (sqI T BB (wl [(123, 123, some 3), (128, 128, none), (141, 141, none), (142, 142, none), (143, 143, none), (144, 144, none), (145, 145, none), (146, 146, none), (147, 147, none), (148, 148, none)]) r m (-2147483648) 2147483647 (fun m' v => STRK ((0 ≤ x0.toInt ∧ x0.toInt < (m 123 0).toInt) ∧ (0 ≤ x3.toInt ∧ x3.toInt ≤ 7) ∧ (1 ≤ x2.toInt ∧ x2.toInt ≤ 9) ∧ 0 ≤ x1.toInt ∧ x1.toInt + x2.toInt ≤ nu m x0.toInt 0) (fun k => FBr m t x0.toInt.toNat (x1.toInt.toNat + k) x3.toInt) (fun k => FFr m t x0.toInt.toNat (x1.toInt.toNat + k) x3.toInt) (fun k v => PRr m t x0.toInt.toNat (x1.toInt.toNat + k) x3.toInt v) ((m 123 3).toInt = 60) x2.toInt.toNat (∀ a j, isR a j = true → m' a j = m a j) (fun v => STKr m m' x0.toInt.toNat x1.toInt.toNat x2.toInt.toNat x3 v) v)) 4 0 0 49 [.ref 123, .int x0, .int x1, .int x2, .int x3, .int y25, .int y26] [] (mk T m27 n28 r) := by
              intro fuel31
              induction fuel31 with
              | zero => intro y25 y26 m27 n28 b34 b35 b36 b37 b38 b39 b40 b41 b42 I29 K30 z43; omega
              | succ fuel31 ih33 =>
                intro y25 y26 m27 n28 b34 b35 b36 b37 b38 b39 b40 b41 b42 I29 K30 z43
                have z44 : 0 ≤ (m27 123 3).toInt ∧ (m27 123 3).toInt ≤ 60 := I29 123 3
                have z45 : 0 ≤ (m27 123 0).toInt ∧ (m27 123 0).toInt ≤ 8 := I29 123 0
                have kLX := (show LX m27 by assumption)
                have kgR := (show ∀ a j, isR a j = true → m27 a j = m a j by assumption)
                have kgF := (show ∀ k : Nat, (k : Int) < y26.toInt → FFr m t x0.toInt.toNat (x1.toInt.toNat + k) x3.toInt by assumption)
                have kgC := (show CST m t x0.toInt.toNat x1.toInt.toNat x3.toInt y26.toInt.toNat y25 by assumption)
                have kq125 : ∀ j, m27 125 j = m 125 j := fun j => K30 125 j rfl
                have kq1 : m27 123 1 = m 123 1 := K30 123 1 rfl
                refine pv_iload (M := mX12_strike) dX12_strike_49 51 rfl rfl ?_
                refine pv_iload_n (M := mX12_strike) 3 dX12_strike_51 52 rfl rfl rfl ?_
                refine pv_icmp_ge (M := mX12_strike) (tgt := 94) dX12_strike_52 55 rfl (by decide) (fun c51 => ?_) (fun c51 => ?_)
                · have c51 := iv_le (X := x2.toInt) (Y := y26.toInt) c51 rfl rfl
                  refine pv_aload_n (M := mX12_strike) 0 dX12_strike_94 95 rfl rfl rfl ?_
                  refine iv_get (M := mX12_strike) (l1 := 0) (l2 := 60) dX12_strike_95 FX12 3 wd1176 (by decide) (tl123 hT) rfl I29 rfl 98 rfl (fun v52 ev52 pv52 qv52 => ?_)
                  have wv52 : v52.toInt = (m27 123 3).toInt := congrArg Int32.toInt ev52
                  refine pv_bipush (M := mX12_strike) (v := 60) dX12_strike_98 100 rfl (by decide) ?_
                  refine pv_icmp_ne (M := mX12_strike) (tgt := 106) dX12_strike_100 103 rfl (by decide) (fun c53 => ?_) (fun c53 => ?_)
                  · have c53 := iv_ne (X := v52.toInt) (Y := 60) c53 rfl (by decide)
                    refine pv_aload_n (M := mX12_strike) 0 dX12_strike_106 107 rfl rfl rfl ?_
                    refine pv_iload_n (M := mX12_strike) 1 dX12_strike_107 108 rfl rfl rfl ?_
                    refine pv_iload_n (M := mX12_strike) 2 dX12_strike_108 109 rfl rfl rfl ?_
                    refine pv_iload_n (M := mX12_strike) 3 dX12_strike_109 110 rfl rfl rfl ?_
                    refine pv_iload (M := mX12_strike) dX12_strike_110 112 rfl rfl ?_
                    refine pv_iload (M := mX12_strike) dX12_strike_112 114 rfl rfl ?_
                    have k114n : y26.toInt.toNat = x2.toInt.toNat := by omega
                    rw [k114n] at kgC
                    have kgR3 : (m27 123 3).toInt = (m 123 3).toInt := congrArg Int32.toInt (kgR 123 3 rfl)
                    refine pv_callv (M := mX12_strike) (as := [.int x0, .int x1, .int x2, .int x3, .int y25]) (st := []) (kc2 := 0) (ks2 := 0) dX12_strike_114 wd1530 YX12_makes ⟨wd1532, wd83⟩ (mk_get (tl123 hT)) rfl rfl (s_X12_makes_va g hT I29 x0 (by omega) (by omega) x1 (by omega) (by omega) x2 (by omega) (by omega) x3 (by omega) (by omega) y25 (by first | omega | assumption | exact (iv_rng _).2 | exact (iv_rng _).1 | decide) (by first | omega | assumption | exact (iv_rng _).2 | exact (iv_rng _).1 | decide)) rfl rfl (Nat.le_of_ble_eq_true rfl) (by decide) rfl rfl 117 rfl (fun rv h1 q57 => ?_)
                    obtain ⟨m58, n59, rfl, rfl, I60, K61, rm58⟩ := q57
                    replace rm58 : (nu m58 x0.toInt 0 = nu m27 x0.toInt 0 - x2.toInt ∧ (m58 123 3).toInt = (m27 123 3).toInt + 1) ∧ STKr m27 m58 x0.toInt.toNat x1.toInt.toNat x2.toInt.toNat x3 y25 := rm58
                    have K61c := K61
                    have kLX : LX m58 := LX_eq kLX (K61c 123 20 rfl) (fun j => K61c 136 j rfl) (fun j => K61c 138 j rfl) (fun j => K61c 139 j rfl) (fun j => K61c 140 j rfl)
                    have w62 : (m58 123 0).toInt = (m27 123 0).toInt := congrArg Int32.toInt (K61 123 0 rfl)
                    have K61 := K30.trans (K61.sub (wl_sub (by decide)))
                    show PV _ _ _ _ _ _ _ 117 [.ref 123, .int x0, .int x1, .int x2, .int x3, .int y25, .int y26] [] _
                    have k117 : STKr m m58 x0.toInt.toNat x1.toInt.toNat x2.toInt.toNat x3 y25 := STKr_m rm58.2 kgR kq1
                    refine pv_iload (M := mX12_strike) dX12_strike_117 119 rfl rfl ?_
                    exact pv_iret (M := mX12_strike) dX12_strike_119 rfl rfl ⟨_, _, _, rfl, rfl, I60, K61, (iv_rng y25).1, (iv_rng y25).2, (by obtain ⟨pr, hp1_, hp2_⟩ := kgC; exact Or.inr (Or.inr (Or.inr ⟨by omega, fun k hk => kgF k (by omega), by have q := kgR3; omega, pr, hp1_, hp2_, k117⟩)))⟩
                  · have c53 := iv_eq (X := v52.toInt) (Y := 60) c53 rfl (by decide)
                    refine pv_bipush (M := mX12_strike) (v := (-3)) dX12_strike_103 105 rfl (by decide) ?_
                    have z64 : ((-3) : Int32).toInt = (-3) := by decide
                    exact pv_iret (M := mX12_strike) dX12_strike_105 rfl rfl ⟨_, _, _, rfl, rfl, I29, K30, by decide, by decide, (Or.inr (Or.inr (Or.inl ⟨by omega, fun k hk => kgF k (by omega), by have q := kgR 123 3 rfl; have q1 := congrArg Int32.toInt q; omega, by decide, kgR⟩)))⟩
                · have c51 := iv_nle (X := x2.toInt) (Y := y26.toInt) c51 rfl rfl
                  refine pv_aload_n (M := mX12_strike) 0 dX12_strike_55 56 rfl rfl rfl ?_
                  refine pv_iload_n (M := mX12_strike) 1 dX12_strike_56 57 rfl rfl rfl ?_
                  refine pv_iload_n (M := mX12_strike) 2 dX12_strike_57 58 rfl rfl rfl ?_
                  refine pv_iload (M := mX12_strike) dX12_strike_58 60 rfl rfl ?_
                  refine iv_iadd (M := mX12_strike) (X := x1.toInt) (Y := y26.toInt) dX12_strike_60 61 rfl rfl rfl (by omega) (by omega) (fun v65 ev65 => ?_)
                  refine pv_iload (M := mX12_strike) dX12_strike_61 63 rfl rfl ?_
                  have k63 : LAWr m27 t (m27 123 20).toInt.toNat := by rw [show m27 123 20 = m 123 20 from kgR 123 20 rfl]; exact LAWr_eq hp1 (fun a j h1 h2 => kgR a j (isR_cr h1 h2))
                  refine pv_callv (M := mX12_strike) (as := [.int x0, .int v65, .int x3]) (st := []) (kc2 := 0) (ks2 := 0) dX12_strike_63 wd1522 YX12_mayStrike ⟨wd1524, wd82⟩ (mk_get (tl123 hT)) rfl rfl (s_X12_mayStrike_vz g hT I29 x0 (by omega) (by omega) v65 (by omega) (by omega) x3 t (by first | omega | assumption | exact (iv_rng _).2 | exact (iv_rng _).1 | decide) (by first | omega | assumption | exact (iv_rng _).2 | exact (iv_rng _).1 | decide) k63) rfl rfl (Nat.le_of_ble_eq_true rfl) (by decide) rfl rfl 66 rfl (fun rv h1 q67 => ?_)
                  obtain ⟨m68, n69, v72, rfl, rfl, I70, K71, pv72, qv72, rv72⟩ := q67
                  replace rv72 : (FCT (m68 142) (m27 128) (m27 125) (40 * x0.toInt.toNat) (40 * x0.toInt.toNat) (m27 124 x0.toInt.toNat).toInt.toNat v65.toInt x3.toInt (m27 123 1).toInt x0.toInt) ∧ ((v72.toInt = 1 ∧ ¬ FRB t (m27 123 20).toInt.toNat (frn m68)) ∨ (v72.toInt = 0 ∧ FRB t (m27 123 20).toInt.toNat (frn m68))) := rv72
                  have K71c := K71
                  have kLX : LX m68 := LX_eq kLX (K71c 123 20 rfl) (fun j => K71c 136 j rfl) (fun j => K71c 138 j rfl) (fun j => K71c 139 j rfl) (fun j => K71c 140 j rfl)
                  have u73 : nu m68 x0.toInt 0 = nu m27 x0.toInt 0 := nu_eq (fun j => K71c 124 j rfl) (fun j => K71c 128 j rfl) _ _
                  have w74 : (m68 123 3).toInt = (m27 123 3).toInt := congrArg Int32.toInt (K71 123 3 rfl)
                  have w75 : (m68 123 0).toInt = (m27 123 0).toInt := congrArg Int32.toInt (K71 123 0 rfl)
                  have K71 := K30.trans (K71.sub (wl_sub (by decide)))
                  show PV _ _ _ _ _ _ _ 66 [.ref 123, .int x0, .int x1, .int x2, .int x3, .int y25, .int y26] [.int v72] _
                  have k66 := rv72
                  have k66f : FCr m x0.toInt.toNat (x1.toInt.toNat + y26.toInt.toNat) x3.toInt (frn m68) := FCr_of k66.1 rfl (by omega) (fun j => kgR 128 j rfl) (fun j => kq125 j) (fun j => kgR 124 j rfl) (by omega) (congrArg Int32.toInt kq1)
                  have k66v := k66.2
                  rw [show (m27 123 20).toInt = (m 123 20).toInt from congrArg Int32.toInt (kgR 123 20 rfl)] at k66v
                  have kR66 : ∀ a j, isR a j = true → m68 a j = m a j := fun a j q => (K71c a j (wl_nR (by decide) q)).trans (kgR a j q)
                  refine pv_if_ne (M := mX12_strike) (tgt := 72) dX12_strike_66 69 rfl (by decide) (fun c81 => ?_) (fun c81 => ?_)
                  · have c81 := iv_ne (X := v72.toInt) (Y := 0) c81 rfl (by decide)
                    have kgR := kR66
                    have kq125 : ∀ j, m68 125 j = m 125 j := fun j => K71 125 j rfl
                    have kq1 : m68 123 1 = m 123 1 := K71 123 1 rfl
                    refine pv_iload (M := mX12_strike) dX12_strike_72 74 rfl rfl ?_
                    refine pv_aload_n (M := mX12_strike) 0 dX12_strike_74 75 rfl rfl rfl ?_
                    refine pv_iload_n (M := mX12_strike) 1 dX12_strike_75 76 rfl rfl rfl ?_
                    refine pv_iload_n (M := mX12_strike) 2 dX12_strike_76 77 rfl rfl rfl ?_
                    refine pv_iload (M := mX12_strike) dX12_strike_77 79 rfl rfl ?_
                    refine iv_iadd (M := mX12_strike) (X := x1.toInt) (Y := y26.toInt) dX12_strike_79 80 rfl rfl rfl (by omega) (by omega) (fun v85 ev85 => ?_)
                    refine pv_iload (M := mX12_strike) dX12_strike_80 82 rfl rfl ?_
                    have k82 : LAWr m68 t (m68 123 20).toInt.toNat := by rw [show m68 123 20 = m 123 20 from kgR 123 20 rfl]; exact LAWr_eq hp1 (fun a j h1 h2 => kgR a j (isR_cr h1 h2))
                    refine pv_callv (M := mX12_strike) (as := [.int x0, .int v85, .int x3]) (st := [.int y25]) (kc2 := 0) (ks2 := 0) dX12_strike_82 wd1499 YX12_priceOf ⟨wd1501, wd77⟩ (mk_get (tl123 hT)) rfl rfl (s_X12_priceOf_vz g hT I70 x0 (by omega) (by omega) v85 (by omega) (by omega) x3 t (by first | omega | assumption | exact (iv_rng _).2 | exact (iv_rng _).1 | decide) (by first | omega | assumption | exact (iv_rng _).2 | exact (iv_rng _).1 | decide) k82) rfl rfl (Nat.le_of_ble_eq_true rfl) (by decide) rfl rfl 85 rfl (fun rv h1 q87 => ?_)
                    obtain ⟨m88, n89, v92, rfl, rfl, I90, K91, pv92, qv92, rv92⟩ := q87
                    replace rv92 : (FCT (m88 142) (m68 128) (m68 125) (40 * x0.toInt.toNat) (40 * x0.toInt.toNat) (m68 124 x0.toInt.toNat).toInt.toNat v85.toInt x3.toInt (m68 123 1).toInt x0.toInt) ∧ v92.toInt = prc t (frn m88) (m68 123 20).toInt.toNat 0 := rv92
                    have K91c := K91
                    have kLX : LX m88 := LX_eq kLX (K91c 123 20 rfl) (fun j => K91c 136 j rfl) (fun j => K91c 138 j rfl) (fun j => K91c 139 j rfl) (fun j => K91c 140 j rfl)
                    have u93 : nu m88 x0.toInt 0 = nu m68 x0.toInt 0 := nu_eq (fun j => K91c 124 j rfl) (fun j => K91c 128 j rfl) _ _
                    have w94 : (m88 123 3).toInt = (m68 123 3).toInt := congrArg Int32.toInt (K91 123 3 rfl)
                    have w95 : (m88 123 0).toInt = (m68 123 0).toInt := congrArg Int32.toInt (K91 123 0 rfl)
                    have K91 := K71.trans (K91.sub (wl_sub (by decide)))
                    show PV _ _ _ _ _ _ _ 85 [.ref 123, .int x0, .int x1, .int x2, .int x3, .int y25, .int y26] [.int v92, .int y25] _
                    have k85 := rv92
                    have k85p : PRr m t x0.toInt.toNat (x1.toInt.toNat + y26.toInt.toNat) x3.toInt v92 := ⟨_, FCr_of k85.1 rfl (by omega) (fun j => kgR 128 j rfl) (fun j => kq125 j) (fun j => kgR 124 j rfl) (by omega) (congrArg Int32.toInt kq1), by rw [k85.2, show (m68 123 20).toInt = (m 123 20).toInt from congrArg Int32.toInt (kgR 123 20 rfl)]⟩
                    have kR85 : ∀ a j, isR a j = true → m88 a j = m a j := fun a j q => (K91c a j (wl_nR (by decide) q)).trans (kgR a j q)
                    refine iv_addU (M := mX12_strike) dX12_strike_85 86 rfl (fun v99 ev99 => ?_)
                    have k86 := ev99
                    refine pv_istore (M := mX12_strike) (lo2 := [.ref 123, .int x0, .int x1, .int x2, .int x3, .int v99, .int y26]) dX12_strike_86 88 rfl (by decide) rfl rfl ?_
                    refine iv_inc (M := mX12_strike) (C := 1) dX12_strike_88 91 rfl rfl (by decide) rfl rfl (by decide) (by omega) (by omega) (fun v101 ev101 => ?_)
                    show PV _ _ _ _ _ _ _ 91 [.ref 123, .int x0, .int x1, .int x2, .int x3, .int v99, .int v101] [] _
                    refine pv_goto (M := mX12_strike) (tgt := 49) dX12_strike_91 (by decide) ?_
                    have kbR := kR85
                    have kbF : ∀ k : Nat, (k : Int) < v101.toInt → FFr m t x0.toInt.toNat (x1.toInt.toNat + k) x3.toInt := fun k hk => if z : (k : Int) = y26.toInt then (by have ek : k = (y26.toInt).toNat := (by omega); rw [ek]; exact ⟨_, k66f, (k66v.resolve_right (fun q => by have q1 := q.1; omega)).2⟩) else kgF k (by omega)
                    have kbC : CST m t x0.toInt.toNat x1.toInt.toNat x3.toInt v101.toInt.toNat v99 := CST_s kgC k85p k86 (by omega)
                    exact ih33 v99 v101 m88 n89 (by first | omega | assumption | exact (iv_rng _).2 | exact (iv_rng _).1 | decide) (by first | omega | assumption | exact (iv_rng _).2 | exact (iv_rng _).1 | decide) (by first | omega | assumption | (show nu m88 x0.toInt 0 = nu m x0.toInt 0; omega) | decide) (by first | omega | assumption | (show 0 ≤ v101.toInt; omega) | decide) (by first | omega | assumption | (show v101.toInt ≤ x2.toInt; omega) | decide) kbR kbF kbC kLX I90 K91 (by omega)
                  · have c81 := iv_eq (X := v72.toInt) (Y := 0) c81 rfl (by decide)
                    refine pv_bipush (M := mX12_strike) (v := (-2)) dX12_strike_69 71 rfl (by decide) ?_
                    have z105 : ((-2) : Int32).toInt = (-2) := by decide
                    exact pv_iret (M := mX12_strike) dX12_strike_71 rfl rfl ⟨_, _, _, rfl, rfl, I70, K71, by decide, by decide, (Or.inr (Or.inl ⟨by omega, ⟨y26.toInt.toNat, by omega, ⟨_, k66f, by have z1 := k66v.resolve_left (fun q => by have q1 := q.1; omega); exact z1.2⟩⟩, by decide, kR66⟩))⟩
            have z106 : (0 : Int32).toInt = 0 := by decide
            have z107 : (0 : Int32).toInt = 0 := by decide
            exact lp32 (((9 - 0) : Int).toNat + 1) 0 0 m n (by first | omega | assumption | exact (iv_rng _).2 | exact (iv_rng _).1 | decide) (by first | omega | assumption | exact (iv_rng _).2 | exact (iv_rng _).1 | decide) (by first | omega | assumption | (show nu m x0.toInt 0 = nu m x0.toInt 0; omega) | decide) (by first | omega | assumption | (show 0 ≤ 0; omega) | decide) (by first | omega | assumption | (show 0 ≤ x2.toInt; omega) | decide) (fun _ _ _ => rfl) (fun k hk => by rw [Int32.toInt_zero] at hk; omega) (by rw [Int32.toInt_zero]; exact CST_0) kLX I Kp (by omega)
          · have c24 := iv_nle (X := x1.toInt) (Y := v23.toInt) c24 rfl rfl
            refine pv_iconst (M := mX12_strike) (v := (-1)) dX12_strike_41 42 rfl (by decide) ?_
            have z108 : ((-1) : Int32).toInt = (-1) := by decide
            exact pv_iret (M := mX12_strike) dX12_strike_42 rfl rfl ⟨_, _, _, rfl, rfl, I, Kp, by decide, by decide, (Or.inl ⟨by omega, by decide, fun _ _ _ => rfl⟩)⟩
