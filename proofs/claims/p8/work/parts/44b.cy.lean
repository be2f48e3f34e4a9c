set_option maxHeartbeats 2000000 in
set_option maxRecDepth 20000 in
theorem s_X3_clearParts (g : pv_G) {T : List mv_T} {m : Nat → Nat → Int32} {n : Nat → Nat → Int64} {r : Nat → Value} (hT : TX T) (I : IV BB m) (hC : TC T) : PM g mX3_clearParts yX3_clearParts (sqVr T BB (wl [(169, 169, some 4)]) ro r m (fun m' r' => ∀ d, d < 4 → r' (172000 + d) = .ref 173)) 1 0 0 [.ref 169] (mk T m n r) := by
  have Kp : fr (wl [(169, 169, some 4)]) m m := fr.rf
  refine PM.of 1 (lo := [.ref 169, pv_U]) rfl (by decide) rfl rfl (Nat.le_of_ble_eq_true rfl) ?_
  refine pv_aload_n (M := mX3_clearParts) 0 dX3_clearParts_0 1 rfl rfl rfl ?_
  refine pv_iconst (M := mX3_clearParts) (v := 0) dX3_clearParts_1 2 rfl (by decide) ?_
  refine iv_put (M := mX3_clearParts) (l1 := 0) (l2 := 4) dX3_clearParts_2 FX3 4 wd985 (by decide) rfl (tc169 hC) rfl rfl rfl I rfl (by decide) (by decide) 5 rfl (fun m1 e4 I2 => ?_)
  have K3 := Kp.set e4 rfl
  refine pv_iconst (M := mX3_clearParts) (v := 0) dX3_clearParts_5 6 rfl (by decide) ?_
  refine pv_istore_n (M := mX3_clearParts) 1 (lo2 := [.ref 169, .int 0]) dX3_clearParts_6 7 rfl rfl (by decide) rfl rfl ?_
  have lp11 : ∀ (fuel10 : Nat) (y5 : Int32) (m6 : Nat → Nat → Int32) (n7 : Nat → Nat → Int64) (r15 : Nat → Value), (0 ≤ y5.toInt) → (y5.toInt ≤ 4) → (∀ d : Nat, (d : Int) < y5.toInt → r15 (172000 + d) = .ref 173) → IV BB m6 → fr (wl [(169, 169, some 4)]) m m6 → ro r r15 → ((4 - y5.toInt) : Int).toNat < fuel10 → PV none g mX3_clearParts (sqVr T BB (wl [(169, 169, some 4)]) ro r m (fun m' r' => ∀ d, d < 4 → r' (172000 + d) = .ref 173)) 1 0 0 7 [.ref 169, .int y5] [] (mk T m6 n7 r15) := by
    intro fuel10
    induction fuel10 with
    | zero => intro y5 m6 n7 r15 b13 b14 b16 I8 K9 or15 z17; omega
    | succ fuel10 ih12 =>
      intro y5 m6 n7 r15 b13 b14 b16 I8 K9 or15 z17
      have kg := (show ∀ d : Nat, (d : Int) < y5.toInt → r15 (172000 + d) = .ref 173 by assumption)
      refine pv_iload_n (M := mX3_clearParts) 1 dX3_clearParts_7 8 rfl rfl rfl ?_
      refine pv_iconst (M := mX3_clearParts) (v := 4) dX3_clearParts_8 9 rfl (by decide) ?_
      refine pv_icmp_ge (M := mX3_clearParts) (tgt := 28) dX3_clearParts_9 12 rfl (by decide) (fun c19 => ?_) (fun c19 => ?_)
      · have c19 := iv_le (X := 4) (Y := y5.toInt) c19 (by decide) rfl
        exact pv_vret (M := mX3_clearParts) dX3_clearParts_28 rfl ⟨_, _, _, rfl, rfl, I8, K9, or15, (fun d hd => kg d (by omega))⟩
      · have c19 := iv_nle (X := 4) (Y := y5.toInt) c19 (by decide) rfl
        refine pv_aload_n (M := mX3_clearParts) 0 dX3_clearParts_12 13 rfl rfl rfl ?_
        refine mv_get (M := mX3_clearParts) (v := .ref 172) dX3_clearParts_13 FX3 2 wd983 (by decide) (tc169 hC) rfl rfl 16 rfl ?_
        refine pv_iload_n (M := mX3_clearParts) 1 dX3_clearParts_16 17 rfl rfl rfl ?_
        refine pv_aload_n (M := mX3_clearParts) 0 dX3_clearParts_17 18 rfl rfl rfl ?_
        refine mv_get (M := mX3_clearParts) (v := .ref 173) dX3_clearParts_18 FX3 3 wd984 (by decide) (tc169 hC) rfl rfl 21 rfl ?_
        refine mv_aastr (M := mX3_clearParts) (X := y5.toInt) dX3_clearParts_21 (tc172 hC) (Or.inr rfl) (by decide) (tc173 hC) rfl (fun _ => rfl) rfl (by omega) (by omega) (NMt hC (by omega)) 22 rfl (fun r20 er20 => ?_)
        have or20 := ro.set or15 er20 (by omega) (by omega)
        show PV _ _ _ _ _ _ _ 22 [.ref 169, .int y5] [] _
        refine iv_inc (M := mX3_clearParts) (C := 1) dX3_clearParts_22 25 rfl rfl (by decide) rfl rfl (by decide) (by omega) (by omega) (fun v21 ev21 => ?_)
        show PV _ _ _ _ _ _ _ 25 [.ref 169, .int v21] [] _
        refine pv_goto (M := mX3_clearParts) (tgt := 7) dX3_clearParts_25 (by decide) ?_
        have kb : ∀ d : Nat, (d : Int) < v21.toInt → r20 (172000 + d) = .ref 173 := fun d a => if z : (d : Int) = y5.toInt then by rw [er20, show 172000 + d = 1000 * 172 + (y5.toInt).toNat by omega]; exact up1_eq _ _ _ else by rw [er20, up1_ne (by omega)]; exact kg d (by omega)
        exact ih12 v21 m6 n7 r20 (by first | omega | assumption | exact (iv_rng _).2 | exact (iv_rng _).1 | decide) (by first | omega | assumption | exact (iv_rng _).2 | exact (iv_rng _).1 | decide) kb I8 K9 or20 (by omega)
  have z23 : (0 : Int32).toInt = 0 := by decide
  exact lp11 (((4 - 0) : Int).toNat + 1) 0 m1 n r (by first | omega | assumption | exact (iv_rng _).2 | exact (iv_rng _).1 | decide) (by first | omega | assumption | exact (iv_rng _).2 | exact (iv_rng _).1 | decide) (fun d a => by rw [Int32.toInt_zero] at a; omega) I2 K3 ro.rf (by omega)

set_option maxHeartbeats 2000000 in
set_option maxRecDepth 20000 in
theorem s_X3_addPart (g : pv_G) {T : List mv_T} {m : Nat → Nat → Int32} {n : Nat → Nat → Int64} {r : Nat → Value} (hT : TX T) (I : IV BB m) (hC : TC T) (a0 : Nat) (rm0 : Nat) (ha0 : RowAt T a0 rm0) (hp0 : a0 ≤ 75 ∨ a0 = 173) (hp1 : PXE T r m) : PM g mX3_addPart yX3_addPart (sqVr T BB (wl [(169, 169, some 4)]) ro r m (fun m' r' => PXE T r' m')) 1 0 0 [.ref 169, .ref a0] (mk T m n r) := by
  have Kp : fr (wl [(169, 169, some 4)]) m m := fr.rf
  have zr0 := ha0.2.2.2.2
  have z17 : 0 ≤ (m 169 4).toInt ∧ (m 169 4).toInt ≤ 4 := I 169 4
  refine PM.of 0 (lo := [.ref 169, .ref a0]) rfl (by decide) rfl rfl (Nat.le_of_ble_eq_true rfl) ?_
  refine pv_aload_n (M := mX3_addPart) 0 dX3_addPart_0 1 rfl rfl rfl ?_
  refine iv_get (M := mX3_addPart) (l1 := 0) (l2 := 4) dX3_addPart_1 FX3 4 wd985 (by decide) (tc169 hC) rfl I rfl 4 rfl (fun v1 ev1 pv1 qv1 => ?_)
  have wv1 : v1.toInt = (m 169 4).toInt := congrArg Int32.toInt ev1
  refine pv_iconst (M := mX3_addPart) (v := 4) dX3_addPart_4 5 rfl (by decide) ?_
  refine pv_icmp_ge (M := mX3_addPart) (tgt := 37) dX3_addPart_5 8 rfl (by decide) (fun c2 => ?_) (fun c2 => ?_)
  · have c2 := iv_le (X := 4) (Y := v1.toInt) c2 (by decide) rfl
    exact pv_vret (M := mX3_addPart) dX3_addPart_37 rfl ⟨_, _, _, rfl, rfl, I, Kp, ro.rf, (by first | exact hp1 | exact PXE_m k27 (fun b h => by rw [noE, up2_ne (by omega)]))⟩
  · have c2 := iv_nle (X := 4) (Y := v1.toInt) c2 (by decide) rfl
    refine pv_aload_n (M := mX3_addPart) 1 dX3_addPart_8 9 rfl rfl rfl ?_
    refine iv_get (M := mX3_addPart) (l1 := 0) (l2 := (rm0 : Int)) dX3_addPart_9 FX8 1 wd197 (by decide) ha0.1 rfl I ha0.2.2.1 12 rfl (fun v3 ev3 pv3 qv3 => ?_)
    have k12 : v3.toInt = (m a0 1).toInt := congrArg Int32.toInt ev3
    have k12b : 0 ≤ v3.toInt := pv3
    refine pv_bipush (M := mX3_addPart) (v := 12) dX3_addPart_12 14 rfl (by decide) ?_
    refine pv_icmp_gt (M := mX3_addPart) (tgt := 37) dX3_addPart_14 17 rfl (by decide) (fun c6 => ?_) (fun c6 => ?_)
    · have c6 := iv_lt (X := 12) (Y := v3.toInt) c6 (by decide) rfl
      exact pv_vret (M := mX3_addPart) dX3_addPart_37 rfl ⟨_, _, _, rfl, rfl, I, Kp, ro.rf, (by first | exact hp1 | exact PXE_m k27 (fun b h => by rw [noE, up2_ne (by omega)]))⟩
    · have c6 := iv_nlt (X := 12) (Y := v3.toInt) c6 (by decide) rfl
      refine pv_aload_n (M := mX3_addPart) 0 dX3_addPart_17 18 rfl rfl rfl ?_
      refine mv_get (M := mX3_addPart) (v := .ref 172) dX3_addPart_18 FX3 2 wd983 (by decide) (tc169 hC) rfl rfl 21 rfl ?_
      refine pv_aload_n (M := mX3_addPart) 0 dX3_addPart_21 22 rfl rfl rfl ?_
      refine iv_get (M := mX3_addPart) (l1 := 0) (l2 := 4) dX3_addPart_22 FX3 4 wd985 (by decide) (tc169 hC) rfl I rfl 25 rfl (fun v7 ev7 pv7 qv7 => ?_)
      have wv7 : v7.toInt = (m 169 4).toInt := congrArg Int32.toInt ev7
      refine pv_aload_n (M := mX3_addPart) 1 dX3_addPart_25 26 rfl rfl rfl ?_
      refine mv_aastr (M := mX3_addPart) (X := v7.toInt) dX3_addPart_26 (tc172 hC) (Or.inr rfl) (by decide) ha0.1 rfl (fun _ => rfl) rfl (by omega) (by omega) (NMt hC (by omega)) 27 rfl (fun r8 er8 => ?_)
      have or8 := ro.set ro.rf er8 (by omega) (by omega)
      show PV _ _ _ _ _ _ _ 27 [.ref 169, .ref a0] [] _
      have k27 : PXE T r8 m := PXE_add hp1 er8 (by omega) (by omega) ha0 hp0 (by omega)
      refine pv_aload_n (M := mX3_addPart) 0 dX3_addPart_27 28 rfl rfl rfl ?_
      refine pv_dup (M := mX3_addPart) dX3_addPart_28 29 rfl rfl ?_
      refine iv_get (M := mX3_addPart) (l1 := 0) (l2 := 4) dX3_addPart_29 FX3 4 wd985 (by decide) (tc169 hC) rfl I rfl 32 rfl (fun v10 ev10 pv10 qv10 => ?_)
      have wv10 : v10.toInt = (m 169 4).toInt := congrArg Int32.toInt ev10
      refine pv_iconst (M := mX3_addPart) (v := 1) dX3_addPart_32 33 rfl (by decide) ?_
      refine iv_iadd (M := mX3_addPart) (X := v10.toInt) (Y := 1) dX3_addPart_33 34 rfl rfl (by decide) (by omega) (by omega) (fun v11 ev11 => ?_)
      refine iv_put (M := mX3_addPart) (l1 := 0) (l2 := 4) dX3_addPart_34 FX3 4 wd985 (by decide) rfl (tc169 hC) rfl rfl rfl I rfl (by omega) (by omega) 37 rfl (fun m12 e15 I13 => ?_)
      have K14 := Kp.set e15 rfl
      have w16 : (m12 169 4).toInt = v11.toInt := by rw [e15, up2_eq]
      exact pv_vret (M := mX3_addPart) dX3_addPart_37 rfl ⟨_, _, _, rfl, rfl, I13, K14, or8, (by first | exact hp1 | exact PXE_m k27 (fun b h => by rw [e15, up2_ne (by omega)]))⟩

set_option maxHeartbeats 2000000 in
set_option maxRecDepth 20000 in
theorem s_X11_coverFor_vt (g : pv_G) {T : List mv_T} {m : Nat → Nat → Int32} {n : Nat → Nat → Int64} {r : Nat → Value} {m0 : Nat → Nat → Int32} {r0 : Nat → Value} {la lb : Nat} (hT : TX T) (I : IV BB m) (Kp : fr WX m0 m) (or : rn r0 r) (R : RX T r la lb) (hC : TC T) (hc2 : r 2 = .ref 169) (x0 : Int32) : PV none g mX11_coverFor (sqAr T BB WX rn r0 m0 169 (fun m' r' => True)) 5 0 0 27 [.ref 0, .int x0, .ref 169, pv_U] [] (mk T m n r) := by
  have R0 := R
  have zR := R.2.2.2.2.1.1
  have zR2 := R.2.2.2.2.2.1
  have hc20 := hc2
  refine pv_aload_n (M := mX11_coverFor) 2 dX11_coverFor_27 28 rfl rfl rfl ?_
  refine iv_get (M := mX11_coverFor) (l1 := (-2147483648)) (l2 := 2147483647) dX11_coverFor_28 FX3 1 wd982 (by decide) (tc169 hC) rfl I rfl 31 rfl (fun v1 ev1 pv1 qv1 => ?_)
  refine pv_iload_n (M := mX11_coverFor) 1 dX11_coverFor_31 32 rfl rfl rfl ?_
  refine pv_icmp_eq (M := mX11_coverFor) (tgt := 80) dX11_coverFor_32 35 rfl (by decide) (fun c2 => ?_) (fun c2 => ?_)
  · have c2 := iv_eq (X := v1.toInt) (Y := x0.toInt) c2 rfl rfl
    refine pv_aload_n (M := mX11_coverFor) 2 dX11_coverFor_80 81 rfl rfl rfl ?_
    exact pv_aret (M := mX11_coverFor) dX11_coverFor_81 rfl ⟨_, _, _, rfl, rfl, I, Kp, or, trivial⟩
  · have c2 := iv_ne (X := v1.toInt) (Y := x0.toInt) c2 rfl rfl
    refine pv_aload_n (M := mX11_coverFor) 2 dX11_coverFor_35 36 rfl rfl rfl ?_
    refine pv_callv (M := mX11_coverFor) (as := []) (st := []) (kc2 := 0) (ks2 := 0) dX11_coverFor_36 wd1012 YX3_clearParts ⟨wd976, wd977⟩ (mk_get (tc169 hC)) rfl rfl (s_X3_clearParts g hT I hC) rfl rfl (Nat.le_of_ble_eq_true rfl) (by decide) rfl rfl 39 rfl (fun rv h1 q3 => ?_)
    obtain ⟨m4, n5, r8, rfl, rfl, I6, K7, qr8, rm4⟩ := q3
    replace rm4 : ∀ d, d < 4 → r8 (172000 + d) = .ref 173 := rm4
    have or8 := rn.ro or qr8
    have R := RX_ro R qr8
    have zR := R.2.2.2.2.1.1
    have zR2 := R.2.2.2.2.2.1
    have hc2 : r8 2 = .ref 169 := or8.1
    have K7c := K7
    have K7 := Kp.trans (K7.sub (by exact WX_wl (by decide)))
    show PV _ _ _ _ _ _ _ 39 [.ref 0, .int x0, .ref 169, pv_U] [] _
    have kE0 : PXE T r8 m4 := PXE_0 hC I6 rm4
    refine pv_iconst (M := mX11_coverFor) (v := 0) dX11_coverFor_39 40 rfl (by decide) ?_
    refine pv_istore_n (M := mX11_coverFor) 3 (lo2 := [.ref 0, .int x0, .ref 169, .int 0]) dX11_coverFor_40 41 rfl rfl (by decide) rfl rfl ?_
    have lp16 : ∀ (fuel15 : Nat) (y10 : Int32) (m11 : Nat → Nat → Int32) (n12 : Nat → Nat → Int64) (r20 : Nat → Value), (0 ≤ y10.toInt) → (y10.toInt ≤ 8) → (PXE T r20 m11) → IV BB m11 → fr WX m0 m11 → rn r0 r20 → ((8 - y10.toInt) : Int).toNat < fuel15 → PV none g mX11_coverFor (sqAr T BB WX rn r0 m0 169 (fun m' r' => True)) 5 0 0 41 [.ref 0, .int x0, .ref 169, .int y10] [] (mk T m11 n12 r20) := by
      intro fuel15
      induction fuel15 with
      | zero => intro y10 m11 n12 r20 b18 b19 b21 I13 K14 or20 z22; omega
      | succ fuel15 ih17 =>
        intro y10 m11 n12 r20 b18 b19 b21 I13 K14 or20 z22
        have hc2 := or20.1
        have R := RX_rn2 R0 or or20
        have zR := R.2.2.2.2.1.1
        have zR2 := R.2.2.2.2.2.1
        have kg := (show PXE T r20 m11 by assumption)
        refine pv_iload_n (M := mX11_coverFor) 3 dX11_coverFor_41 42 rfl rfl rfl ?_
        refine pv_bipush (M := mX11_coverFor) (v := 8) dX11_coverFor_42 44 rfl (by decide) ?_
        refine pv_icmp_ge (M := mX11_coverFor) (tgt := 71) dX11_coverFor_44 47 rfl (by decide) (fun c24 => ?_) (fun c24 => ?_)
        · have c24 := iv_le (X := 8) (Y := y10.toInt) c24 (by decide) rfl
          obtain ⟨pp, qq, P, kD, kS⟩ := kg
          refine pv_aload_n (M := mX11_coverFor) 2 dX11_coverFor_71 72 rfl rfl rfl ?_
          refine pv_callv (M := mX11_coverFor) (as := []) (st := []) (kc2 := 0) (ks2 := 0) dX11_coverFor_72 wd1017 YX3_solve ⟨wd1018, wd1019⟩ (mk_get (tc169 hC)) rfl rfl (s_X3_solve g hT I13 hC P kD kS) rfl rfl (Nat.le_of_ble_eq_true rfl) (by decide) rfl rfl 75 rfl (fun rv h1 q26 => ?_)
          obtain ⟨m27, n28, rfl, rfl, I29, K30, rm27⟩ := q26
          have K30c := K30
          have K30 := K14.trans (K30.sub (by exact WX_wl (by decide)))
          show PV _ _ _ _ _ _ _ 75 [.ref 0, .int x0, .ref 169, .int y10] [] _
          refine pv_aload_n (M := mX11_coverFor) 2 dX11_coverFor_75 76 rfl rfl rfl ?_
          refine pv_iload_n (M := mX11_coverFor) 1 dX11_coverFor_76 77 rfl rfl rfl ?_
          refine iv_put (M := mX11_coverFor) (l1 := (-2147483648)) (l2 := 2147483647) dX11_coverFor_77 FX3 1 wd982 (by decide) rfl (tc169 hC) rfl rfl rfl I29 rfl (iv_rng x0).1 (iv_rng x0).2 80 rfl (fun m31 e34 I32 => ?_)
          have K33 := K30.set e34 (by decide)
          refine pv_aload_n (M := mX11_coverFor) 2 dX11_coverFor_80 81 rfl rfl rfl ?_
          exact pv_aret (M := mX11_coverFor) dX11_coverFor_81 rfl ⟨_, _, _, rfl, rfl, I32, K33, or20, trivial⟩
        · have c24 := iv_nle (X := 8) (Y := y10.toInt) c24 (by decide) rfl
          refine pv_iload_n (M := mX11_coverFor) 1 dX11_coverFor_47 48 rfl rfl rfl ?_
          refine pv_iload_n (M := mX11_coverFor) 3 dX11_coverFor_48 49 rfl rfl rfl ?_
          refine pv_calls (M := mX11_coverFor) (as := [.int x0, .int y10]) (st := []) (kc2 := 0) (ks2 := 0) dX11_coverFor_49 wd931 YX11_isAmong wd932 (s_X11_isAmong g hT I13 x0 y10) rfl rfl (Nat.le_of_ble_eq_true rfl) (by decide) rfl rfl 52 rfl (fun rv h1 q35 => ?_)
          obtain ⟨v36, rfl, rfl, pv36, qv36, rv36⟩ := q35
          replace rv36 : v36 = amv x0 y10 := rv36
          show PV _ _ _ _ _ _ _ 52 [.ref 0, .int x0, .ref 169, .int y10] [.int v36] _
          refine pv_if_eq (M := mX11_coverFor) (tgt := 65) dX11_coverFor_52 55 rfl (by decide) (fun c37 => ?_) (fun c37 => ?_)
          · have c37 := iv_eq (X := v36.toInt) (Y := 0) c37 rfl (by decide)
            refine iv_inc (M := mX11_coverFor) (C := 1) dX11_coverFor_65 68 rfl rfl (by decide) rfl rfl (by decide) (by omega) (by omega) (fun v38 ev38 => ?_)
            show PV _ _ _ _ _ _ _ 68 [.ref 0, .int x0, .ref 169, .int v38] [] _
            refine pv_goto (M := mX11_coverFor) (tgt := 41) dX11_coverFor_68 (by decide) ?_
            have kb : PXE T r20 m11 := by first | exact kg | exact rm11
            exact ih17 v38 m11 n12 r20 (by first | omega | assumption | exact (iv_rng _).2 | exact (iv_rng _).1 | decide) (by first | omega | assumption | exact (iv_rng _).2 | exact (iv_rng _).1 | decide) kb I13 K14 or20 (by omega)
          · have c37 := iv_ne (X := v36.toInt) (Y := 0) c37 rfl (by decide)
            refine pv_aload_n (M := mX11_coverFor) 2 dX11_coverFor_55 56 rfl rfl rfl ?_
            refine pv_aload_n (M := mX11_coverFor) 0 dX11_coverFor_56 57 rfl rfl rfl ?_
            refine mv_get (M := mX11_coverFor) (v := .ref 60) dX11_coverFor_57 FX11 3 wd410 (by decide) (tl0 hT) rfl rfl 60 rfl ?_
            refine pv_iload_n (M := mX11_coverFor) 3 dX11_coverFor_60 61 rfl rfl rfl ?_
            refine iv_qdeed (M := mX11_coverFor) (X := y10.toInt) dX11_coverFor_61 hT R rfl (by omega) (by omega) 62 rfl (fun b40 eb40 hb40 => ?_)
            have zb40 := hb40.2.2.2.2
            refine pv_callv (M := mX11_coverFor) (as := [.ref b40]) (st := []) (kc2 := 0) (ks2 := 0) dX11_coverFor_62 wd1013 YX3_addPart ⟨wd1014, wd1015⟩ (mk_get (tc169 hC)) rfl rfl (s_X3_addPart g hT I13 hC b40 16 hb40 (Or.inl (by omega)) kg) rfl rfl (Nat.le_of_ble_eq_true rfl) (by decide) rfl rfl 65 rfl (fun rv h1 q41 => ?_)
            obtain ⟨m42, n43, r46, rfl, rfl, I44, K45, qr46, rm42⟩ := q41
            replace rm42 : PXE T r46 m42 := rm42
            have or46 := rn.ro or20 qr46
            have R := RX_ro R qr46
            have zR := R.2.2.2.2.1.1
            have zR2 := R.2.2.2.2.2.1
            have hc2 : r46 2 = .ref 169 := or46.1
            have K45c := K45
            have K45 := K14.trans (K45.sub (by exact WX_wl (by decide)))
            show PV _ _ _ _ _ _ _ 65 [.ref 0, .int x0, .ref 169, .int y10] [] _
            refine iv_inc (M := mX11_coverFor) (C := 1) dX11_coverFor_65 68 rfl rfl (by decide) rfl rfl (by decide) (by omega) (by omega) (fun v47 ev47 => ?_)
            show PV _ _ _ _ _ _ _ 68 [.ref 0, .int x0, .ref 169, .int v47] [] _
            refine pv_goto (M := mX11_coverFor) (tgt := 41) dX11_coverFor_68 (by decide) ?_
            have kb : PXE T r46 m42 := by first | exact kg | exact rm42
            exact ih17 v47 m42 n43 r46 (by first | omega | assumption | exact (iv_rng _).2 | exact (iv_rng _).1 | decide) (by first | omega | assumption | exact (iv_rng _).2 | exact (iv_rng _).1 | decide) kb I44 K45 or46 (by omega)
    have z49 : (0 : Int32).toInt = 0 := by decide
    exact lp16 (((8 - 0) : Int).toNat + 1) 0 m4 n5 r8 (by first | omega | assumption | exact (iv_rng _).2 | exact (iv_rng _).1 | decide) (by first | omega | assumption | exact (iv_rng _).2 | exact (iv_rng _).1 | decide) kE0 I6 K7 or8 (by omega)
