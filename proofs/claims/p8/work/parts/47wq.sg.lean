set_option maxHeartbeats 2000000 in
set_option maxRecDepth 20000 in
theorem s_X11_strikeGap_va (g : pv_G) {T : List mv_T} {m : Nat → Nat → Int32} {n : Nat → Nat → Int64} {r : Nat → Value} {la lb : Nat} (hT : TX T) (I : IV BB m) (R : RX T r la lb) (x0 : Int32) (hl0 : 0 ≤ x0.toInt) (hh0 : x0.toInt ≤ 7) (x1 : Int32) (hl1 : 0 ≤ x1.toInt) (hh1 : x1.toInt ≤ 40) (x2 : Int32) (hl2 : 0 ≤ x2.toInt) (hh2 : x2.toInt ≤ 40) (x3 : Int32) (hl3 : 0 ≤ x3.toInt) (hh3 : x3.toInt ≤ 7) (hp0 : RST m (4 + 7 * x0.toInt.toNat)) (hp1 : x2.toInt ≤ (m ((4 + 7 * x0.toInt.toNat) + 3) 1).toInt) (hp2 : (m 97 6).toInt + ((gp x1.toInt.toNat x2.toInt.toNat).length : Int) ≤ 60) : PM g mX11_strikeGap yX11_strikeGap (sqV T BB wS3 r m (fun m' => SQc (4 + 7 * x0.toInt.toNat) x0.toInt.toNat x3 (fun i => m 109 i) (gp x1.toInt.toNat x2.toInt.toNat) m m')) 4 0 0 [.ref 0, .int x0, .int x1, .int x2, .int x3] (mk T m n r) := by
  have Kp : fr wS3 m m := fr.rf
  have R0 := R
  have zR := R.2.2.2.2.1.1
  have zR2 := R.2.2.2.2.2.1
  refine PM.of 2 (lo := [.ref 0, .int x0, .int x1, .int x2, .int x3, pv_U, pv_U]) rfl (by decide) rfl rfl (Nat.le_of_ble_eq_true rfl) ?_
  refine pv_iload_n (M := mX11_strikeGap) 3 dX11_strikeGap_0 1 rfl rfl rfl ?_
  refine pv_istore (M := mX11_strikeGap) (lo2 := [.ref 0, .int x0, .int x1, .int x2, .int x3, .int x2, pv_U]) dX11_strikeGap_1 3 rfl (by decide) rfl rfl ?_
  have lp7 : ∀ (fuel6 : Nat) (y1 : Int32) (m2 : Nat → Nat → Int32) (n3 : Nat → Nat → Int64), (-9 ≤ y1.toInt) → (y1.toInt ≤ 40) → (y1.toInt ≤ x2.toInt) → (SGI m m2 (4 + 7 * x0.toInt.toNat) x0.toInt.toNat x3 (fun i => m 109 i) x1.toInt.toNat x2.toInt.toNat y1.toInt.toNat) → IV BB m2 → fr wS3 m m2 → ((y1.toInt + 10) : Int).toNat < fuel6 → PV none g mX11_strikeGap (sqV T BB wS3 r m (fun m' => SQc (4 + 7 * x0.toInt.toNat) x0.toInt.toNat x3 (fun i => m 109 i) (gp x1.toInt.toNat x2.toInt.toNat) m m')) 4 0 0 3 [.ref 0, .int x0, .int x1, .int x2, .int x3, .int y1, pv_U] [] (mk T m2 n3 r) := by
    intro fuel6
    induction fuel6 with
    | zero => intro y1 m2 n3 b9 b10 b11 b12 I4 K5 z13; omega
    | succ fuel6 ih8 =>
      intro y1 m2 n3 b9 b10 b11 b12 I4 K5 z13
      have kgG := (show SGI m m2 (4 + 7 * x0.toInt.toNat) x0.toInt.toNat x3 (fun i => m 109 i) x1.toInt.toNat x2.toInt.toNat y1.toInt.toNat by assumption)
      refine pv_iload (M := mX11_strikeGap) dX11_strikeGap_3 5 rfl rfl ?_
      refine pv_iload_n (M := mX11_strikeGap) 2 dX11_strikeGap_5 6 rfl rfl rfl ?_
      refine pv_icmp_le (M := mX11_strikeGap) (tgt := 41) dX11_strikeGap_6 9 rfl (by decide) (fun c15 => ?_) (fun c15 => ?_)
      · have c15 := iv_le (X := y1.toInt) (Y := x1.toInt) c15 rfl rfl
        exact pv_vret (M := mX11_strikeGap) dX11_strikeGap_41 rfl ⟨_, _, rfl, rfl, I4, K5, (SGI_e kgG (by omega))⟩
      · have c15 := iv_nle (X := y1.toInt) (Y := x1.toInt) c15 rfl rfl
        refine pv_iload_n (M := mX11_strikeGap) 2 dX11_strikeGap_9 10 rfl rfl rfl ?_
        refine pv_iload (M := mX11_strikeGap) dX11_strikeGap_10 12 rfl rfl ?_
        refine pv_bipush (M := mX11_strikeGap) (v := 9) dX11_strikeGap_12 14 rfl (by decide) ?_
        refine iv_isub (M := mX11_strikeGap) (X := y1.toInt) (Y := 9) dX11_strikeGap_14 15 rfl rfl (by decide) (by omega) (by omega) (fun v16 ev16 => ?_)
        refine iv_max (M := mX11_strikeGap) (X := x1.toInt) (Y := v16.toInt) dX11_strikeGap_15 wd883 Wmmax (Nat.le_of_ble_eq_true rfl) (by decide) rfl rfl 18 rfl (fun v17 ev17 fv17 gv17 => ?_)
        refine pv_istore (M := mX11_strikeGap) (lo2 := [.ref 0, .int x0, .int x1, .int x2, .int x3, .int y1, .int v17]) dX11_strikeGap_18 20 rfl (by decide) rfl rfl ?_
        refine pv_aload_n (M := mX11_strikeGap) 0 dX11_strikeGap_20 21 rfl rfl rfl ?_
        refine pv_iload_n (M := mX11_strikeGap) 1 dX11_strikeGap_21 22 rfl rfl rfl ?_
        refine pv_iload (M := mX11_strikeGap) dX11_strikeGap_22 24 rfl rfl ?_
        refine pv_iload (M := mX11_strikeGap) dX11_strikeGap_24 26 rfl rfl ?_
        refine pv_iload (M := mX11_strikeGap) dX11_strikeGap_26 28 rfl rfl ?_
        refine iv_isub (M := mX11_strikeGap) (X := y1.toInt) (Y := v17.toInt) dX11_strikeGap_28 29 rfl rfl rfl (by omega) (by omega) (fun v18 ev18 => ?_)
        refine pv_iload (M := mX11_strikeGap) dX11_strikeGap_29 31 rfl rfl ?_
        have k31s : v17.toInt + v18.toInt ≤ (m2 ((4 + 7 * x0.toInt.toNat) + 3) 1).toInt := by have q := kgG.2.2; omega
        have k31r := SGI_room kgG (by omega) hp2
        have k31n : v18.toInt = y1.toInt - v17.toInt := by omega
        have KQ109 : ∀ j, m2 109 j = m 109 j := fun j => K5 109 j rfl
        refine pv_callv (M := mX11_strikeGap) (as := [.int x0, .int v17, .int v18, .int x3]) (st := []) (kc2 := 0) (ks2 := 0) dX11_strikeGap_31 wd777 YX11_writeStroke ⟨wd779, wd23⟩ (mk_get (tl0 hT)) rfl rfl (s_X11_writeStroke_va g hT I4 R x0 (by omega) (by omega) v17 (by omega) (by omega) v18 (by omega) (by omega) x3 k31s kgG.2.1 k31r) rfl rfl (Nat.le_of_ble_eq_true rfl) (by decide) rfl rfl 34 rfl (fun rv h1 q23 => ?_)
        obtain ⟨m24, n25, v28, rfl, rfl, I26, K27, pv28, qv28, rv28⟩ := q23
        replace rv28 : v28 = smc (fun i => m2 109 (v17.toInt.toNat + i)) v18.toInt.toNat ∧ STKc m2 m24 (4 + 7 * x0.toInt.toNat) x0.toInt.toNat v17.toInt.toNat v18.toInt.toNat x3 v28 := rv28
        have K27c := K27
        have K27 := K5.trans (K27.sub (fun _ _ q => q))
        show PV _ _ _ _ _ _ _ 34 [.ref 0, .int x0, .int x1, .int x2, .int x3, .int y1, .int v17] [.int v28] _
        have k34 := rv28
        rw [k31n] at k34
        have k34c := k34.1.trans (smc_eq (f := fun i => m 109 (v17.toInt.toNat + i)) _ (fun i _ => (by show m2 109 _ = m 109 _; exact KQ109 _)))
        have k34g : SGI m m24 (4 + 7 * x0.toInt.toNat) x0.toInt.toNat x3 (fun i => m 109 i) x1.toInt.toNat x2.toInt.toNat (y1.toInt - 9).toNat := SGI_s kgG (by omega) (p := v17.toInt.toNat) (n := (y1.toInt - v17.toInt).toNat) (by omega) (by omega) k34.2 k34c K27c (by omega) (by omega) (by omega)
        refine pv_pop (M := mX11_strikeGap) dX11_strikeGap_34 35 rfl rfl ?_
        refine iv_inc (M := mX11_strikeGap) (C := (-9)) dX11_strikeGap_35 38 rfl rfl (by decide) rfl rfl (by decide) (by omega) (by omega) (fun v33 ev33 => ?_)
        show PV _ _ _ _ _ _ _ 38 [.ref 0, .int x0, .int x1, .int x2, .int x3, .int v33, .int v17] [] _
        refine pv_goto (M := mX11_strikeGap) (tgt := 3) dX11_strikeGap_38 (by decide) ?_
        refine pv_fg (lo2 := [.ref 0, .int x0, .int x1, .int x2, .int x3, .int v33, pv_U]) ⟨Or.inr rfl, ⟨Or.inr rfl, ⟨Or.inr rfl, ⟨Or.inr rfl, ⟨Or.inr rfl, ⟨Or.inr rfl, ⟨Or.inl rfl, trivial⟩⟩⟩⟩⟩⟩⟩ ?_
        have kbG : SGI m m24 (4 + 7 * x0.toInt.toNat) x0.toInt.toNat x3 (fun i => m 109 i) x1.toInt.toNat x2.toInt.toNat v33.toInt.toNat := by rw [show v33.toInt.toNat = (y1.toInt - 9).toNat by omega]; exact k34g
        exact ih8 v33 m24 n25 (by first | omega | assumption | exact (iv_rng _).2 | exact (iv_rng _).1 | decide) (by first | omega | assumption | exact (iv_rng _).2 | exact (iv_rng _).1 | decide) (by first | omega | assumption | (show v33.toInt ≤ x2.toInt; omega) | decide) kbG I26 K27 (by omega)
  exact lp7 (((x2.toInt + 10) : Int).toNat + 1) x2 m n (by first | omega | assumption | exact (iv_rng _).2 | exact (iv_rng _).1 | decide) (by first | omega | assumption | exact (iv_rng _).2 | exact (iv_rng _).1 | decide) (by first | omega | assumption | (show x2.toInt ≤ x2.toInt; omega) | decide) (SGI_0 hp0 (by omega)) I Kp (by omega)

set_option maxHeartbeats 2000000 in
set_option maxRecDepth 20000 in
theorem s_X4_strokesFor_v9 (g : pv_G) {T : List mv_T} {m : Nat → Nat → Int32} {n : Nat → Nat → Int64} {r : Nat → Value} (hT : TX T) (I : IV BB m) (x0 : Int32) (hl0 : 0 ≤ x0.toInt) (hh0 : x0.toInt ≤ 40) : PM g mX4_strokesFor yX4_strokesFor (sqP (mk T m n r) 0 5 (fun v => v.toInt = (x0.toInt + 8) / 9)) 1 0 0 [.int x0, .int 9] (mk T m n r) := by
  have Kp : fr (wl []) m m := fr.rf
  refine PM.of 0 (lo := [.int x0, .int 9]) rfl (by decide) rfl rfl (Nat.le_of_ble_eq_true rfl) ?_
  refine pv_iload_n (M := mX4_strokesFor) 1 dX4_strokesFor_0 1 rfl rfl rfl ?_
  refine pv_iconst (M := mX4_strokesFor) (v := 1) dX4_strokesFor_1 2 rfl (by decide) ?_
  refine pv_icmp_ge (M := mX4_strokesFor) (tgt := 10) dX4_strokesFor_2 5 rfl (by decide) (fun _ => ?_) (fun q => absurd (by decide) q)
  refine pv_iload_n (M := mX4_strokesFor) 0 dX4_strokesFor_10 11 rfl rfl rfl ?_
  refine pv_iload_n (M := mX4_strokesFor) 1 dX4_strokesFor_11 12 rfl rfl rfl ?_
  refine iv_iadd (M := mX4_strokesFor) (X := x0.toInt) (Y := 9) dX4_strokesFor_12 13 rfl rfl (by decide) (by omega) (by omega) (fun v2 ev2 => ?_)
  refine pv_iconst (M := mX4_strokesFor) (v := 1) dX4_strokesFor_13 14 rfl (by decide) ?_
  refine iv_isub (M := mX4_strokesFor) (X := v2.toInt) (Y := 1) dX4_strokesFor_14 15 rfl rfl (by decide) (by omega) (by omega) (fun v3 ev3 => ?_)
  refine pv_iload_n (M := mX4_strokesFor) 1 dX4_strokesFor_15 16 rfl rfl rfl ?_
  refine iv_idiv (M := mX4_strokesFor) (X := v3.toInt) (Y := 9) dX4_strokesFor_16 17 rfl rfl (by decide) (by omega) (by omega) (fun v4 ev4 => ?_)
  exact pv_iret (M := mX4_strokesFor) dX4_strokesFor_17 rfl rfl ⟨_, rfl, rfl, by omega, by omega, (by first | omega | assumption)⟩

set_option maxHeartbeats 2000000 in
set_option maxRecDepth 20000 in
theorem s_X11_countGapStrokes_va (g : pv_G) {T : List mv_T} {m : Nat → Nat → Int32} {n : Nat → Nat → Int64} {r : Nat → Value} {la lb : Nat} (hT : TX T) (I : IV BB m) (R : RX T r la lb) (x0 : Int32) (hl0 : 1 ≤ x0.toInt) (hh0 : x0.toInt ≤ 16) (x1 : Int32) (hl1 : 0 ≤ x1.toInt) (hh1 : x1.toInt ≤ 40) (hp0 : ∀ j : Nat, (j : Int) < x0.toInt → 0 ≤ (m 110 j).toInt ∧ (m 110 j).toInt < x1.toInt) (hp1 : ∀ j : Nat, (j : Int) + 1 < x0.toInt → (m 110 j).toInt < (m 110 (j + 1)).toInt) : PM g mX11_countGapStrokes yX11_countGapStrokes (sqP (mk T m n r) 0 100 (fun v => v.toInt = (dn (fun k => (m 110 k).toInt.toNat) x0.toInt.toNat x1.toInt.toNat).length)) 2 0 0 [.ref 0, .int x0, .int x1] (mk T m n r) := by
  have Kp : fr (wl []) m m := fr.rf
  have R0 := R
  have zR := R.2.2.2.2.1.1
  have zR2 := R.2.2.2.2.2.1
  refine PM.of 3 (lo := [.ref 0, .int x0, .int x1, pv_U, pv_U, pv_U]) rfl (by decide) rfl rfl (Nat.le_of_ble_eq_true rfl) ?_
  refine pv_iconst (M := mX11_countGapStrokes) (v := 0) dX11_countGapStrokes_0 1 rfl (by decide) ?_
  refine pv_istore_n (M := mX11_countGapStrokes) 3 (lo2 := [.ref 0, .int x0, .int x1, .int 0, pv_U, pv_U]) dX11_countGapStrokes_1 2 rfl rfl (by decide) rfl rfl ?_
  refine pv_iconst (M := mX11_countGapStrokes) (v := 0) dX11_countGapStrokes_2 3 rfl (by decide) ?_
  refine pv_istore (M := mX11_countGapStrokes) (lo2 := [.ref 0, .int x0, .int x1, .int 0, .int 0, pv_U]) dX11_countGapStrokes_3 5 rfl (by decide) rfl rfl ?_
  refine pv_iconst (M := mX11_countGapStrokes) (v := 0) dX11_countGapStrokes_5 6 rfl (by decide) ?_
  refine pv_istore (M := mX11_countGapStrokes) (lo2 := [.ref 0, .int x0, .int x1, .int 0, .int 0, .int 0]) dX11_countGapStrokes_6 8 rfl (by decide) rfl rfl ?_
  have lp9 : ∀ (fuel8 : Nat) (y1 : Int32) (y2 : Int32) (y3 : Int32), (0 ≤ y1.toInt) → (y1.toInt ≤ 90) → (0 ≤ y2.toInt) → (y2.toInt ≤ 40) → (0 ≤ y3.toInt) → (y3.toInt ≤ 16) → (y3.toInt ≤ x0.toInt) → (y1.toInt ≤ 5 * y3.toInt) → (y3.toInt = 0 → y2.toInt = 0) → (0 < y3.toInt → y2.toInt = (m 110 (y3.toInt.toNat - 1)).toInt + 1) → (CGI (fun k => (m 110 k).toInt.toNat) y3.toInt.toNat y1.toInt y2.toInt) → ((16 - y3.toInt) : Int).toNat < fuel8 → PV none g mX11_countGapStrokes (sqP (mk T m n r) 0 100 (fun v => v.toInt = (dn (fun k => (m 110 k).toInt.toNat) x0.toInt.toNat x1.toInt.toNat).length)) 2 0 0 8 [.ref 0, .int x0, .int x1, .int y1, .int y2, .int y3] [] (mk T m n r) := by
    intro fuel8
    induction fuel8 with
    | zero => intro y1 y2 y3 b11 b12 b13 b14 b15 b16 b17 b18 b19 b20 b21 z22; omega
    | succ fuel8 ih10 =>
      intro y1 y2 y3 b11 b12 b13 b14 b15 b16 b17 b18 b19 b20 b21 z22
      have kgG := (show CGI (fun k => (m 110 k).toInt.toNat) y3.toInt.toNat y1.toInt y2.toInt by assumption)
      have kI := hp0 y3.toInt.toNat
      have kJ := hp0 (y3.toInt.toNat - 1)
      have kU := hp1 (y3.toInt.toNat - 1)
      refine pv_iload (M := mX11_countGapStrokes) dX11_countGapStrokes_8 10 rfl rfl ?_
      refine pv_iload_n (M := mX11_countGapStrokes) 1 dX11_countGapStrokes_10 11 rfl rfl rfl ?_
      refine pv_icmp_ge (M := mX11_countGapStrokes) (tgt := 55) dX11_countGapStrokes_11 14 rfl (by decide) (fun c27 => ?_) (fun c27 => ?_)
      · have c27 := iv_le (X := x0.toInt) (Y := y3.toInt) c27 rfl rfl
        refine pv_iload_n (M := mX11_countGapStrokes) 3 dX11_countGapStrokes_55 56 rfl rfl rfl ?_
        refine pv_iload_n (M := mX11_countGapStrokes) 2 dX11_countGapStrokes_56 57 rfl rfl rfl ?_
        refine pv_iload (M := mX11_countGapStrokes) dX11_countGapStrokes_57 59 rfl rfl ?_
        have kJ2 := kJ (by omega)
        refine iv_isub (M := mX11_countGapStrokes) (X := x1.toInt) (Y := y2.toInt) dX11_countGapStrokes_59 60 rfl rfl rfl (by omega) (by omega) (fun v29 ev29 => ?_)
        refine pv_bipush (M := mX11_countGapStrokes) (v := 9) dX11_countGapStrokes_60 62 rfl (by decide) ?_
        have z30 : (9 : Int32).toInt = 9 := by decide
        refine pv_calls (M := mX11_countGapStrokes) (as := [.int v29, .int 9]) (st := [.int y1]) (kc2 := 0) (ks2 := 0) dX11_countGapStrokes_62 wd875 YX4_strokesFor wd876 (s_X4_strokesFor_v9 g hT I v29 (by omega) (by omega)) rfl rfl (Nat.le_of_ble_eq_true rfl) (by decide) rfl rfl 65 rfl (fun rv h1 q31 => ?_)
        obtain ⟨v32, rfl, rfl, pv32, qv32, rv32⟩ := q31
        replace rv32 : v32.toInt = (v29.toInt + 8) / 9 := by have q_ := rv32; (try rw [z30] at q_); exact q_
        show PV _ _ _ _ _ _ _ 65 [.ref 0, .int x0, .int x1, .int y1, .int y2, .int y3] [.int v32, .int y1] _
        have k65 := rv32
        refine iv_iadd (M := mX11_countGapStrokes) (X := y1.toInt) (Y := v32.toInt) dX11_countGapStrokes_65 66 rfl rfl rfl (by omega) (by omega) (fun v34 ev34 => ?_)
        exact pv_iret (M := mX11_countGapStrokes) dX11_countGapStrokes_66 rfl rfl ⟨_, rfl, rfl, by omega, by omega, (by have q := kgG; rw [show y3.toInt.toNat = x0.toInt.toNat by omega] at q; exact CGI_e q (by omega) (g := v34.toInt - y1.toInt) (by omega) (by omega) (by omega))⟩
      · have c27 := iv_nle (X := x0.toInt) (Y := y3.toInt) c27 rfl rfl
        refine pv_iload_n (M := mX11_countGapStrokes) 3 dX11_countGapStrokes_14 15 rfl rfl rfl ?_
        refine pv_aload_n (M := mX11_countGapStrokes) 0 dX11_countGapStrokes_15 16 rfl rfl rfl ?_
        refine mv_get (M := mX11_countGapStrokes) (v := .ref 107) dX11_countGapStrokes_16 FX11 10 wd417 (by decide) (tl0 hT) rfl rfl 19 rfl ?_
        refine mv_get (M := mX11_countGapStrokes) (v := .ref 110) dX11_countGapStrokes_19 FX2 2 wd351 (by decide) (tl107 hT) rfl rfl 22 rfl ?_
        refine pv_iload (M := mX11_countGapStrokes) dX11_countGapStrokes_22 24 rfl rfl ?_
        refine iv_iald (M := mX11_countGapStrokes) (X := y3.toInt) (l1 := 0) (l2 := 39) dX11_countGapStrokes_24 (tl110 hT) rfl (by omega) (by omega) I (fun _ => rfl) 25 rfl (fun v35 ev35 pv35 qv35 => ?_)
        have k25 : v35.toInt = (m 110 y3.toInt.toNat).toInt := congrArg Int32.toInt ev35
        have kI2 := kI (by omega)
        have kfr : y2.toInt ≤ v35.toInt := by by_cases z : y3.toInt = 0; (omega); (have y := kU (by omega); rw [show y3.toInt.toNat - 1 + 1 = y3.toInt.toNat by omega] at y; omega)
        refine pv_iload (M := mX11_countGapStrokes) dX11_countGapStrokes_25 27 rfl rfl ?_
        refine iv_isub (M := mX11_countGapStrokes) (X := v35.toInt) (Y := y2.toInt) dX11_countGapStrokes_27 28 rfl rfl rfl (by omega) (by omega) (fun v39 ev39 => ?_)
        refine pv_bipush (M := mX11_countGapStrokes) (v := 9) dX11_countGapStrokes_28 30 rfl (by decide) ?_
        have z40 : (9 : Int32).toInt = 9 := by decide
        refine pv_calls (M := mX11_countGapStrokes) (as := [.int v39, .int 9]) (st := [.int y1]) (kc2 := 0) (ks2 := 0) dX11_countGapStrokes_30 wd875 YX4_strokesFor wd876 (s_X4_strokesFor_v9 g hT I v39 (by omega) (by omega)) rfl rfl (Nat.le_of_ble_eq_true rfl) (by decide) rfl rfl 33 rfl (fun rv h1 q41 => ?_)
        obtain ⟨v42, rfl, rfl, pv42, qv42, rv42⟩ := q41
        replace rv42 : v42.toInt = (v39.toInt + 8) / 9 := by have q_ := rv42; (try rw [z40] at q_); exact q_
        show PV _ _ _ _ _ _ _ 33 [.ref 0, .int x0, .int x1, .int y1, .int y2, .int y3] [.int v42, .int y1] _
        have k33 := rv42
        refine iv_iadd (M := mX11_countGapStrokes) (X := y1.toInt) (Y := v42.toInt) dX11_countGapStrokes_33 34 rfl rfl rfl (by omega) (by omega) (fun v44 ev44 => ?_)
        refine pv_istore_n (M := mX11_countGapStrokes) 3 (lo2 := [.ref 0, .int x0, .int x1, .int v44, .int y2, .int y3]) dX11_countGapStrokes_34 35 rfl rfl (by decide) rfl rfl ?_
        refine pv_aload_n (M := mX11_countGapStrokes) 0 dX11_countGapStrokes_35 36 rfl rfl rfl ?_
        refine mv_get (M := mX11_countGapStrokes) (v := .ref 107) dX11_countGapStrokes_36 FX11 10 wd417 (by decide) (tl0 hT) rfl rfl 39 rfl ?_
        refine mv_get (M := mX11_countGapStrokes) (v := .ref 110) dX11_countGapStrokes_39 FX2 2 wd351 (by decide) (tl107 hT) rfl rfl 42 rfl ?_
        refine pv_iload (M := mX11_countGapStrokes) dX11_countGapStrokes_42 44 rfl rfl ?_
        refine iv_iald (M := mX11_countGapStrokes) (X := y3.toInt) (l1 := 0) (l2 := 39) dX11_countGapStrokes_44 (tl110 hT) rfl (by omega) (by omega) I (fun _ => rfl) 45 rfl (fun v45 ev45 pv45 qv45 => ?_)
        have k45 : v45.toInt = (m 110 y3.toInt.toNat).toInt := congrArg Int32.toInt ev45
        refine pv_iconst (M := mX11_countGapStrokes) (v := 1) dX11_countGapStrokes_45 46 rfl (by decide) ?_
        refine iv_iadd (M := mX11_countGapStrokes) (X := v45.toInt) (Y := 1) dX11_countGapStrokes_46 47 rfl rfl (by decide) (by omega) (by omega) (fun v47 ev47 => ?_)
        refine pv_istore (M := mX11_countGapStrokes) (lo2 := [.ref 0, .int x0, .int x1, .int v44, .int v47, .int y3]) dX11_countGapStrokes_47 49 rfl (by decide) rfl rfl ?_
        refine iv_inc (M := mX11_countGapStrokes) (C := 1) dX11_countGapStrokes_49 52 rfl rfl (by decide) rfl rfl (by decide) (by omega) (by omega) (fun v48 ev48 => ?_)
        show PV _ _ _ _ _ _ _ 52 [.ref 0, .int x0, .int x1, .int v44, .int v47, .int v48] [] _
        refine pv_goto (M := mX11_countGapStrokes) (tgt := 8) dX11_countGapStrokes_52 (by decide) ?_
        have kbu : 0 < v48.toInt → v47.toInt = (m 110 (v48.toInt.toNat - 1)).toInt + 1 := fun _ => by rw [show v48.toInt.toNat - 1 = (y3.toInt).toNat by omega]; omega
        have kbG : CGI (fun k => (m 110 k).toInt.toNat) v48.toInt.toNat v44.toInt v47.toInt := CGI_s kgG (by omega) (g := v44.toInt - y1.toInt) (by show _ = (((m 110 (y3.toInt).toNat).toInt.toNat : Int) - _ + 8) / 9; omega) (by show 0 ≤ ((m 110 (y3.toInt).toNat).toInt.toNat : Int) - _; omega) (by omega) (by show _ = ((m 110 (y3.toInt).toNat).toInt.toNat : Int) + 1; omega)
        exact ih10 v44 v47 v48 (by first | omega | assumption | exact (iv_rng _).2 | exact (iv_rng _).1 | decide) (by first | omega | assumption | exact (iv_rng _).2 | exact (iv_rng _).1 | decide) (by first | omega | assumption | exact (iv_rng _).2 | exact (iv_rng _).1 | decide) (by first | omega | assumption | exact (iv_rng _).2 | exact (iv_rng _).1 | decide) (by first | omega | assumption | exact (iv_rng _).2 | exact (iv_rng _).1 | decide) (by first | omega | assumption | exact (iv_rng _).2 | exact (iv_rng _).1 | decide) (by first | omega | assumption | (show v48.toInt ≤ x0.toInt; omega) | decide) (by first | omega | assumption | (show v44.toInt ≤ 5 * v48.toInt; omega) | decide) (by first | omega | assumption | (show v48.toInt = 0 → v47.toInt = 0; omega) | decide) kbu kbG (by omega)
  have z51 : (0 : Int32).toInt = 0 := by decide
  have z52 : (0 : Int32).toInt = 0 := by decide
  have z53 : (0 : Int32).toInt = 0 := by decide
  exact lp9 (((16 - 0) : Int).toNat + 1) 0 0 0 (by first | omega | assumption | exact (iv_rng _).2 | exact (iv_rng _).1 | decide) (by first | omega | assumption | exact (iv_rng _).2 | exact (iv_rng _).1 | decide) (by first | omega | assumption | exact (iv_rng _).2 | exact (iv_rng _).1 | decide) (by first | omega | assumption | exact (iv_rng _).2 | exact (iv_rng _).1 | decide) (by first | omega | assumption | exact (iv_rng _).2 | exact (iv_rng _).1 | decide) (by first | omega | assumption | exact (iv_rng _).2 | exact (iv_rng _).1 | decide) (by first | omega | assumption | (show 0 ≤ x0.toInt; omega) | decide) (by first | omega | assumption | (show 0 ≤ 5 * 0; omega) | decide) (by first | omega | assumption | (show 0 = 0 → 0 = 0; omega) | decide) (fun q => by rw [Int32.toInt_zero] at q; omega) (Or.inl ⟨by rw [Int32.toInt_zero]; rfl, by rw [Int32.toInt_zero], by rw [Int32.toInt_zero]⟩) (by omega)

set_option maxHeartbeats 2000000 in
set_option maxRecDepth 20000 in
theorem s_X11_done_va (g : pv_G) {T : List mv_T} {m : Nat → Nat → Int32} {n : Nat → Nat → Int64} {r : Nat → Value} {la lb : Nat} (hT : TX T) (I : IV BB m) (R : RX T r la lb) (x0 : Int32) (x1 : Int32) (x2 : Int32) (t : Int → Int) (hp0 : RSA m) (hp1 : LAWc m la t (m la 7).toInt.toNat) : PM g mX11_done yX11_done (sqI T BB wO r m (-2147483648) 2147483647 (fun m' v => DONc ((0 ≤ x0.toInt ∧ x0.toInt < (m 0 2).toInt) ∧ (ddv m x1).toInt = 1 ∧ 0 ≤ x2.toInt ∧ x2.toInt ≤ 7) m m' la t x0.toInt.toNat x2 (m (4 + 7 * x0.toInt.toNat + 4)) (m (62 + 2 * x1.toInt.toNat)) (m (4 + 7 * x0.toInt.toNat + 3) 1).toInt.toNat (m (61 + 2 * x1.toInt.toNat) 1).toInt.toNat v.toInt)) 7 0 0 [.ref 0, .int x0, .int x1, .int x2] (mk T m n r) := by
  have Kp : fr wO m m := fr.rf
  have R0 := R
  have zR := R.2.2.2.2.1.1
  have zR2 := R.2.2.2.2.2.1
  have z139 : 0 ≤ (m 97 6).toInt ∧ (m 97 6).toInt ≤ 60 := I 97 6
  refine PM.of 4 (lo := [.ref 0, .int x0, .int x1, .int x2, pv_U, pv_U, pv_U, pv_U]) rfl (by decide) rfl rfl (Nat.le_of_ble_eq_true rfl) ?_
  refine pv_aload_n (M := mX11_done) 0 dX11_done_0 1 rfl rfl rfl ?_
  refine pv_iload_n (M := mX11_done) 1 dX11_done_1 2 rfl rfl rfl ?_
  refine pv_callv (M := mX11_done) (as := [.int x0]) (st := []) (kc2 := 0) (ks2 := 0) dX11_done_2 wd700 YX11_isBlank ⟨wd702, wd16⟩ (mk_get (tl0 hT)) rfl rfl (s_X11_isBlank_vx g hT I R x0) rfl rfl (Nat.le_of_ble_eq_true rfl) (by decide) rfl rfl 5 rfl (fun rv h1 q1 => ?_)
  obtain ⟨v2, rfl, rfl, pv2, qv2, rv2⟩ := q1
  replace rv2 : (v2 = 0 ∨ (0 ≤ x0.toInt ∧ x0.toInt ≤ 7)) ∧ ((v2.toInt = 1 ∧ 0 ≤ x0.toInt ∧ x0.toInt < (m 0 2).toInt) ∨ (v2.toInt = 0 ∧ (x0.toInt < 0 ∨ (m 0 2).toInt ≤ x0.toInt))) := rv2
  show PV _ _ _ _ _ _ _ 5 [.ref 0, .int x0, .int x1, .int x2, pv_U, pv_U, pv_U, pv_U] [.int v2] _
  have k5 := rv2.2
  refine pv_if_eq (M := mX11_done) (tgt := 23) dX11_done_5 8 rfl (by decide) (fun c4 => ?_) (fun c4 => ?_)
  · have c4 := iv_eq (X := v2.toInt) (Y := 0) c4 rfl (by decide)
    refine pv_iconst (M := mX11_done) (v := (-1)) dX11_done_23 24 rfl (by decide) ?_
    have z5 : ((-1) : Int32).toInt = (-1) := by decide
    exact pv_iret (M := mX11_done) dX11_done_24 rfl rfl ⟨_, _, _, rfl, rfl, I, Kp, by decide, by decide, (Or.inl ⟨by omega, by decide, fr.rf⟩)⟩
  · have pc4 := rv2.1.resolve_left c4
    have c4 := iv_ne (X := v2.toInt) (Y := 0) c4 rfl (by decide)
    refine pv_aload_n (M := mX11_done) 0 dX11_done_8 9 rfl rfl rfl ?_
    refine pv_iload_n (M := mX11_done) 2 dX11_done_9 10 rfl rfl rfl ?_
    refine pv_callv (M := mX11_done) (as := [.int x1]) (st := []) (kc2 := 0) (ks2 := 0) dX11_done_10 wd828 YX11_isDeed ⟨wd830, wd25⟩ (mk_get (tl0 hT)) rfl rfl (s_X11_isDeed g hT I R x1) rfl rfl (Nat.le_of_ble_eq_true rfl) (by decide) rfl rfl 13 rfl (fun rv h1 q6 => ?_)
    obtain ⟨v7, rfl, rfl, pv7, qv7, rv7⟩ := q6
    replace rv7 : (v7 = 0 ∨ (0 ≤ x1.toInt ∧ x1.toInt ≤ 7)) ∧ v7 = ddv m x1 := rv7
    show PV _ _ _ _ _ _ _ 13 [.ref 0, .int x0, .int x1, .int x2, pv_U, pv_U, pv_U, pv_U] [.int v7] _
    have k13 := rv7.2
    have k13d : (ddv m x1).toInt = v7.toInt := congrArg Int32.toInt rv7.2.symm
    refine pv_if_eq (M := mX11_done) (tgt := 23) dX11_done_13 16 rfl (by decide) (fun c10 => ?_) (fun c10 => ?_)
    · have c10 := iv_eq (X := v7.toInt) (Y := 0) c10 rfl (by decide)
      refine pv_iconst (M := mX11_done) (v := (-1)) dX11_done_23 24 rfl (by decide) ?_
      have z11 : ((-1) : Int32).toInt = (-1) := by decide
      exact pv_iret (M := mX11_done) dX11_done_24 rfl rfl ⟨_, _, _, rfl, rfl, I, Kp, by decide, by decide, (Or.inl ⟨by omega, by decide, fr.rf⟩)⟩
    · have pc10 := rv7.1.resolve_left c10
      have c10 := iv_ne (X := v7.toInt) (Y := 0) c10 rfl (by decide)
      refine pv_iload_n (M := mX11_done) 3 dX11_done_16 17 rfl rfl rfl ?_
      refine pv_calls (M := mX11_done) (as := [.int x2]) (st := []) (kc2 := 0) (ks2 := 0) dX11_done_17 wd716 YX11_isClerk wd717 (s_X11_isClerk_va g hT I x2) rfl rfl (Nat.le_of_ble_eq_true rfl) (by decide) rfl rfl 20 rfl (fun rv h1 q12 => ?_)
      obtain ⟨v13, rfl, rfl, pv13, qv13, rv13⟩ := q12
      replace rv13 : (v13 = 0 ∨ (0 ≤ x2.toInt ∧ x2.toInt ≤ 7)) ∧ ((v13.toInt = 1 ∧ 0 ≤ x2.toInt ∧ x2.toInt ≤ 7) ∨ (v13.toInt = 0 ∧ (x2.toInt < 0 ∨ 7 < x2.toInt))) := rv13
      show PV _ _ _ _ _ _ _ 20 [.ref 0, .int x0, .int x1, .int x2, pv_U, pv_U, pv_U, pv_U] [.int v13] _
      have k20 := rv13.2
      refine pv_if_ne (M := mX11_done) (tgt := 25) dX11_done_20 23 rfl (by decide) (fun c15 => ?_) (fun c15 => ?_)
      · have pc15 := rv13.1.resolve_left c15
        have c15 := iv_ne (X := v13.toInt) (Y := 0) c15 rfl (by decide)
        refine pv_aload_n (M := mX11_done) 0 dX11_done_25 26 rfl rfl rfl ?_
        refine mv_get (M := mX11_done) (v := .ref 3) dX11_done_26 FX11 1 wd408 (by decide) (tl0 hT) rfl rfl 29 rfl ?_
        refine pv_iload_n (M := mX11_done) 1 dX11_done_29 30 rfl rfl rfl ?_
        refine iv_qblank (M := mX11_done) (X := x0.toInt) dX11_done_30 hT R rfl (by omega) (by omega) 31 rfl (fun b16 eb16 hb16 => ?_)
        have zb16 := hb16.2.2.2.2.2.2.2
        refine mv_get (M := mX11_done) (v := .ref (b16 + 3)) dX11_done_31 FX0 1 wd210 (by decide) hb16.1 rfl rfl 34 rfl ?_
        refine iv_get (M := mX11_done) (l1 := 0) (l2 := 40) dX11_done_34 FX8 1 wd200 (by decide) hb16.2.2.1.1 rfl I hb16.2.2.1.2.2.1 37 rfl (fun v17 ev17 pv17 qv17 => ?_)
        have k37 : v17.toInt = (m (4 + 7 * x0.toInt.toNat + 3) 1).toInt := (congrArg Int32.toInt ev17).trans (congrArg (fun z => (m z 1).toInt) (by omega))
        refine pv_istore (M := mX11_done) (lo2 := [.ref 0, .int x0, .int x1, .int x2, .int v17, pv_U, pv_U, pv_U]) dX11_done_37 39 rfl (by decide) rfl rfl ?_
        refine pv_aload_n (M := mX11_done) 0 dX11_done_39 40 rfl rfl rfl ?_
        refine pv_iload_n (M := mX11_done) 1 dX11_done_40 41 rfl rfl rfl ?_
        refine pv_iconst (M := mX11_done) (v := 0) dX11_done_41 42 rfl (by decide) ?_
        refine pv_iload (M := mX11_done) dX11_done_42 44 rfl rfl ?_
        refine pv_iload_n (M := mX11_done) 3 dX11_done_44 45 rfl rfl rfl ?_
        have z19 : (0 : Int32).toInt = 0 := by decide
        refine pv_callv (M := mX11_done) (as := [.int x0, .int 0, .int v17, .int x2]) (st := []) (kc2 := 0) (ks2 := 0) dX11_done_45 wd719 YX11_askLaw ⟨wd721, wd17⟩ (mk_get (tl0 hT)) rfl rfl (s_X11_askLaw_va g hT I R x0 (by omega) (by omega) 0 (by decide) (by decide) v17 (by omega) (by omega) x2 (by omega) (by omega) t (hp0 _ (by omega)) hp1 (by omega)) rfl rfl (Nat.le_of_ble_eq_true rfl) (by decide) rfl rfl 48 rfl (fun rv h1 q20 => ?_)
        obtain ⟨m21, n22, rfl, rfl, I23, K24, rm21⟩ := q20
        replace rm21 : ∀ p : Nat, (0 : Int) ≤ (p : Int) → (p : Int) < v17.toInt → ASK m la t x0.toInt.toNat p x2.toInt (m21 108 p) (m21 109 p) := by have q_ := rm21; (try rw [z19] at q_); exact q_
        have K24c := K24
        have K24 := Kp.trans (K24.sub (by first | exact wg_l (by decide) | exact wg_g (by decide) | exact wS3_wO | exact bl_wg (by omega) (by omega) (by omega) (by decide)))
        show PV _ _ _ _ _ _ _ 48 [.ref 0, .int x0, .int x1, .int x2, .int v17, pv_U, pv_U, pv_U] [] _
        have k48 := rm21
        have kf48 : fr wN m m21 := K24c
        have kCK : CKc m la t x0.toInt.toNat x2.toInt (m (4 + 7 * x0.toInt.toNat + 3) 1).toInt.toNat (cCl m21) (m21 109) := CKc_of (fun p hp => k48 p (by omega) (by omega))
        have kdd : 0 ≤ x1.toInt ∧ x1.toInt ≤ 7 ∧ 0 < (m (61 + 2 * x1.toInt.toNat) 1).toInt := ddv_1 (by omega)
        refine pv_aload_n (M := mX11_done) 0 dX11_done_48 49 rfl rfl rfl ?_
        refine mv_get (M := mX11_done) (v := .ref 107) dX11_done_49 FX11 10 wd417 (by decide) (tl0 hT) rfl rfl 52 rfl ?_
        refine pv_aload_n (M := mX11_done) 0 dX11_done_52 53 rfl rfl rfl ?_
        refine mv_get (M := mX11_done) (v := .ref 3) dX11_done_53 FX11 1 wd408 (by decide) (tl0 hT) rfl rfl 56 rfl ?_
        refine pv_iload_n (M := mX11_done) 1 dX11_done_56 57 rfl rfl rfl ?_
        refine iv_qblank (M := mX11_done) (X := x0.toInt) dX11_done_57 hT R rfl (by omega) (by omega) 58 rfl (fun b29 eb29 hb29 => ?_)
        have zb29 := hb29.2.2.2.2.2.2.2
        refine mv_get (M := mX11_done) (v := .ref (b29 + 3)) dX11_done_58 FX0 1 wd210 (by decide) hb29.1 rfl rfl 61 rfl ?_
        refine pv_aload_n (M := mX11_done) 0 dX11_done_61 62 rfl rfl rfl ?_
        refine mv_get (M := mX11_done) (v := .ref 60) dX11_done_62 FX11 3 wd410 (by decide) (tl0 hT) rfl rfl 65 rfl ?_
        refine pv_iload_n (M := mX11_done) 2 dX11_done_65 66 rfl rfl rfl ?_
        refine iv_qdeed (M := mX11_done) (X := x1.toInt) dX11_done_66 hT R rfl (by omega) (by omega) 67 rfl (fun b30 eb30 hb30 => ?_)
        have zb30 := hb30.2.2.2.2
        have k67a : (b29 + 3) = 4 + 7 * x0.toInt.toNat + 3 := by omega
        have k67d : b30 = 61 + 2 * x1.toInt.toNat := by omega
        have k67e : m21 (b29 + 3) 1 = m (4 + 7 * x0.toInt.toNat + 3) 1 := by rw [k67a]; exact kf48 _ _ (wN_lo (by omega) (by omega))
        have k67p : PBc m21 (m21 (b29 + 3) 1).toInt.toNat := by rw [k67e]; exact fun p hp => (kCK p hp).2.1
        have k67b : CB (cCl m21) (m21 (b29 + 3) 1).toInt.toNat := CB_c k67p
        refine pv_callv (M := mX11_done) (as := [.ref (b29 + 3), .ref b30]) (st := []) (kc2 := 0) (ks2 := 0) dX11_done_67 wd849 YX2_choose ⟨wd850, wd851⟩ (mk_get (tl107 hT)) rfl rfl (s_X2_choose_va g hT I23 (b29 + 3) hb29.2.2.1 b30 hb30 k67b k67p) rfl rfl (Nat.le_of_ble_eq_true rfl) (by decide) rfl rfl 70 rfl (fun rv h1 q36 => ?_)
        obtain ⟨m37, n38, v41, rfl, rfl, I39, K40, pv41, qv41, rv41⟩ := q36
        replace rv41 : CHO (m21 ((b29 + 3) + 1)) (m21 (b30 + 1)) (cCl m21) (m21 (b29 + 3) 1).toInt.toNat (m21 b30 1).toInt.toNat (m37 110) v41.toInt := rv41
        have K40c := K40
        have w42 : (m37 97 6).toInt = (m21 97 6).toInt := congrArg Int32.toInt (K40 97 6 rfl)
        have K40 := K24.trans (K40.sub (by first | exact wg_l (by decide) | exact wg_g (by decide) | exact wS3_wO | exact bl_wg (by omega) (by omega) (by omega) (by decide)))
        show PV _ _ _ _ _ _ _ 70 [.ref 0, .int x0, .int x1, .int x2, .int v17, pv_U, pv_U, pv_U] [.int v41] _
        have k70 := rv41
        have kf70 : fr wN m m37 := kf48.trans ((K40c).sub (wg_l (by decide)))
        rw [k67a, k67d] at k70
        rw [show m21 (4 + 7 * x0.toInt.toNat + 3 + 1) = m (4 + 7 * x0.toInt.toNat + 4) from funext fun i => kf48 _ i (wN_lo (by omega) (by omega)), show m21 (61 + 2 * x1.toInt.toNat + 1) = m (62 + 2 * x1.toInt.toNat) from funext fun i => (kf48 _ i (wN_lo (by omega) (by omega))).trans (congrArg (fun z => m z i) (by omega)), show m21 (4 + 7 * x0.toInt.toNat + 3) 1 = m (4 + 7 * x0.toInt.toNat + 3) 1 from kf48 _ _ (wN_lo (by omega) (by omega)), show m21 (61 + 2 * x1.toInt.toNat) 1 = m (61 + 2 * x1.toInt.toNat) 1 from kf48 _ _ (wN_lo (by omega) (by omega))] at k70
        have kf70p : ∀ i, m37 109 i = m21 109 i := fun i => K40c 109 i rfl
        have k70s : (m37 97 6).toInt = (m 97 6).toInt := congrArg Int32.toInt (kf70 97 6 (wN_bk (by omega) (by omega)))
        refine pv_iconst (M := mX11_done) (v := (-1)) dX11_done_70 71 rfl (by decide) ?_
        refine pv_icmp_ne (M := mX11_done) (tgt := 77) dX11_done_71 74 rfl (by decide) (fun c49 => ?_) (fun c49 => ?_)
        · have c49 := iv_ne (X := v41.toInt) (Y := (-1)) c49 rfl (by decide)
          obtain ⟨u, ku1, ku2, ku3, kST⟩ := CHO_y k70 (by omega)
          have kne : ctv (m (4 + 7 * x0.toInt.toNat + 4)) (m (62 + 2 * x1.toInt.toNat)) (cCl m21) (m (4 + 7 * x0.toInt.toNat + 3) 1).toInt.toNat (m (61 + 2 * x1.toInt.toNat) 1).toInt.toNat (m (4 + 7 * x0.toInt.toNat + 3) 1).toInt.toNat 0 ≠ none := by rw [ku1]; exact fun q => by cases q
          have kst : ∀ j : Nat, (j : Int) < (m (61 + 2 * x1.toInt.toNat) 1).toInt → 0 ≤ (m37 110 j).toInt ∧ (m37 110 j).toInt < (m (4 + 7 * x0.toInt.toNat + 3) 1).toInt := fun j hj => by obtain ⟨p, p1, _, _, p4⟩ := STS_at kne kST (j := j) (by omega); omega
          have ksu : ∀ j : Nat, (j : Int) + 1 < (m (61 + 2 * x1.toInt.toNat) 1).toInt → (m37 110 j).toInt < (m37 110 (j + 1)).toInt := fun j hj => STS_up kne kST (by omega)
          refine pv_aload_n (M := mX11_done) 0 dX11_done_77 78 rfl rfl rfl ?_
          refine mv_get (M := mX11_done) (v := .ref 60) dX11_done_78 FX11 3 wd410 (by decide) (tl0 hT) rfl rfl 81 rfl ?_
          refine pv_iload_n (M := mX11_done) 2 dX11_done_81 82 rfl rfl rfl ?_
          refine iv_qdeed (M := mX11_done) (X := x1.toInt) dX11_done_82 hT R rfl (by omega) (by omega) 83 rfl (fun b54 eb54 hb54 => ?_)
          have zb54 := hb54.2.2.2.2
          refine iv_get (M := mX11_done) (l1 := 0) (l2 := 16) dX11_done_83 FX8 1 wd200 (by decide) hb54.1 rfl I39 hb54.2.2.1 86 rfl (fun v55 ev55 pv55 qv55 => ?_)
          have k86 : v55.toInt = (m (61 + 2 * x1.toInt.toNat) 1).toInt := by rw [ev55, ← show m37 (61 + 2 * x1.toInt.toNat) 1 = m (61 + 2 * x1.toInt.toNat) 1 from kf70 _ _ (wN_lo (by omega) (by omega))]; exact congrArg (fun z => (m37 z 1).toInt) (by omega)
          refine pv_istore (M := mX11_done) (lo2 := [.ref 0, .int x0, .int x1, .int x2, .int v17, .int v55, pv_U, pv_U]) dX11_done_86 88 rfl (by decide) rfl rfl ?_
          refine pv_aload_n (M := mX11_done) 0 dX11_done_88 89 rfl rfl rfl ?_
          refine pv_iload (M := mX11_done) dX11_done_89 91 rfl rfl ?_
          refine pv_iload (M := mX11_done) dX11_done_91 93 rfl rfl ?_
          have k93a : ∀ j : Nat, (j : Int) < v55.toInt → 0 ≤ (m37 110 j).toInt ∧ (m37 110 j).toInt < v17.toInt := fun j hj => by have q := kst j (by omega); omega
          have k93b : ∀ j : Nat, (j : Int) + 1 < v55.toInt → (m37 110 j).toInt < (m37 110 (j + 1)).toInt := fun j hj => ksu j (by omega)
          refine pv_callv (M := mX11_done) (as := [.int v55, .int v17]) (st := []) (kc2 := 0) (ks2 := 0) dX11_done_93 wd871 YX11_countGapStrokes ⟨wd873, wd30⟩ (mk_get (tl0 hT)) rfl rfl (s_X11_countGapStrokes_va g hT I39 R v55 (by omega) (by omega) v17 (by omega) (by omega) k93a k93b) rfl rfl (Nat.le_of_ble_eq_true rfl) (by decide) rfl rfl 96 rfl (fun rv h1 q59 => ?_)
          obtain ⟨v60, rfl, rfl, pv60, qv60, rv60⟩ := q59
          replace rv60 : v60.toInt = (dn (fun k => (m37 110 k).toInt.toNat) v55.toInt.toNat v17.toInt.toNat).length := rv60
          show PV _ _ _ _ _ _ _ 96 [.ref 0, .int x0, .int x1, .int x2, .int v17, .int v55, pv_U, pv_U] [.int v60] _
          have k96 := rv60
          rw [show v55.toInt.toNat = (m (61 + 2 * x1.toInt.toNat) 1).toInt.toNat by omega, show v17.toInt.toNat = (m (4 + 7 * x0.toInt.toNat + 3) 1).toInt.toNat by omega] at k96
          refine pv_istore (M := mX11_done) (lo2 := [.ref 0, .int x0, .int x1, .int x2, .int v17, .int v55, .int v60, pv_U]) dX11_done_96 98 rfl (by decide) rfl rfl ?_
          refine pv_aload_n (M := mX11_done) 0 dX11_done_98 99 rfl rfl rfl ?_
          refine mv_get (M := mX11_done) (v := .ref 97) dX11_done_99 FX11 6 wd413 (by decide) (tl0 hT) rfl rfl 102 rfl ?_
          refine pv_iload (M := mX11_done) dX11_done_102 104 rfl rfl ?_
          refine pv_callv (M := mX11_done) (as := [.int v60]) (st := []) (kc2 := 0) (ks2 := 0) dX11_done_104 wd773 YX1_hasRoom ⟨wd774, wd775⟩ (mk_get (tl97 hT)) rfl rfl (s_X1_hasRoom_va g hT I39 v60 (by omega) (by omega)) rfl rfl (Nat.le_of_ble_eq_true rfl) (by decide) rfl rfl 107 rfl (fun rv h1 q63 => ?_)
          obtain ⟨v64, rfl, rfl, pv64, qv64, rv64⟩ := q63
          replace rv64 : (v64.toInt = 1 ∧ (m37 97 6).toInt + v60.toInt ≤ 60) ∨ (v64.toInt = 0 ∧ 60 < (m37 97 6).toInt + v60.toInt) := rv64
          show PV _ _ _ _ _ _ _ 107 [.ref 0, .int x0, .int x1, .int x2, .int v17, .int v55, .int v60, pv_U] [.int v64] _
          have k107 := rv64
          refine pv_if_ne (M := mX11_done) (tgt := 113) dX11_done_107 110 rfl (by decide) (fun c66 => ?_) (fun c66 => ?_)
          · have c66 := iv_ne (X := v64.toInt) (Y := 0) c66 rfl (by decide)
            refine pv_iload (M := mX11_done) dX11_done_113 115 rfl rfl ?_
            refine pv_iconst (M := mX11_done) (v := 1) dX11_done_115 116 rfl (by decide) ?_
            refine iv_isub (M := mX11_done) (X := v55.toInt) (Y := 1) dX11_done_116 117 rfl rfl (by decide) (by omega) (by omega) (fun v67 ev67 => ?_)
            refine pv_istore (M := mX11_done) (lo2 := [.ref 0, .int x0, .int x1, .int x2, .int v17, .int v55, .int v60, .int v67]) dX11_done_117 119 rfl (by decide) rfl rfl ?_
            have lp75 : ∀ (fuel74 : Nat) (y68 : Int32) (y69 : Int32) (m70 : Nat → Nat → Int32) (n71 : Nat → Nat → Int64), (0 ≤ y68.toInt) → (y68.toInt ≤ 40) → (-1 ≤ y69.toInt) → (y69.toInt ≤ 15) → (DNI m37 m70 (4 + 7 * x0.toInt.toNat) x0.toInt.toNat x2 (fun i => m37 109 i) (fun k => (m37 110 k).toInt.toNat) (m (61 + 2 * x1.toInt.toNat) 1).toInt.toNat (m (4 + 7 * x0.toInt.toNat + 3) 1).toInt.toNat (y69.toInt + 1).toNat y68.toInt.toNat) → (∀ a i, wS3 a i = false → m70 a i = m37 a i) → (y69.toInt < (m (61 + 2 * x1.toInt.toNat) 1).toInt) → (0 ≤ y69.toInt → (m37 110 y69.toInt.toNat).toInt < y68.toInt) → IV BB m70 → fr wO m m70 → ((y69.toInt + 1) : Int).toNat < fuel74 → PV none g mX11_done (sqI T BB wO r m (-2147483648) 2147483647 (fun m' v => DONc ((0 ≤ x0.toInt ∧ x0.toInt < (m 0 2).toInt) ∧ (ddv m x1).toInt = 1 ∧ 0 ≤ x2.toInt ∧ x2.toInt ≤ 7) m m' la t x0.toInt.toNat x2 (m (4 + 7 * x0.toInt.toNat + 4)) (m (62 + 2 * x1.toInt.toNat)) (m (4 + 7 * x0.toInt.toNat + 3) 1).toInt.toNat (m (61 + 2 * x1.toInt.toNat) 1).toInt.toNat v.toInt)) 7 0 0 119 [.ref 0, .int x0, .int x1, .int x2, .int y68, .int v55, .int v60, .int y69] [] (mk T m70 n71 r) := by
              intro fuel74
              induction fuel74 with
              | zero => intro y68 y69 m70 n71 b77 b78 b79 b80 b81 b82 b83 b84 I72 K73 z85; omega
              | succ fuel74 ih76 =>
                intro y68 y69 m70 n71 b77 b78 b79 b80 b81 b82 b83 b84 I72 K73 z85
                have z86 : 0 ≤ (m70 97 6).toInt ∧ (m70 97 6).toInt ≤ 60 := I72 97 6
                have kg119 := (show DNI m37 m70 (4 + 7 * x0.toInt.toNat) x0.toInt.toNat x2 (fun i => m37 109 i) (fun k => (m37 110 k).toInt.toNat) (m (61 + 2 * x1.toInt.toNat) 1).toInt.toNat (m (4 + 7 * x0.toInt.toNat + 3) 1).toInt.toNat (y69.toInt + 1).toNat y68.toInt.toNat by assumption)
                have kg119f := (show ∀ a i, wS3 a i = false → m70 a i = m37 a i by assumption)
                have kg119s := (show 0 ≤ y69.toInt → (m37 110 y69.toInt.toNat).toInt < y68.toInt by assumption)
                have kroom := DNI_room kg119 (by omega)
                refine pv_iload (M := mX11_done) dX11_done_119 121 rfl rfl ?_
                refine pv_if_lt (M := mX11_done) (tgt := 162) dX11_done_121 124 rfl (by decide) (fun c91 => ?_) (fun c91 => ?_)
                · have c91 := iv_lt (X := y69.toInt) (Y := 0) c91 rfl (by decide)
                  refine pv_aload_n (M := mX11_done) 0 dX11_done_162 163 rfl rfl rfl ?_
                  refine pv_iload_n (M := mX11_done) 1 dX11_done_163 164 rfl rfl rfl ?_
                  refine pv_iconst (M := mX11_done) (v := 0) dX11_done_164 165 rfl (by decide) ?_
                  refine pv_iload (M := mX11_done) dX11_done_165 167 rfl rfl ?_
                  refine pv_iload_n (M := mX11_done) 3 dX11_done_167 168 rfl rfl rfl ?_
                  have k168n : (y69.toInt + 1).toNat = 0 := by omega
                  rw [k168n] at kg119 kroom
                  have k168s : y68.toInt ≤ (m70 ((4 + 7 * x0.toInt.toNat) + 3) 1).toInt := by have q := kg119.2.2; omega
                  have k168r : (m70 97 6).toInt + ((gp (0 : Int32).toInt.toNat y68.toInt.toNat).length : Int) ≤ 60 := by rw [show (0 : Int32).toInt.toNat = 0 from (by decide)]; exact kroom
                  have z96 : (0 : Int32).toInt = 0 := by decide
                  refine pv_callv (M := mX11_done) (as := [.int x0, .int 0, .int y68, .int x2]) (st := []) (kc2 := 0) (ks2 := 0) dX11_done_168 wd879 YX11_strikeGap ⟨wd881, wd31⟩ (mk_get (tl0 hT)) rfl rfl (s_X11_strikeGap_va g hT I72 R x0 (by omega) (by omega) 0 (by decide) (by decide) y68 (by omega) (by omega) x2 (by omega) (by omega) kg119.2.1 k168s k168r) rfl rfl (Nat.le_of_ble_eq_true rfl) (by decide) rfl rfl 171 rfl (fun rv h1 q97 => ?_)
                  obtain ⟨m98, n99, rfl, rfl, I100, K101, rm98⟩ := q97
                  replace rm98 : SQc (4 + 7 * x0.toInt.toNat) x0.toInt.toNat x2 (fun i => m70 109 i) (gp (0 : Int).toNat y68.toInt.toNat) m70 m98 := by have q_ := rm98; (try rw [z96] at q_); exact q_
                  have K101c := K101
                  have K101 := K73.trans (K101.sub (by first | exact wg_l (by decide) | exact wg_g (by decide) | exact wS3_wO | exact bl_wg (by omega) (by omega) (by omega) (by decide)))
                  show PV _ _ _ _ _ _ _ 171 [.ref 0, .int x0, .int x1, .int x2, .int y68, .int v55, .int v60, .int y69] [] _
                  have k171 := rm98
                  try rw [show (0 : Int).toNat = 0 from rfl] at k171
                  have k171q := SQc_pr (qr := fun i => m37 109 i) (fun q _ i _ => (kg119f 109 _ rfl).symm) k171
                  have k171e := DNI_e kg119 k171q
                  refine pv_iload (M := mX11_done) dX11_done_171 173 rfl rfl ?_
                  exact pv_iret (M := mX11_done) dX11_done_173 rfl rfl ⟨_, _, _, rfl, rfl, I100, K101, (iv_rng v60).1, (iv_rng v60).2, (Or.inr ⟨by omega, cCl m21, m21 109, kCK, Or.inr ⟨u, (m37 110), ku1, kST, Or.inr ⟨by omega, k96, m37, kf70, SQc_pr (fun q _ i _ => (kf70p _).symm) k171e⟩⟩⟩)⟩
                · have c91 := iv_nlt (X := y69.toInt) (Y := 0) c91 rfl (by decide)
                  refine pv_aload_n (M := mX11_done) 0 dX11_done_124 125 rfl rfl rfl ?_
                  refine pv_iload_n (M := mX11_done) 1 dX11_done_125 126 rfl rfl rfl ?_
                  refine pv_aload_n (M := mX11_done) 0 dX11_done_126 127 rfl rfl rfl ?_
                  refine mv_get (M := mX11_done) (v := .ref 107) dX11_done_127 FX11 10 wd417 (by decide) (tl0 hT) rfl rfl 130 rfl ?_
                  refine mv_get (M := mX11_done) (v := .ref 110) dX11_done_130 FX2 2 wd351 (by decide) (tl107 hT) rfl rfl 133 rfl ?_
                  refine pv_iload (M := mX11_done) dX11_done_133 135 rfl rfl ?_
                  refine iv_iald (M := mX11_done) (X := y69.toInt) (l1 := 0) (l2 := 39) dX11_done_135 (tl110 hT) rfl (by omega) (by omega) I72 (fun _ => rfl) 136 rfl (fun v106 ev106 pv106 qv106 => ?_)
                  have k135 : v106.toInt = (m37 110 y69.toInt.toNat).toInt := by rw [ev106, kg119f 110 _ rfl]
                  have k135b := kst y69.toInt.toNat (by omega)
                  have k135c := kg119s (by omega)
                  refine pv_iconst (M := mX11_done) (v := 1) dX11_done_136 137 rfl (by decide) ?_
                  refine iv_iadd (M := mX11_done) (X := v106.toInt) (Y := 1) dX11_done_137 138 rfl rfl (by decide) (by omega) (by omega) (fun v110 ev110 => ?_)
                  refine pv_iload (M := mX11_done) dX11_done_138 140 rfl rfl ?_
                  refine pv_iload_n (M := mX11_done) 3 dX11_done_140 141 rfl rfl rfl ?_
                  have k141n : (y69.toInt + 1).toNat = y69.toInt.toNat + 1 := by omega
                  rw [k141n] at kg119 kroom
                  have k141a : v110.toInt.toNat = (fun k => (m37 110 k).toInt.toNat) y69.toInt.toNat + 1 := by show _ = (m37 110 y69.toInt.toNat).toInt.toNat + 1; omega
                  have k141s : y68.toInt ≤ (m70 ((4 + 7 * x0.toInt.toNat) + 3) 1).toInt := by have q := kg119.2.2; omega
                  have k141l := dn_len_ge (st := fun k => (m37 110 k).toInt.toNat) (k := y69.toInt.toNat) (t := y68.toInt.toNat)
                  have k141x : (gp v110.toInt.toNat y68.toInt.toNat).length ≤ (dn (fun k => (m37 110 k).toInt.toNat) (y69.toInt.toNat + 1) y68.toInt.toNat).length := by rw [k141a]; exact dn_len_ge (st := fun k => (m37 110 k).toInt.toNat) (k := y69.toInt.toNat) (t := y68.toInt.toNat)
                  have k141r : (m70 97 6).toInt + ((gp v110.toInt.toNat y68.toInt.toNat).length : Int) ≤ 60 := by omega
                  refine pv_callv (M := mX11_done) (as := [.int x0, .int v110, .int y68, .int x2]) (st := []) (kc2 := 0) (ks2 := 0) dX11_done_141 wd879 YX11_strikeGap ⟨wd881, wd31⟩ (mk_get (tl0 hT)) rfl rfl (s_X11_strikeGap_va g hT I72 R x0 (by omega) (by omega) v110 (by omega) (by omega) y68 (by omega) (by omega) x2 (by omega) (by omega) kg119.2.1 k141s k141r) rfl rfl (Nat.le_of_ble_eq_true rfl) (by decide) rfl rfl 144 rfl (fun rv h1 q118 => ?_)
                  obtain ⟨m119, n120, rfl, rfl, I121, K122, rm119⟩ := q118
                  replace rm119 : SQc (4 + 7 * x0.toInt.toNat) x0.toInt.toNat x2 (fun i => m70 109 i) (gp v110.toInt.toNat y68.toInt.toNat) m70 m119 := rm119
                  have K122c := K122
                  have K122 := K73.trans (K122.sub (by first | exact wg_l (by decide) | exact wg_g (by decide) | exact wS3_wO | exact bl_wg (by omega) (by omega) (by omega) (by decide)))
                  show PV _ _ _ _ _ _ _ 144 [.ref 0, .int x0, .int x1, .int x2, .int y68, .int v55, .int v60, .int y69] [] _
                  have k144 := rm119
                  rw [k141a] at k144
                  have k144q := SQc_pr (qr := fun i => m37 109 i) (fun q _ i _ => (kg119f 109 _ rfl).symm) k144
                  have k144f : ∀ a i, wS3 a i = false → m119 a i = m37 a i := fun a i q => ((SQc_fr k144).1 a i q).trans (kg119f a i q)
                  refine pv_aload_n (M := mX11_done) 0 dX11_done_144 145 rfl rfl rfl ?_
                  refine mv_get (M := mX11_done) (v := .ref 107) dX11_done_145 FX11 10 wd417 (by decide) (tl0 hT) rfl rfl 148 rfl ?_
                  refine mv_get (M := mX11_done) (v := .ref 110) dX11_done_148 FX2 2 wd351 (by decide) (tl107 hT) rfl rfl 151 rfl ?_
                  refine pv_iload (M := mX11_done) dX11_done_151 153 rfl rfl ?_
                  refine iv_iald (M := mX11_done) (X := y69.toInt) (l1 := 0) (l2 := 39) dX11_done_153 (tl110 hT) rfl (by omega) (by omega) I121 (fun _ => rfl) 154 rfl (fun v127 ev127 pv127 qv127 => ?_)
                  have k153 : v127.toInt = (m37 110 y69.toInt.toNat).toInt := by rw [ev127, k144f 110 _ rfl]
                  refine pv_istore (M := mX11_done) (lo2 := [.ref 0, .int x0, .int x1, .int x2, .int v127, .int v55, .int v60, .int y69]) dX11_done_154 156 rfl (by decide) rfl rfl ?_
                  refine iv_inc (M := mX11_done) (C := (-1)) dX11_done_156 159 rfl rfl (by decide) rfl rfl (by decide) (by omega) (by omega) (fun v129 ev129 => ?_)
                  show PV _ _ _ _ _ _ _ 159 [.ref 0, .int x0, .int x1, .int x2, .int v127, .int v55, .int v60, .int v129] [] _
                  refine pv_goto (M := mX11_done) (tgt := 119) dX11_done_159 (by decide) ?_
                  have kb119 : DNI m37 m119 (4 + 7 * x0.toInt.toNat) x0.toInt.toNat x2 (fun i => m37 109 i) (fun k => (m37 110 k).toInt.toNat) (m (61 + 2 * x1.toInt.toNat) 1).toInt.toNat (m (4 + 7 * x0.toInt.toNat + 3) 1).toInt.toNat (v129.toInt + 1).toNat v127.toInt.toNat := by rw [show (v129.toInt + 1).toNat = (y69.toInt).toNat by omega]; exact DNI_s kg119 k144q rfl (by show (m37 110 (y69.toInt).toNat).toInt.toNat + 1 ≤ _; omega) (by show _ = (m37 110 (y69.toInt).toNat).toInt.toNat; omega) (by omega) (by omega)
                  have kb119f := k144f
                  have kb119s : 0 ≤ v129.toInt → (m37 110 v129.toInt.toNat).toInt < v127.toInt := fun q => by have z := ksu v129.toInt.toNat (by omega); rw [show v129.toInt.toNat + 1 = (y69.toInt).toNat by omega] at z; omega
                  exact ih76 v127 v129 m119 n120 (by first | omega | assumption | exact (iv_rng _).2 | exact (iv_rng _).1 | decide) (by first | omega | assumption | exact (iv_rng _).2 | exact (iv_rng _).1 | decide) (by first | omega | assumption | exact (iv_rng _).2 | exact (iv_rng _).1 | decide) (by first | omega | assumption | exact (iv_rng _).2 | exact (iv_rng _).1 | decide) kb119 kb119f (by omega) kb119s I121 K122 (by omega)
            have kR70 : RST m37 (4 + 7 * x0.toInt.toNat) := RST_eq (hp0 _ (by omega)) (fun a j h1 h2 => kf70 a j (wN_lo (by omega) (by omega)))
            have kin119 : DNI m37 m37 (4 + 7 * x0.toInt.toNat) x0.toInt.toNat x2 (fun i => m37 109 i) (fun k => (m37 110 k).toInt.toNat) (m (61 + 2 * x1.toInt.toNat) 1).toInt.toNat (m (4 + 7 * x0.toInt.toNat + 3) 1).toInt.toNat (v67.toInt + 1).toNat v17.toInt.toNat := by rw [show (v67.toInt + 1).toNat = (m (61 + 2 * x1.toInt.toNat) 1).toInt.toNat by omega, show v17.toInt.toNat = (m (4 + 7 * x0.toInt.toNat + 3) 1).toInt.toNat by omega]; exact DNI_0 kR70 (by rw [kf70 _ _ (wN_lo (by omega) (by omega))]; omega)
            have kin119s : 0 ≤ v67.toInt → (m37 110 v67.toInt.toNat).toInt < v17.toInt := fun q => by have z := kst v67.toInt.toNat (by omega); omega
            exact lp75 (((v67.toInt + 1) : Int).toNat + 1) v17 v67 m37 n38 (by first | omega | assumption | exact (iv_rng _).2 | exact (iv_rng _).1 | decide) (by first | omega | assumption | exact (iv_rng _).2 | exact (iv_rng _).1 | decide) (by first | omega | assumption | exact (iv_rng _).2 | exact (iv_rng _).1 | decide) (by first | omega | assumption | exact (iv_rng _).2 | exact (iv_rng _).1 | decide) kin119 (fun _ _ _ => rfl) (by omega) kin119s I39 K40 (by omega)
          · have c66 := iv_eq (X := v64.toInt) (Y := 0) c66 rfl (by decide)
            refine pv_bipush (M := mX11_done) (v := (-3)) dX11_done_110 112 rfl (by decide) ?_
            have z136 : ((-3) : Int32).toInt = (-3) := by decide
            exact pv_iret (M := mX11_done) dX11_done_112 rfl rfl ⟨_, _, _, rfl, rfl, I39, K40, by decide, by decide, (Or.inr ⟨by omega, cCl m21, m21 109, kCK, Or.inr ⟨u, (m37 110), ku1, kST, Or.inl ⟨by omega, by decide, kf70⟩⟩⟩)⟩
        · have c49 := iv_eq (X := v41.toInt) (Y := (-1)) c49 rfl (by decide)
          refine pv_bipush (M := mX11_done) (v := (-2)) dX11_done_74 76 rfl (by decide) ?_
          have z137 : ((-2) : Int32).toInt = (-2) := by decide
          exact pv_iret (M := mX11_done) dX11_done_76 rfl rfl ⟨_, _, _, rfl, rfl, I39, K40, by decide, by decide, (Or.inr ⟨by omega, cCl m21, m21 109, kCK, Or.inl ⟨CHO_n k70 (by omega), by decide, kf70⟩⟩)⟩
      · have c15 := iv_eq (X := v13.toInt) (Y := 0) c15 rfl (by decide)
        refine pv_iconst (M := mX11_done) (v := (-1)) dX11_done_23 24 rfl (by decide) ?_
        have z138 : ((-1) : Int32).toInt = (-1) := by decide
        exact pv_iret (M := mX11_done) dX11_done_24 rfl rfl ⟨_, _, _, rfl, rfl, I, Kp, by decide, by decide, (Or.inl ⟨by omega, by decide, fr.rf⟩)⟩
