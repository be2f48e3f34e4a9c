set_option maxHeartbeats 2000000 in
set_option maxRecDepth 20000 in
theorem s_X6_steps_vz (g : pv_G) {T : List mv_T} {m : Nat → Nat → Int32} {n : Nat → Nat → Int64} {r : Nat → Value} (hT : TX T) (I : IV BB m) (aT : Nat) (haT : LawAt T aT) : PM g mX6_steps yX6_steps (sqP (mk T m n r) 0 160 (fun v => v = m aT 2)) 1 0 0 [.ref aT] (mk T m n r) := by
  have Kp : fr (wl []) m m := fr.rf
  have zwT := haT.1
  refine PM.of 0 (lo := [.ref aT]) rfl (by decide) rfl rfl (Nat.le_of_ble_eq_true rfl) ?_
  refine pv_aload_n (M := mX6_steps) 0 dX6_steps_0 1 rfl rfl rfl ?_
  refine iv_get (M := mX6_steps) (l1 := 0) (l2 := 160) dX6_steps_1 FX6 2 wd235 (by decide) haT.2.1 rfl I (law_b2 haT) 4 rfl (fun v1 ev1 pv1 qv1 => ?_)
  exact pv_iret (M := mX6_steps) dX6_steps_4 rfl rfl ⟨_, rfl, rfl, by omega, by omega, ev1⟩

set_option maxHeartbeats 2000000 in
set_option maxRecDepth 20000 in
theorem s_X6_emit_vz (g : pv_G) {T : List mv_T} {m : Nat → Nat → Int32} {n : Nat → Nat → Int64} {r : Nat → Value} (hT : TX T) (I : IV BB m) (aT : Nat) (haT : LawAt T aT) (x0 : Int32) (x1 : Int32) (hl1 : -1 ≤ x1.toInt) (hh1 : x1.toInt ≤ 99999) : PM g mX6_emit yX6_emit (sqV T BB (wY aT) r m (fun m' => (m' aT 7).toInt = (m aT 7).toInt ∧ ((m aT 2).toInt < 160 → EMT aT m m' x0.toInt x1))) 1 0 0 [.ref aT, .int x0, .int x1] (mk T m n r) := by
  have Kp : fr (wY aT) m m := fr.rf
  have zwT := haT.1
  refine PM.of 0 (lo := [.ref aT, .int x0, .int x1]) rfl (by decide) rfl rfl (Nat.le_of_ble_eq_true rfl) ?_
  refine pv_aload_n (M := mX6_emit) 0 dX6_emit_0 1 rfl rfl rfl ?_
  refine iv_get (M := mX6_emit) (l1 := 0) (l2 := 160) dX6_emit_1 FX6 2 wd235 (by decide) haT.2.1 rfl I (law_b2 haT) 4 rfl (fun v1 ev1 pv1 qv1 => ?_)
  have wv1 : v1.toInt = (m aT 2).toInt := congrArg Int32.toInt ev1
  refine pv_sipush (M := mX6_emit) (v := 160) dX6_emit_4 7 rfl (by decide) ?_
  refine pv_icmp_ge (M := mX6_emit) (tgt := 40) dX6_emit_7 10 rfl (by decide) (fun c2 => ?_) (fun c2 => ?_)
  · have c2 := iv_le (X := 160) (Y := v1.toInt) c2 (by decide) rfl
    exact pv_vret (M := mX6_emit) dX6_emit_40 rfl ⟨_, _, rfl, rfl, I, Kp, (by first | exact ⟨by omega, fun _ => EMT_of noE (by unfold lnC; omega) noE (by unfold lnC; omega) noE (by omega)⟩ | exact ⟨by omega, fun q => by exfalso; omega⟩)⟩
  · have c2 := iv_nle (X := 160) (Y := v1.toInt) c2 (by decide) rfl
    refine pv_aload_n (M := mX6_emit) 0 dX6_emit_10 11 rfl rfl rfl ?_
    refine mv_get (M := mX6_emit) (v := .ref (aT + 1)) dX6_emit_11 FX6 0 wd233 (by decide) haT.2.1 rfl rfl 14 rfl ?_
    refine pv_aload_n (M := mX6_emit) 0 dX6_emit_14 15 rfl rfl rfl ?_
    refine iv_get (M := mX6_emit) (l1 := 0) (l2 := 160) dX6_emit_15 FX6 2 wd235 (by decide) haT.2.1 rfl I (law_b2 haT) 18 rfl (fun v3 ev3 pv3 qv3 => ?_)
    have wv3 : v3.toInt = (m aT 2).toInt := congrArg Int32.toInt ev3
    refine pv_iload_n (M := mX6_emit) 1 dX6_emit_18 19 rfl rfl rfl ?_
    refine iv_iast (M := mX6_emit) (X := v3.toInt) (l1 := (-2147483648)) (l2 := 2147483647) dX6_emit_19 (law_a1 haT) rfl (by omega) (by omega) I (law_c1 haT) (iv_rng x0).1 (iv_rng x0).2 20 rfl (fun m4 e7 I5 => ?_)
    have K6 := Kp.set e7 (by first | exact wY_2 | exact wY_s | exact wY_o)
    have w8 : (m4 aT 2).toInt = (m aT 2).toInt := by rw [e7, up2_ne (by omega)]
    have w9 : (m4 aT 7).toInt = (m aT 7).toInt := by rw [e7, up2_ne (by omega)]
    refine pv_aload_n (M := mX6_emit) 0 dX6_emit_20 21 rfl rfl rfl ?_
    refine mv_get (M := mX6_emit) (v := .ref (aT + 2)) dX6_emit_21 FX6 1 wd234 (by decide) haT.2.1 rfl rfl 24 rfl ?_
    refine pv_aload_n (M := mX6_emit) 0 dX6_emit_24 25 rfl rfl rfl ?_
    refine iv_get (M := mX6_emit) (l1 := 0) (l2 := 160) dX6_emit_25 FX6 2 wd235 (by decide) haT.2.1 rfl I5 (law_b2 haT) 28 rfl (fun v10 ev10 pv10 qv10 => ?_)
    have wv10 : v10.toInt = (m4 aT 2).toInt := congrArg Int32.toInt ev10
    refine pv_iload_n (M := mX6_emit) 2 dX6_emit_28 29 rfl rfl rfl ?_
    refine iv_iast (M := mX6_emit) (X := v10.toInt) (l1 := (-1)) (l2 := 99999) dX6_emit_29 (law_a2 haT) rfl (by omega) (by omega) I5 (law_c2 haT) (by omega) (by omega) 30 rfl (fun m11 e14 I12 => ?_)
    have K13 := K6.set e14 (by first | exact wY_2 | exact wY_s | exact wY_o)
    have w15 : (m11 aT 2).toInt = (m4 aT 2).toInt := by rw [e14, up2_ne (by omega)]
    have w16 : (m11 aT 7).toInt = (m4 aT 7).toInt := by rw [e14, up2_ne (by omega)]
    refine pv_aload_n (M := mX6_emit) 0 dX6_emit_30 31 rfl rfl rfl ?_
    refine pv_dup (M := mX6_emit) dX6_emit_31 32 rfl rfl ?_
    refine iv_get (M := mX6_emit) (l1 := 0) (l2 := 160) dX6_emit_32 FX6 2 wd235 (by decide) haT.2.1 rfl I12 (law_b2 haT) 35 rfl (fun v17 ev17 pv17 qv17 => ?_)
    have wv17 : v17.toInt = (m11 aT 2).toInt := congrArg Int32.toInt ev17
    refine pv_iconst (M := mX6_emit) (v := 1) dX6_emit_35 36 rfl (by decide) ?_
    refine iv_iadd (M := mX6_emit) (X := v17.toInt) (Y := 1) dX6_emit_36 37 rfl rfl (by decide) (by omega) (by omega) (fun v18 ev18 => ?_)
    refine iv_put (M := mX6_emit) (l1 := 0) (l2 := 160) dX6_emit_37 FX6 2 wd235 (by decide) rfl haT.2.1 rfl rfl rfl I12 (law_b2 haT) (by omega) (by omega) 40 rfl (fun m19 e22 I20 => ?_)
    have K21 := K13.set e22 (by first | exact wY_2 | exact wY_s | exact wY_o)
    have w23 : (m19 aT 2).toInt = v18.toInt := by rw [e22, up2_eq]
    have w24 : (m19 aT 7).toInt = (m11 aT 7).toInt := by rw [e22, up2_ne (by omega)]
    exact pv_vret (M := mX6_emit) dX6_emit_40 rfl ⟨_, _, rfl, rfl, I20, K21, (by first | exact ⟨by omega, fun _ => EMT_of e7 (by unfold lnC; omega) e14 (by unfold lnC; omega) e22 (by omega)⟩ | exact ⟨by omega, fun q => by exfalso; omega⟩)⟩

set_option maxHeartbeats 2000000 in
set_option maxRecDepth 20000 in
theorem s_X6_aimLeaps_vz (g : pv_G) {T : List mv_T} {m : Nat → Nat → Int32} {n : Nat → Nat → Int64} {r : Nat → Value} (hT : TX T) (I : IV BB m) (aT : Nat) (haT : LawAt T aT) (x0 : Int32) (x1 : Int32) (hl1 : 0 ≤ x1.toInt) (hh1 : x1.toInt ≤ 160) : PM g mX6_aimLeaps yX6_aimLeaps (sqV T BB (wY aT) r m (fun m' => (m' aT 7).toInt = (m aT 7).toInt ∧ AIMD aT m m' x0.toInt x1.toInt)) 1 0 0 [.ref aT, .int x0, .int x1] (mk T m n r) := by
  have Kp : fr (wY aT) m m := fr.rf
  have zwT := haT.1
  refine PM.of 1 (lo := [.ref aT, .int x0, .int x1, pv_U]) rfl (by decide) rfl rfl (Nat.le_of_ble_eq_true rfl) ?_
  refine pv_iload_n (M := mX6_aimLeaps) 2 dX6_aimLeaps_0 1 rfl rfl rfl ?_
  refine pv_iconst (M := mX6_aimLeaps) (v := 0) dX6_aimLeaps_1 2 rfl (by decide) ?_
  refine iv_max (M := mX6_aimLeaps) (X := x1.toInt) (Y := 0) dX6_aimLeaps_2 wd682 Wmmax (Nat.le_of_ble_eq_true rfl) (by decide) rfl (by decide) 5 rfl (fun v1 ev1 fv1 gv1 => ?_)
  refine pv_istore_n (M := mX6_aimLeaps) 3 (lo2 := [.ref aT, .int x0, .int x1, .int v1]) dX6_aimLeaps_5 6 rfl rfl (by decide) rfl rfl ?_
  have lp8 : ∀ (fuel7 : Nat) (y2 : Int32) (m3 : Nat → Nat → Int32) (n4 : Nat → Nat → Int64), (0 ≤ y2.toInt) → (y2.toInt ≤ 160) → (x1.toInt ≤ y2.toInt) → ((m3 aT 2).toInt = (m aT 2).toInt) → ((m3 aT 7).toInt = (m aT 7).toInt) → (AIMp aT m m3 x0.toInt x1.toInt y2.toInt) → IV BB m3 → fr (wY aT) m m3 → ((160 - y2.toInt) : Int).toNat < fuel7 → PV none g mX6_aimLeaps (sqV T BB (wY aT) r m (fun m' => (m' aT 7).toInt = (m aT 7).toInt ∧ AIMD aT m m' x0.toInt x1.toInt)) 1 0 0 6 [.ref aT, .int x0, .int x1, .int y2] [] (mk T m3 n4 r) := by
    intro fuel7
    induction fuel7 with
    | zero => intro y2 m3 n4 b10 b11 b12 b13 b14 b15 I5 K6 z16; omega
    | succ fuel7 ih9 =>
      intro y2 m3 n4 b10 b11 b12 b13 b14 b15 I5 K6 z16
      have kga := (show AIMp aT m m3 x0.toInt x1.toInt y2.toInt by assumption)
      refine pv_iload_n (M := mX6_aimLeaps) 3 dX6_aimLeaps_6 7 rfl rfl rfl ?_
      refine pv_aload_n (M := mX6_aimLeaps) 0 dX6_aimLeaps_7 8 rfl rfl rfl ?_
      refine iv_get (M := mX6_aimLeaps) (l1 := 0) (l2 := 160) dX6_aimLeaps_8 FX6 2 wd235 (by decide) haT.2.1 rfl I5 (law_b2 haT) 11 rfl (fun v18 ev18 pv18 qv18 => ?_)
      have wv18 : v18.toInt = (m3 aT 2).toInt := congrArg Int32.toInt ev18
      refine pv_icmp_ge (M := mX6_aimLeaps) (tgt := 50) dX6_aimLeaps_11 14 rfl (by decide) (fun c19 => ?_) (fun c19 => ?_)
      · have c19 := iv_le (X := v18.toInt) (Y := y2.toInt) c19 rfl rfl
        exact pv_vret (M := mX6_aimLeaps) dX6_aimLeaps_50 rfl ⟨_, _, rfl, rfl, I5, K6, ⟨by omega, AIMp_D kga (by omega) (by omega) (by omega) (by omega)⟩⟩
      · have c19 := iv_nle (X := v18.toInt) (Y := y2.toInt) c19 rfl rfl
        refine pv_aload_n (M := mX6_aimLeaps) 0 dX6_aimLeaps_14 15 rfl rfl rfl ?_
        refine mv_get (M := mX6_aimLeaps) (v := .ref (aT + 1)) dX6_aimLeaps_15 FX6 0 wd233 (by decide) haT.2.1 rfl rfl 18 rfl ?_
        refine pv_iload_n (M := mX6_aimLeaps) 3 dX6_aimLeaps_18 19 rfl rfl rfl ?_
        refine iv_iald (M := mX6_aimLeaps) (X := y2.toInt) (l1 := (-2147483648)) (l2 := 2147483647) dX6_aimLeaps_19 (law_a1 haT) rfl (by omega) (by omega) I5 (law_c1 haT) 20 rfl (fun v20 ev20 pv20 qv20 => ?_)
        have k20 : v20 = m3 (aT + 1) y2.toInt.toNat := ev20
        refine pv_iload_n (M := mX6_aimLeaps) 1 dX6_aimLeaps_20 21 rfl rfl rfl ?_
        refine pv_icmp_ne (M := mX6_aimLeaps) (tgt := 44) dX6_aimLeaps_21 24 rfl (by decide) (fun c22 => ?_) (fun c22 => ?_)
        · have c22 := iv_ne (X := v20.toInt) (Y := x0.toInt) c22 rfl rfl
          refine iv_inc (M := mX6_aimLeaps) (C := 1) dX6_aimLeaps_44 47 rfl rfl (by decide) rfl rfl (by decide) (by omega) (by omega) (fun v23 ev23 => ?_)
          show PV _ _ _ _ _ _ _ 47 [.ref aT, .int x0, .int x1, .int v23] [] _
          refine pv_goto (M := mX6_aimLeaps) (tgt := 6) dX6_aimLeaps_47 (by decide) ?_
          have kab : AIMp aT m m3 x0.toInt x1.toInt v23.toInt := by first | exact AIMp_hit kga (by omega) (by omega) (by omega) noE rfl (by omega) k24 k34 | exact AIMp_skip kga (by omega) (by omega) (by omega) (fun q => by have q2 : (m3 (aT + 2) (y2.toInt).toNat).toInt = -1 := q.2; rw [← k30] at q2; omega) | exact AIMp_skip kga (by omega) (by omega) (by omega) (fun q => by have q1 : (m3 (aT + 1) (y2.toInt).toNat).toInt = x0.toInt := q.1; rw [← k20] at q1; omega)
          exact ih9 v23 m3 n4 (by first | omega | assumption | exact (iv_rng _).2 | exact (iv_rng _).1 | decide) (by first | omega | assumption | exact (iv_rng _).2 | exact (iv_rng _).1 | decide) (by first | omega | assumption | (show x1.toInt ≤ v23.toInt; omega) | decide) (by first | omega | assumption | (show (m3 aT 2).toInt = (m aT 2).toInt; omega) | decide) (by first | omega | assumption | (show (m3 aT 7).toInt = (m aT 7).toInt; omega) | decide) kab I5 K6 (by omega)
        · have c22 := iv_eq (X := v20.toInt) (Y := x0.toInt) c22 rfl rfl
          have k24 : (cdC m3 aT y2.toInt.toNat).1 = x0.toInt := by show (m3 (aT + 1) y2.toInt.toNat).toInt = _; rw [← k20]; omega
          refine pv_aload_n (M := mX6_aimLeaps) 0 dX6_aimLeaps_24 25 rfl rfl rfl ?_
          refine mv_get (M := mX6_aimLeaps) (v := .ref (aT + 2)) dX6_aimLeaps_25 FX6 1 wd234 (by decide) haT.2.1 rfl rfl 28 rfl ?_
          refine pv_iload_n (M := mX6_aimLeaps) 3 dX6_aimLeaps_28 29 rfl rfl rfl ?_
          refine iv_iald (M := mX6_aimLeaps) (X := y2.toInt) (l1 := (-1)) (l2 := 99999) dX6_aimLeaps_29 (law_a2 haT) rfl (by omega) (by omega) I5 (law_c2 haT) 30 rfl (fun v26 ev26 pv26 qv26 => ?_)
          have k30 : v26 = m3 (aT + 2) y2.toInt.toNat := ev26
          refine pv_iconst (M := mX6_aimLeaps) (v := (-1)) dX6_aimLeaps_30 31 rfl (by decide) ?_
          refine pv_icmp_ne (M := mX6_aimLeaps) (tgt := 44) dX6_aimLeaps_31 34 rfl (by decide) (fun c28 => ?_) (fun c28 => ?_)
          · have c28 := iv_ne (X := v26.toInt) (Y := (-1)) c28 rfl (by decide)
            refine iv_inc (M := mX6_aimLeaps) (C := 1) dX6_aimLeaps_44 47 rfl rfl (by decide) rfl rfl (by decide) (by omega) (by omega) (fun v29 ev29 => ?_)
            show PV _ _ _ _ _ _ _ 47 [.ref aT, .int x0, .int x1, .int v29] [] _
            refine pv_goto (M := mX6_aimLeaps) (tgt := 6) dX6_aimLeaps_47 (by decide) ?_
            have kab : AIMp aT m m3 x0.toInt x1.toInt v29.toInt := by first | exact AIMp_hit kga (by omega) (by omega) (by omega) noE rfl (by omega) k24 k34 | exact AIMp_skip kga (by omega) (by omega) (by omega) (fun q => by have q2 : (m3 (aT + 2) (y2.toInt).toNat).toInt = -1 := q.2; rw [← k30] at q2; omega) | exact AIMp_skip kga (by omega) (by omega) (by omega) (fun q => by have q1 : (m3 (aT + 1) (y2.toInt).toNat).toInt = x0.toInt := q.1; rw [← k20] at q1; omega)
            exact ih9 v29 m3 n4 (by first | omega | assumption | exact (iv_rng _).2 | exact (iv_rng _).1 | decide) (by first | omega | assumption | exact (iv_rng _).2 | exact (iv_rng _).1 | decide) (by first | omega | assumption | (show x1.toInt ≤ v29.toInt; omega) | decide) (by first | omega | assumption | (show (m3 aT 2).toInt = (m aT 2).toInt; omega) | decide) (by first | omega | assumption | (show (m3 aT 7).toInt = (m aT 7).toInt; omega) | decide) kab I5 K6 (by omega)
          · have c28 := iv_eq (X := v26.toInt) (Y := (-1)) c28 rfl (by decide)
            have k34 : (cdC m3 aT y2.toInt.toNat).2.toInt = -1 := by show (m3 (aT + 2) y2.toInt.toNat).toInt = _; rw [← k30]; omega
            refine pv_aload_n (M := mX6_aimLeaps) 0 dX6_aimLeaps_34 35 rfl rfl rfl ?_
            refine mv_get (M := mX6_aimLeaps) (v := .ref (aT + 2)) dX6_aimLeaps_35 FX6 1 wd234 (by decide) haT.2.1 rfl rfl 38 rfl ?_
            refine pv_iload_n (M := mX6_aimLeaps) 3 dX6_aimLeaps_38 39 rfl rfl rfl ?_
            refine pv_aload_n (M := mX6_aimLeaps) 0 dX6_aimLeaps_39 40 rfl rfl rfl ?_
            refine iv_get (M := mX6_aimLeaps) (l1 := 0) (l2 := 160) dX6_aimLeaps_40 FX6 2 wd235 (by decide) haT.2.1 rfl I5 (law_b2 haT) 43 rfl (fun v32 ev32 pv32 qv32 => ?_)
            have wv32 : v32.toInt = (m3 aT 2).toInt := congrArg Int32.toInt ev32
            refine iv_iast (M := mX6_aimLeaps) (X := y2.toInt) (l1 := (-1)) (l2 := 99999) dX6_aimLeaps_43 (law_a2 haT) rfl (by omega) (by omega) I5 (law_c2 haT) (by omega) (by omega) 44 rfl (fun m33 e36 I34 => ?_)
            have K35 := K6.set e36 (by first | exact wY_2 | exact wY_s | exact wY_o)
            have w37 : (m33 aT 2).toInt = (m3 aT 2).toInt := by rw [e36, up2_ne (by omega)]
            have w38 : (m33 aT 7).toInt = (m3 aT 7).toInt := by rw [e36, up2_ne (by omega)]
            refine iv_inc (M := mX6_aimLeaps) (C := 1) dX6_aimLeaps_44 47 rfl rfl (by decide) rfl rfl (by decide) (by omega) (by omega) (fun v39 ev39 => ?_)
            show PV _ _ _ _ _ _ _ 47 [.ref aT, .int x0, .int x1, .int v39] [] _
            refine pv_goto (M := mX6_aimLeaps) (tgt := 6) dX6_aimLeaps_47 (by decide) ?_
            have kab : AIMp aT m m33 x0.toInt x1.toInt v39.toInt := by first | exact AIMp_hit kga (by omega) (by omega) (by omega) e36 rfl (by omega) k24 k34 | exact AIMp_skip kga (by omega) (by omega) (by omega) (fun q => by have q2 : (m33 (aT + 2) (y2.toInt).toNat).toInt = -1 := q.2; rw [← k30] at q2; omega) | exact AIMp_skip kga (by omega) (by omega) (by omega) (fun q => by have q1 : (m33 (aT + 1) (y2.toInt).toNat).toInt = x0.toInt := q.1; rw [← k20] at q1; omega)
            exact ih9 v39 m33 n4 (by first | omega | assumption | exact (iv_rng _).2 | exact (iv_rng _).1 | decide) (by first | omega | assumption | exact (iv_rng _).2 | exact (iv_rng _).1 | decide) (by first | omega | assumption | (show x1.toInt ≤ v39.toInt; omega) | decide) (by first | omega | assumption | (show (m33 aT 2).toInt = (m aT 2).toInt; omega) | decide) (by first | omega | assumption | (show (m33 aT 7).toInt = (m aT 7).toInt; omega) | decide) kab I34 K35 (by omega)
  have kl3 : v1.toInt = x1.toInt := by omega
  have ka0 : AIMp aT m m x0.toInt x1.toInt v1.toInt := by rw [kl3]; exact AIMp_0
  exact lp8 (((160 - v1.toInt) : Int).toNat + 1) v1 m n (by first | omega | assumption | exact (iv_rng _).2 | exact (iv_rng _).1 | decide) (by first | omega | assumption | exact (iv_rng _).2 | exact (iv_rng _).1 | decide) (by first | omega | assumption | (show x1.toInt ≤ v1.toInt; omega) | decide) (by first | omega | assumption | (show (m aT 2).toInt = (m aT 2).toInt; omega) | decide) (by first | omega | assumption | (show (m aT 7).toInt = (m aT 7).toInt; omega) | decide) ka0 I Kp (by omega)

set_option maxHeartbeats 2000000 in
set_option maxRecDepth 20000 in
theorem s_X7_fail_vz (g : pv_G) {T : List mv_T} {m : Nat → Nat → Int32} {n : Nat → Nat → Int64} {r : Nat → Value} {la lb : Nat} (hT : TX T) (I : IV BB m) (R : RX T r la lb) (x0 : Int32) (hl0 : 1 ≤ x0.toInt) (hh0 : x0.toInt ≤ 5) (hp0 : (m 86 3).toInt ≤ (m 86 2).toInt) : PM g mX7_fail yX7_fail (sqI T BB wz86 r m 0 1 (fun m' v => (m 86 3).toInt ≤ (m' 86 3).toInt ∧ (m' 86 3).toInt ≤ (m' 86 2).toInt ∧ (m' 86 2).toInt = (m 86 2).toInt ∧ (v.toInt = 0 ∧ (m' 86 3).toInt = (m 86 3).toInt ∧ (m' 86 4).toInt = -1000 * x0.toInt - (m 86 3).toInt) ∧ (m' lb 7).toInt = (m lb 7).toInt)) 1 0 0 [.ref 86, .int x0] (mk T m n r) := by
  have Kp : fr wz86 m m := fr.rf
  have R0 := R
  have zR := R.2.2.2.2.1.1
  have zR2 := R.2.2.2.2.2.1
  have z13 : 0 ≤ (m 86 3).toInt ∧ (m 86 3).toInt ≤ 160 := I 86 3
  have z14 : 0 ≤ (m 86 2).toInt ∧ (m 86 2).toInt ≤ 160 := I 86 2
  refine PM.of 0 (lo := [.ref 86, .int x0]) rfl (by decide) rfl rfl (Nat.le_of_ble_eq_true rfl) ?_
  refine pv_aload_n (M := mX7_fail) 0 dX7_fail_0 1 rfl rfl rfl ?_
  refine pv_sipush (M := mX7_fail) (v := (-1000)) dX7_fail_1 4 rfl (by decide) ?_
  refine pv_iload_n (M := mX7_fail) 1 dX7_fail_4 5 rfl rfl rfl ?_
  refine iv_imul (M := mX7_fail) (X := (-1000)) (Y := x0.toInt) dX7_fail_5 6 rfl (by decide) rfl (by omega) (by omega) (fun v1 ev1 => ?_)
  refine pv_aload_n (M := mX7_fail) 0 dX7_fail_6 7 rfl rfl rfl ?_
  refine iv_get (M := mX7_fail) (l1 := 0) (l2 := 160) dX7_fail_7 FX7 3 wd283 (by decide) (tl86 hT) rfl I rfl 10 rfl (fun v2 ev2 pv2 qv2 => ?_)
  have wv2 : v2.toInt = (m 86 3).toInt := congrArg Int32.toInt ev2
  refine iv_isub (M := mX7_fail) (X := v1.toInt) (Y := v2.toInt) dX7_fail_10 11 rfl rfl rfl (by omega) (by omega) (fun v3 ev3 => ?_)
  refine iv_put (M := mX7_fail) (l1 := (-2147483648)) (l2 := 2147483647) dX7_fail_11 FX7 4 wd284 (by decide) rfl (tl86 hT) rfl rfl rfl I rfl (iv_rng v3).1 (iv_rng v3).2 14 rfl (fun m4 e7 I5 => ?_)
  have K6 := Kp.set e7 (by first | rfl | decide)
  have w8 : (m4 86 3).toInt = (m 86 3).toInt := by rw [e7, up2_ne (by omega)]
  have w9 : (m4 86 2).toInt = (m 86 2).toInt := by rw [e7, up2_ne (by omega)]
  have w10 : (m4 86 4).toInt = v3.toInt := by rw [e7, up2_eq]
  have w11 : (m4 lb 7).toInt = (m lb 7).toInt := by rw [e7, up2_ne (by omega)]
  refine pv_iconst (M := mX7_fail) (v := 0) dX7_fail_14 15 rfl (by decide) ?_
  have z12 : (0 : Int32).toInt = 0 := by decide
  exact pv_iret (M := mX7_fail) dX7_fail_15 rfl rfl ⟨_, _, _, rfl, rfl, I5, K6, by decide, by decide, ⟨by omega, by omega, by omega, ⟨by decide, by omega, by omega⟩, by omega⟩⟩

set_option maxHeartbeats 2000000 in
set_option maxRecDepth 20000 in
theorem s_X7_pass_vz (g : pv_G) {T : List mv_T} {m : Nat → Nat → Int32} {n : Nat → Nat → Int64} {r : Nat → Value} {la lb : Nat} (hT : TX T) (I : IV BB m) (R : RX T r la lb) (x0 : Int32) (hl0 : 0 ≤ x0.toInt) (hh0 : x0.toInt ≤ 1000) (hp0 : (m 86 3).toInt ≤ (m 86 2).toInt) : PM g mX7_pass yX7_pass (sqI T BB wz86 r m 0 1 (fun m' v => (m 86 3).toInt ≤ (m' 86 3).toInt ∧ (m' 86 3).toInt ≤ (m' 86 2).toInt ∧ (m' 86 2).toInt = (m 86 2).toInt ∧ ((v.toInt = 1 ∧ tC m (m 86 3).toInt = x0.toInt ∧ (m' 86 3).toInt = (m 86 3).toInt + 1) ∨ (v.toInt = 0 ∧ tC m (m 86 3).toInt ≠ x0.toInt ∧ (m' 86 4).toInt = -1000 - (m 86 3).toInt ∧ (m' 86 3).toInt = (m 86 3).toInt)) ∧ (m' lb 7).toInt = (m lb 7).toInt)) 2 0 0 [.ref 86, .int x0] (mk T m n r) := by
  have Kp : fr wz86 m m := fr.rf
  have R0 := R
  have zR := R.2.2.2.2.1.1
  have zR2 := R.2.2.2.2.2.1
  have z25 : 0 ≤ (m 86 3).toInt ∧ (m 86 3).toInt ≤ 160 := I 86 3
  have z26 : 0 ≤ (m 86 2).toInt ∧ (m 86 2).toInt ≤ 160 := I 86 2
  refine PM.of 0 (lo := [.ref 86, .int x0]) rfl (by decide) rfl rfl (Nat.le_of_ble_eq_true rfl) ?_
  refine pv_aload_n (M := mX7_pass) 0 dX7_pass_0 1 rfl rfl rfl ?_
  refine pv_callv (M := mX7_pass) (as := []) (st := []) (kc2 := 0) (ks2 := 0) dX7_pass_1 wd527 YX7_peek ⟨wd529, wd2⟩ (mk_get (tl86 hT)) rfl rfl (s_X7_peek_vx g hT I R) rfl rfl (Nat.le_of_ble_eq_true rfl) (by decide) rfl rfl 4 rfl (fun rv h1 q1 => ?_)
  obtain ⟨v2, rfl, rfl, pv2, qv2, rv2⟩ := q1
  replace rv2 : v2.toInt = tC m (m 86 3).toInt ∧ (v2.toInt = -1 ∨ (m 86 3).toInt < (m 86 2).toInt) := rv2
  show PV _ _ _ _ _ _ _ 4 [.ref 86, .int x0] [.int v2] _
  have k4 := rv2.1
  have k4b := rv2.2
  refine pv_iload_n (M := mX7_pass) 1 dX7_pass_4 5 rfl rfl rfl ?_
  refine pv_icmp_eq (M := mX7_pass) (tgt := 14) dX7_pass_5 8 rfl (by decide) (fun c5 => ?_) (fun c5 => ?_)
  · have c5 := iv_eq (X := v2.toInt) (Y := x0.toInt) c5 rfl rfl
    refine pv_aload_n (M := mX7_pass) 0 dX7_pass_14 15 rfl rfl rfl ?_
    refine pv_dup (M := mX7_pass) dX7_pass_15 16 rfl rfl ?_
    refine iv_get (M := mX7_pass) (l1 := 0) (l2 := 160) dX7_pass_16 FX7 3 wd283 (by decide) (tl86 hT) rfl I rfl 19 rfl (fun v6 ev6 pv6 qv6 => ?_)
    have wv6 : v6.toInt = (m 86 3).toInt := congrArg Int32.toInt ev6
    refine pv_iconst (M := mX7_pass) (v := 1) dX7_pass_19 20 rfl (by decide) ?_
    refine iv_iadd (M := mX7_pass) (X := v6.toInt) (Y := 1) dX7_pass_20 21 rfl rfl (by decide) (by omega) (by omega) (fun v7 ev7 => ?_)
    refine iv_put (M := mX7_pass) (l1 := 0) (l2 := 160) dX7_pass_21 FX7 3 wd283 (by decide) rfl (tl86 hT) rfl rfl rfl I rfl (by omega) (by omega) 24 rfl (fun m8 e11 I9 => ?_)
    have K10 := Kp.set e11 (by first | rfl | decide)
    have w12 : (m8 86 3).toInt = v7.toInt := by rw [e11, up2_eq]
    have w13 : (m8 86 2).toInt = (m 86 2).toInt := by rw [e11, up2_ne (by omega)]
    have w14 : (m8 86 4).toInt = (m 86 4).toInt := by rw [e11, up2_ne (by omega)]
    have w15 : (m8 lb 7).toInt = (m lb 7).toInt := by rw [e11, up2_ne (by omega)]
    refine pv_iconst (M := mX7_pass) (v := 1) dX7_pass_24 25 rfl (by decide) ?_
    have z16 : (1 : Int32).toInt = 1 := by decide
    exact pv_iret (M := mX7_pass) dX7_pass_25 rfl rfl ⟨_, _, _, rfl, rfl, I9, K10, by decide, by decide, ⟨by omega, by omega, by omega, Or.inl ⟨by decide, by omega, by omega⟩, by omega⟩⟩
  · have c5 := iv_ne (X := v2.toInt) (Y := x0.toInt) c5 rfl rfl
    refine pv_aload_n (M := mX7_pass) 0 dX7_pass_8 9 rfl rfl rfl ?_
    refine pv_iconst (M := mX7_pass) (v := 1) dX7_pass_9 10 rfl (by decide) ?_
    have z17 : (1 : Int32).toInt = 1 := by decide
    refine pv_callv (M := mX7_pass) (as := [.int 1]) (st := []) (kc2 := 0) (ks2 := 0) dX7_pass_10 wd531 YX7_fail ⟨wd533, wd3⟩ (mk_get (tl86 hT)) rfl rfl (s_X7_fail_vz g hT I R 1 (by decide) (by decide) (by first | omega | assumption | exact (iv_rng _).2 | exact (iv_rng _).1 | decide)) rfl rfl (Nat.le_of_ble_eq_true rfl) (by decide) rfl rfl 13 rfl (fun rv h1 q18 => ?_)
    obtain ⟨m19, n20, v23, rfl, rfl, I21, K22, pv23, qv23, rv23⟩ := q18
    replace rv23 : (m 86 3).toInt ≤ (m19 86 3).toInt ∧ (m19 86 3).toInt ≤ (m19 86 2).toInt ∧ (m19 86 2).toInt = (m 86 2).toInt ∧ (v23.toInt = 0 ∧ (m19 86 3).toInt = (m 86 3).toInt ∧ (m19 86 4).toInt = -1000 * (1 : Int) - (m 86 3).toInt) ∧ (m19 lb 7).toInt = (m lb 7).toInt := by have q_ := rv23; (try rw [z17] at q_); exact q_
    have K22c := K22
    have w24 : (m19 86 2).toInt = (m 86 2).toInt := congrArg Int32.toInt (K22 86 2 rfl)
    have K22 := Kp.trans (K22.sub (fun _ _ q => q))
    show PV _ _ _ _ _ _ _ 13 [.ref 86, .int x0] [.int v23] _
    exact pv_iret (M := mX7_pass) dX7_pass_13 rfl (iv_nz (by omega) (by omega)) ⟨_, _, _, rfl, rfl, I21, K22, by omega, by omega, ⟨by omega, by omega, by omega, Or.inr ⟨by omega, by omega, by omega, by omega⟩, by omega⟩⟩

set_option maxHeartbeats 2000000 in
set_option maxRecDepth 20000 in
theorem s_X7_open_vz (g : pv_G) {T : List mv_T} {m : Nat → Nat → Int32} {n : Nat → Nat → Int64} {r : Nat → Value} {la lb : Nat} (hT : TX T) (I : IV BB m) (R : RX T r la lb) (x0 : Int32) (hl0 : 0 ≤ x0.toInt) (hh0 : x0.toInt ≤ 6) (hp0 : (m 86 3).toInt < (m 86 2).toInt) : PM g mX7_open yX7_open (sqI T BB wz86 r m 0 1 (fun m' v => (v = 0 ∨ x0.toInt ≤ 5) ∧ (m 86 3).toInt ≤ (m' 86 3).toInt ∧ (m' 86 3).toInt ≤ (m' 86 2).toInt ∧ (m' 86 2).toInt = (m 86 2).toInt ∧ ((v.toInt = 1 ∧ x0.toInt ≤ 5 ∧ (m' 86 3).toInt = (m 86 3).toInt + 1) ∨ (v.toInt = 0 ∧ 6 ≤ x0.toInt ∧ (m' 86 4).toInt = -5000 - (m 86 3).toInt ∧ (m' 86 3).toInt = (m 86 3).toInt)) ∧ (m' lb 7).toInt = (m lb 7).toInt)) 2 0 0 [.ref 86, .int x0] (mk T m n r) := by
  have Kp : fr wz86 m m := fr.rf
  have R0 := R
  have zR := R.2.2.2.2.1.1
  have zR2 := R.2.2.2.2.2.1
  have z21 : 0 ≤ (m 86 3).toInt ∧ (m 86 3).toInt ≤ 160 := I 86 3
  have z22 : 0 ≤ (m 86 2).toInt ∧ (m 86 2).toInt ≤ 160 := I 86 2
  refine PM.of 0 (lo := [.ref 86, .int x0]) rfl (by decide) rfl rfl (Nat.le_of_ble_eq_true rfl) ?_
  refine pv_iload_n (M := mX7_open) 1 dX7_open_0 1 rfl rfl rfl ?_
  refine pv_bipush (M := mX7_open) (v := 6) dX7_open_1 3 rfl (by decide) ?_
  refine pv_icmp_lt (M := mX7_open) (tgt := 12) dX7_open_3 6 rfl (by decide) (fun c1 => ?_) (fun c1 => ?_)
  · have c1 := iv_lt (X := x0.toInt) (Y := 6) c1 rfl (by decide)
    refine pv_aload_n (M := mX7_open) 0 dX7_open_12 13 rfl rfl rfl ?_
    refine pv_dup (M := mX7_open) dX7_open_13 14 rfl rfl ?_
    refine iv_get (M := mX7_open) (l1 := 0) (l2 := 160) dX7_open_14 FX7 3 wd283 (by decide) (tl86 hT) rfl I rfl 17 rfl (fun v2 ev2 pv2 qv2 => ?_)
    have wv2 : v2.toInt = (m 86 3).toInt := congrArg Int32.toInt ev2
    refine pv_iconst (M := mX7_open) (v := 1) dX7_open_17 18 rfl (by decide) ?_
    refine iv_iadd (M := mX7_open) (X := v2.toInt) (Y := 1) dX7_open_18 19 rfl rfl (by decide) (by omega) (by omega) (fun v3 ev3 => ?_)
    refine iv_put (M := mX7_open) (l1 := 0) (l2 := 160) dX7_open_19 FX7 3 wd283 (by decide) rfl (tl86 hT) rfl rfl rfl I rfl (by omega) (by omega) 22 rfl (fun m4 e7 I5 => ?_)
    have K6 := Kp.set e7 (by first | rfl | decide)
    have w8 : (m4 86 3).toInt = v3.toInt := by rw [e7, up2_eq]
    have w9 : (m4 86 2).toInt = (m 86 2).toInt := by rw [e7, up2_ne (by omega)]
    have w10 : (m4 86 4).toInt = (m 86 4).toInt := by rw [e7, up2_ne (by omega)]
    have w11 : (m4 lb 7).toInt = (m lb 7).toInt := by rw [e7, up2_ne (by omega)]
    refine pv_iconst (M := mX7_open) (v := 1) dX7_open_22 23 rfl (by decide) ?_
    have z12 : (1 : Int32).toInt = 1 := by decide
    exact pv_iret (M := mX7_open) dX7_open_23 rfl rfl ⟨_, _, _, rfl, rfl, I5, K6, by decide, by decide, ⟨Or.inr (by omega), by omega, by omega, by omega, Or.inl ⟨by decide, by omega, by omega⟩, by omega⟩⟩
  · have c1 := iv_nlt (X := x0.toInt) (Y := 6) c1 rfl (by decide)
    refine pv_aload_n (M := mX7_open) 0 dX7_open_6 7 rfl rfl rfl ?_
    refine pv_iconst (M := mX7_open) (v := 5) dX7_open_7 8 rfl (by decide) ?_
    have z13 : (5 : Int32).toInt = 5 := by decide
    refine pv_callv (M := mX7_open) (as := [.int 5]) (st := []) (kc2 := 0) (ks2 := 0) dX7_open_8 wd531 YX7_fail ⟨wd533, wd3⟩ (mk_get (tl86 hT)) rfl rfl (s_X7_fail_vz g hT I R 5 (by decide) (by decide) (by first | omega | assumption | exact (iv_rng _).2 | exact (iv_rng _).1 | decide)) rfl rfl (Nat.le_of_ble_eq_true rfl) (by decide) rfl rfl 11 rfl (fun rv h1 q14 => ?_)
    obtain ⟨m15, n16, v19, rfl, rfl, I17, K18, pv19, qv19, rv19⟩ := q14
    replace rv19 : (m 86 3).toInt ≤ (m15 86 3).toInt ∧ (m15 86 3).toInt ≤ (m15 86 2).toInt ∧ (m15 86 2).toInt = (m 86 2).toInt ∧ (v19.toInt = 0 ∧ (m15 86 3).toInt = (m 86 3).toInt ∧ (m15 86 4).toInt = -1000 * (5 : Int) - (m 86 3).toInt) ∧ (m15 lb 7).toInt = (m lb 7).toInt := by have q_ := rv19; (try rw [z13] at q_); exact q_
    have K18c := K18
    have w20 : (m15 86 2).toInt = (m 86 2).toInt := congrArg Int32.toInt (K18 86 2 rfl)
    have K18 := Kp.trans (K18.sub (fun _ _ q => q))
    show PV _ _ _ _ _ _ _ 11 [.ref 86, .int x0] [.int v19] _
    exact pv_iret (M := mX7_open) dX7_open_11 rfl (iv_nz (by omega) (by omega)) ⟨_, _, _, rfl, rfl, I17, K18, by omega, by omega, ⟨Or.inl (Int32.toInt_inj.mp (by rw [Int32.toInt_zero]; omega)), by omega, by omega, by omega, Or.inr ⟨by omega, by omega, by omega, by omega⟩, by omega⟩⟩

set_option maxHeartbeats 2000000 in
set_option maxRecDepth 20000 in
theorem s_X7_readNumber_vz (g : pv_G) {T : List mv_T} {m : Nat → Nat → Int32} {n : Nat → Nat → Int64} {r : Nat → Value} {la lb : Nat} (hT : TX T) (I : IV BB m) (R : RX T r la lb) (hp0 : (m 86 3).toInt < (m 86 2).toInt) (hp1 : (m lb 2).toInt ≤ (m 86 3).toInt) : PM g mX7_readNumber yX7_readNumber (sqI T BB (wZ lb) r m 0 1 (fun m' v => (m 86 3).toInt ≤ (m' 86 3).toInt ∧ (m' 86 3).toInt ≤ (m' 86 2).toInt ∧ (m' 86 2).toInt = (m 86 2).toInt ∧ (RSX (nd (tC m) 5 (m 86 3).toInt) v.toInt (m' 86 3).toInt (m' 86 4).toInt) ∧ (m' lb 7).toInt = (m lb 7).toInt ∧ IFZ v.toInt (CDS lb m m' 1 (cD (Int32.ofInt (ndv (tC m) 5 (m 86 3).toInt 0))) 1))) 2 0 0 [.ref 86] (mk T m n r) := by
  have Kp : fr (wZ lb) m m := fr.rf
  have R0 := R
  have zR := R.2.2.2.2.1.1
  have zR2 := R.2.2.2.2.2.1
  have z122 : 0 ≤ (m 86 3).toInt ∧ (m 86 3).toInt ≤ 160 := I 86 3
  have z123 : 0 ≤ (m 86 2).toInt ∧ (m 86 2).toInt ≤ 160 := I 86 2
  refine PM.of 2 (lo := [.ref 86, pv_U, pv_U]) rfl (by decide) rfl rfl (Nat.le_of_ble_eq_true rfl) ?_
  refine pv_iconst (M := mX7_readNumber) (v := 0) dX7_readNumber_0 1 rfl (by decide) ?_
  refine pv_istore_n (M := mX7_readNumber) 1 (lo2 := [.ref 86, .int 0, pv_U]) dX7_readNumber_1 2 rfl rfl (by decide) rfl rfl ?_
  refine pv_iconst (M := mX7_readNumber) (v := 0) dX7_readNumber_2 3 rfl (by decide) ?_
  refine pv_istore_n (M := mX7_readNumber) 2 (lo2 := [.ref 86, .int 0, .int 0]) dX7_readNumber_3 4 rfl rfl (by decide) rfl rfl ?_
  have lp8 : ∀ (fuel7 : Nat) (y1 : Int32) (y2 : Int32) (m3 : Nat → Nat → Int32) (n4 : Nat → Nat → Int64), (0 ≤ y1.toInt) → (y1.toInt ≤ 99999) → (0 ≤ y2.toInt) → (y2.toInt ≤ 5) → (y1.toInt + 1 ≤ pow10 y2.toInt) → ((m 86 3).toInt ≤ (m3 86 3).toInt) → ((m3 86 3).toInt ≤ (m3 86 2).toInt) → ((m3 86 2).toInt = (m 86 2).toInt) → (nd (tC m) 5 (m 86 3).toInt = nd (tC m) (5 - y2.toInt).toNat (m3 86 3).toInt) → ((m3 lb 7).toInt = (m lb 7).toInt) → (SAML lb m m3) → (ndv (tC m) 5 (m 86 3).toInt 0 = ndv (tC m) (5 - y2.toInt).toNat (m3 86 3).toInt y1.toInt) → IV BB m3 → fr (wZ lb) m m3 → ((5 - y2.toInt) : Int).toNat < fuel7 → PV none g mX7_readNumber (sqI T BB (wZ lb) r m 0 1 (fun m' v => (m 86 3).toInt ≤ (m' 86 3).toInt ∧ (m' 86 3).toInt ≤ (m' 86 2).toInt ∧ (m' 86 2).toInt = (m 86 2).toInt ∧ (RSX (nd (tC m) 5 (m 86 3).toInt) v.toInt (m' 86 3).toInt (m' 86 4).toInt) ∧ (m' lb 7).toInt = (m lb 7).toInt ∧ IFZ v.toInt (CDS lb m m' 1 (cD (Int32.ofInt (ndv (tC m) 5 (m 86 3).toInt 0))) 1))) 2 0 0 4 [.ref 86, .int y1, .int y2] [] (mk T m3 n4 r) := by
    intro fuel7
    induction fuel7 with
    | zero => intro y1 y2 m3 n4 b10 b11 b12 b13 b14 b15 b16 b17 b18 b19 b20 b21 I5 K6 z22; omega
    | succ fuel7 ih9 =>
      intro y1 y2 m3 n4 b10 b11 b12 b13 b14 b15 b16 b17 b18 b19 b20 b21 I5 K6 z22
      have z23 : 0 ≤ (m3 86 3).toInt ∧ (m3 86 3).toInt ≤ 160 := I5 86 3
      have z24 : 0 ≤ (m3 86 2).toInt ∧ (m3 86 2).toInt ≤ 160 := I5 86 2
      have kgn := (show nd (tC m) 5 (m 86 3).toInt = nd (tC m) (5 - y2.toInt).toNat (m3 86 3).toInt by assumption)
      have kt4 : tC m3 = tC m := tC_fz zR2 K6
      have kt4b : tC m3 = tC m := kt4
      have klB := I lb 2
      rw [law_b2 R.2.2.2.2.2] at klB
      have klb0 : 0 ≤ (m lb 2).toInt := klB.1
      have kgs := (show SAML lb m m3 by assumption)
      have kgv := (show ndv (tC m) 5 (m 86 3).toInt 0 = ndv (tC m) (5 - y2.toInt).toNat (m3 86 3).toInt y1.toInt by assumption)
      have kls : (m3 lb 2).toInt = (m lb 2).toInt := congrArg Int32.toInt kgs.1
      refine pv_iload_n (M := mX7_readNumber) 2 dX7_readNumber_4 5 rfl rfl rfl ?_
      refine pv_iconst (M := mX7_readNumber) (v := 5) dX7_readNumber_5 6 rfl (by decide) ?_
      refine pv_icmp_ge (M := mX7_readNumber) (tgt := 50) dX7_readNumber_6 9 rfl (by decide) (fun c34 => ?_) (fun c34 => ?_)
      · have c34 := iv_le (X := 5) (Y := y2.toInt) c34 (by decide) rfl
        refine pv_aload_n (M := mX7_readNumber) 0 dX7_readNumber_50 51 rfl rfl rfl ?_
        refine pv_callv (M := mX7_readNumber) (as := []) (st := []) (kc2 := 0) (ks2 := 0) dX7_readNumber_51 wd559 YX7_digitAhead ⟨wd561, wd9⟩ (mk_get (tl86 hT)) rfl rfl (s_X7_digitAhead_vx g hT I5 R) rfl rfl (Nat.le_of_ble_eq_true rfl) (by decide) rfl rfl 54 rfl (fun rv h1 q35 => ?_)
        obtain ⟨v36, rfl, rfl, pv36, qv36, rv36⟩ := q35
        replace rv36 : (v36 = 0 ∨ ((m3 86 3).toInt < (m3 86 2).toInt ∧ 48 ≤ (m3 87 (m3 86 3).toInt.toNat).toInt ∧ (m3 87 (m3 86 3).toInt.toNat).toInt ≤ 57)) ∧ ((v36.toInt = 1 ∧ dig (tC m3 (m3 86 3).toInt) = true) ∨ (v36.toInt = 0 ∧ dig (tC m3 (m3 86 3).toInt) = false)) := rv36
        show PV _ _ _ _ _ _ _ 54 [.ref 86, .int y1, .int y2] [.int v36] _
        have k54 := rv36.2
        rw [kt4] at k54
        refine pv_if_eq (M := mX7_readNumber) (tgt := 63) dX7_readNumber_54 57 rfl (by decide) (fun c39 => ?_) (fun c39 => ?_)
        · have c39 := iv_eq (X := v36.toInt) (Y := 0) c39 rfl (by decide)
          have kdn := (k54.resolve_left (fun q => by have q1 := q.1; omega)).2
          have kve : ndv (tC m) 5 (m 86 3).toInt 0 = y1.toInt := by rw [kgv, ndv_no kdn]
          refine pv_aload_n (M := mX7_readNumber) 0 dX7_readNumber_63 64 rfl rfl rfl ?_
          refine mv_get (M := mX7_readNumber) (v := .ref lb) dX7_readNumber_64 FX7 1 wd281 (by decide) (tl86 hT) rfl R.2.2.2.1 67 rfl ?_
          refine pv_bipush (M := mX7_readNumber) (v := 35) dX7_readNumber_67 69 rfl (by decide) ?_
          refine pv_iload_n (M := mX7_readNumber) 1 dX7_readNumber_69 70 rfl rfl rfl ?_
          have z42 : (35 : Int32).toInt = 35 := by decide
          refine pv_callv (M := mX7_readNumber) (as := [.int 35, .int y1]) (st := []) (kc2 := 0) (ks2 := 0) dX7_readNumber_70 wd567 YX6_emit ⟨wd568, wd569⟩ (mk_get R.2.2.2.2.2.2.1) rfl rfl (s_X6_emit_vz g hT I5 lb R.2.2.2.2.2 35 y1 (by omega) (by omega)) rfl rfl (Nat.le_of_ble_eq_true rfl) (by decide) rfl rfl 73 rfl (fun rv h1 q43 => ?_)
          obtain ⟨m44, n45, rfl, rfl, I46, K47, rm44⟩ := q43
          replace rm44 : (m44 lb 7).toInt = (m3 lb 7).toInt ∧ ((m3 lb 2).toInt < 160 → EMT lb m3 m44 (35 : Int) y1) := by have q_ := rm44; (try rw [z42] at q_); exact q_
          have K47c := K47
          have w48 : (m44 86 3).toInt = (m3 86 3).toInt := congrArg Int32.toInt (K47 86 3 (wY_out (by omega) (by omega) (by omega)))
          have w49 : (m44 86 2).toInt = (m3 86 2).toInt := congrArg Int32.toInt (K47 86 2 (wY_out (by omega) (by omega) (by omega)))
          have w50 : (m44 86 4).toInt = (m3 86 4).toInt := congrArg Int32.toInt (K47 86 4 (wY_out (by omega) (by omega) (by omega)))
          have K47 := K6.trans (K47.sub (by first | exact wZ_wY | exact wZ_86))
          show PV _ _ _ _ _ _ _ 73 [.ref 86, .int y1, .int y2] [] _
          have k73 := rm44.2 (by omega)
          refine pv_iconst (M := mX7_readNumber) (v := 1) dX7_readNumber_73 74 rfl (by decide) ?_
          have z52 : (1 : Int32).toInt = 1 := by decide
          exact pv_iret (M := mX7_readNumber) dX7_readNumber_74 rfl rfl ⟨_, _, _, rfl, rfl, I46, K47, by decide, by decide, ⟨by omega, by omega, by omega, Or.inl ⟨by decide, by rw [kgn, nd_no kdn, show (m3 86 3).toInt = (m44 86 3).toInt by omega]⟩, by omega, IFZ.is (by rw [ofI kve]; exact CDS.pre kgs (CDS.num (by omega) k73 (da := 1) (by omega) (by omega)) (by omega))⟩⟩
        · have pc39 := rv36.1.resolve_left c39
          have c39 := iv_ne (X := v36.toInt) (Y := 0) c39 rfl (by decide)
          have kd2 := (k54.resolve_right (fun q => by have q1 := q.1; omega)).2
          refine pv_aload_n (M := mX7_readNumber) 0 dX7_readNumber_57 58 rfl rfl rfl ?_
          refine pv_iconst (M := mX7_readNumber) (v := 2) dX7_readNumber_58 59 rfl (by decide) ?_
          have z54 : (2 : Int32).toInt = 2 := by decide
          refine pv_callv (M := mX7_readNumber) (as := [.int 2]) (st := []) (kc2 := 0) (ks2 := 0) dX7_readNumber_59 wd531 YX7_fail ⟨wd533, wd3⟩ (mk_get (tl86 hT)) rfl rfl (s_X7_fail_vz g hT I5 R 2 (by decide) (by decide) (by first | omega | assumption | exact (iv_rng _).2 | exact (iv_rng _).1 | decide)) rfl rfl (Nat.le_of_ble_eq_true rfl) (by decide) rfl rfl 62 rfl (fun rv h1 q55 => ?_)
          obtain ⟨m56, n57, v60, rfl, rfl, I58, K59, pv60, qv60, rv60⟩ := q55
          replace rv60 : (m3 86 3).toInt ≤ (m56 86 3).toInt ∧ (m56 86 3).toInt ≤ (m56 86 2).toInt ∧ (m56 86 2).toInt = (m3 86 2).toInt ∧ (v60.toInt = 0 ∧ (m56 86 3).toInt = (m3 86 3).toInt ∧ (m56 86 4).toInt = -1000 * (2 : Int) - (m3 86 3).toInt) ∧ (m56 lb 7).toInt = (m3 lb 7).toInt := by have q_ := rv60; (try rw [z54] at q_); exact q_
          have K59c := K59
          have w61 : (m56 86 2).toInt = (m3 86 2).toInt := congrArg Int32.toInt (K59 86 2 rfl)
          have K59 := K6.trans (K59.sub (by first | exact wZ_wY | exact wZ_86))
          show PV _ _ _ _ _ _ _ 62 [.ref 86, .int y1, .int y2] [.int v60] _
          exact pv_iret (M := mX7_readNumber) dX7_readNumber_62 rfl (iv_nz (by omega) (by omega)) ⟨_, _, _, rfl, rfl, I58, K59, by omega, by omega, ⟨by omega, by omega, by omega, (by first | exact Or.inr ⟨by omega, FLT_of (a := 2) (p := (m3 86 3).toInt) (by rw [kgn, show (5 - y2.toInt).toNat = 0 by omega]; exact nd_2 kd2) (by decide) (by omega)⟩ | (exfalso; rw [kt4] at k13; have w := (k13.resolve_left (fun q => by have q1 := q.1; omega)).2; rw [kd2] at w; cases w)), by omega, IFZ.no (by omega)⟩⟩
      · have c34 := iv_nle (X := 5) (Y := y2.toInt) c34 (by decide) rfl
        refine pv_aload_n (M := mX7_readNumber) 0 dX7_readNumber_9 10 rfl rfl rfl ?_
        refine pv_callv (M := mX7_readNumber) (as := []) (st := []) (kc2 := 0) (ks2 := 0) dX7_readNumber_10 wd559 YX7_digitAhead ⟨wd561, wd9⟩ (mk_get (tl86 hT)) rfl rfl (s_X7_digitAhead_vx g hT I5 R) rfl rfl (Nat.le_of_ble_eq_true rfl) (by decide) rfl rfl 13 rfl (fun rv h1 q62 => ?_)
        obtain ⟨v63, rfl, rfl, pv63, qv63, rv63⟩ := q62
        replace rv63 : (v63 = 0 ∨ ((m3 86 3).toInt < (m3 86 2).toInt ∧ 48 ≤ (m3 87 (m3 86 3).toInt.toNat).toInt ∧ (m3 87 (m3 86 3).toInt.toNat).toInt ≤ 57)) ∧ ((v63.toInt = 1 ∧ dig (tC m3 (m3 86 3).toInt) = true) ∨ (v63.toInt = 0 ∧ dig (tC m3 (m3 86 3).toInt) = false)) := rv63
        show PV _ _ _ _ _ _ _ 13 [.ref 86, .int y1, .int y2] [.int v63] _
        have k13 := rv63.2
        refine pv_if_eq (M := mX7_readNumber) (tgt := 50) dX7_readNumber_13 16 rfl (by decide) (fun c65 => ?_) (fun c65 => ?_)
        · have c65 := iv_eq (X := v63.toInt) (Y := 0) c65 rfl (by decide)
          refine pv_aload_n (M := mX7_readNumber) 0 dX7_readNumber_50 51 rfl rfl rfl ?_
          refine pv_callv (M := mX7_readNumber) (as := []) (st := []) (kc2 := 0) (ks2 := 0) dX7_readNumber_51 wd559 YX7_digitAhead ⟨wd561, wd9⟩ (mk_get (tl86 hT)) rfl rfl (s_X7_digitAhead_vx g hT I5 R) rfl rfl (Nat.le_of_ble_eq_true rfl) (by decide) rfl rfl 54 rfl (fun rv h1 q66 => ?_)
          obtain ⟨v67, rfl, rfl, pv67, qv67, rv67⟩ := q66
          replace rv67 : (v67 = 0 ∨ ((m3 86 3).toInt < (m3 86 2).toInt ∧ 48 ≤ (m3 87 (m3 86 3).toInt.toNat).toInt ∧ (m3 87 (m3 86 3).toInt.toNat).toInt ≤ 57)) ∧ ((v67.toInt = 1 ∧ dig (tC m3 (m3 86 3).toInt) = true) ∨ (v67.toInt = 0 ∧ dig (tC m3 (m3 86 3).toInt) = false)) := rv67
          show PV _ _ _ _ _ _ _ 54 [.ref 86, .int y1, .int y2] [.int v67] _
          have k54 := rv67.2
          rw [kt4] at k54
          refine pv_if_eq (M := mX7_readNumber) (tgt := 63) dX7_readNumber_54 57 rfl (by decide) (fun c70 => ?_) (fun c70 => ?_)
          · have c70 := iv_eq (X := v67.toInt) (Y := 0) c70 rfl (by decide)
            have kdn := (k54.resolve_left (fun q => by have q1 := q.1; omega)).2
            have kve : ndv (tC m) 5 (m 86 3).toInt 0 = y1.toInt := by rw [kgv, ndv_no kdn]
            refine pv_aload_n (M := mX7_readNumber) 0 dX7_readNumber_63 64 rfl rfl rfl ?_
            refine mv_get (M := mX7_readNumber) (v := .ref lb) dX7_readNumber_64 FX7 1 wd281 (by decide) (tl86 hT) rfl R.2.2.2.1 67 rfl ?_
            refine pv_bipush (M := mX7_readNumber) (v := 35) dX7_readNumber_67 69 rfl (by decide) ?_
            refine pv_iload_n (M := mX7_readNumber) 1 dX7_readNumber_69 70 rfl rfl rfl ?_
            have z73 : (35 : Int32).toInt = 35 := by decide
            refine pv_callv (M := mX7_readNumber) (as := [.int 35, .int y1]) (st := []) (kc2 := 0) (ks2 := 0) dX7_readNumber_70 wd567 YX6_emit ⟨wd568, wd569⟩ (mk_get R.2.2.2.2.2.2.1) rfl rfl (s_X6_emit_vz g hT I5 lb R.2.2.2.2.2 35 y1 (by omega) (by omega)) rfl rfl (Nat.le_of_ble_eq_true rfl) (by decide) rfl rfl 73 rfl (fun rv h1 q74 => ?_)
            obtain ⟨m75, n76, rfl, rfl, I77, K78, rm75⟩ := q74
            replace rm75 : (m75 lb 7).toInt = (m3 lb 7).toInt ∧ ((m3 lb 2).toInt < 160 → EMT lb m3 m75 (35 : Int) y1) := by have q_ := rm75; (try rw [z73] at q_); exact q_
            have K78c := K78
            have w79 : (m75 86 3).toInt = (m3 86 3).toInt := congrArg Int32.toInt (K78 86 3 (wY_out (by omega) (by omega) (by omega)))
            have w80 : (m75 86 2).toInt = (m3 86 2).toInt := congrArg Int32.toInt (K78 86 2 (wY_out (by omega) (by omega) (by omega)))
            have w81 : (m75 86 4).toInt = (m3 86 4).toInt := congrArg Int32.toInt (K78 86 4 (wY_out (by omega) (by omega) (by omega)))
            have K78 := K6.trans (K78.sub (by first | exact wZ_wY | exact wZ_86))
            show PV _ _ _ _ _ _ _ 73 [.ref 86, .int y1, .int y2] [] _
            have k73 := rm75.2 (by omega)
            refine pv_iconst (M := mX7_readNumber) (v := 1) dX7_readNumber_73 74 rfl (by decide) ?_
            have z83 : (1 : Int32).toInt = 1 := by decide
            exact pv_iret (M := mX7_readNumber) dX7_readNumber_74 rfl rfl ⟨_, _, _, rfl, rfl, I77, K78, by decide, by decide, ⟨by omega, by omega, by omega, Or.inl ⟨by decide, by rw [kgn, nd_no kdn, show (m3 86 3).toInt = (m75 86 3).toInt by omega]⟩, by omega, IFZ.is (by rw [ofI kve]; exact CDS.pre kgs (CDS.num (by omega) k73 (da := 1) (by omega) (by omega)) (by omega))⟩⟩
          · have pc70 := rv67.1.resolve_left c70
            have c70 := iv_ne (X := v67.toInt) (Y := 0) c70 rfl (by decide)
            have kd2 := (k54.resolve_right (fun q => by have q1 := q.1; omega)).2
            refine pv_aload_n (M := mX7_readNumber) 0 dX7_readNumber_57 58 rfl rfl rfl ?_
            refine pv_iconst (M := mX7_readNumber) (v := 2) dX7_readNumber_58 59 rfl (by decide) ?_
            have z85 : (2 : Int32).toInt = 2 := by decide
            refine pv_callv (M := mX7_readNumber) (as := [.int 2]) (st := []) (kc2 := 0) (ks2 := 0) dX7_readNumber_59 wd531 YX7_fail ⟨wd533, wd3⟩ (mk_get (tl86 hT)) rfl rfl (s_X7_fail_vz g hT I5 R 2 (by decide) (by decide) (by first | omega | assumption | exact (iv_rng _).2 | exact (iv_rng _).1 | decide)) rfl rfl (Nat.le_of_ble_eq_true rfl) (by decide) rfl rfl 62 rfl (fun rv h1 q86 => ?_)
            obtain ⟨m87, n88, v91, rfl, rfl, I89, K90, pv91, qv91, rv91⟩ := q86
            replace rv91 : (m3 86 3).toInt ≤ (m87 86 3).toInt ∧ (m87 86 3).toInt ≤ (m87 86 2).toInt ∧ (m87 86 2).toInt = (m3 86 2).toInt ∧ (v91.toInt = 0 ∧ (m87 86 3).toInt = (m3 86 3).toInt ∧ (m87 86 4).toInt = -1000 * (2 : Int) - (m3 86 3).toInt) ∧ (m87 lb 7).toInt = (m3 lb 7).toInt := by have q_ := rv91; (try rw [z85] at q_); exact q_
            have K90c := K90
            have w92 : (m87 86 2).toInt = (m3 86 2).toInt := congrArg Int32.toInt (K90 86 2 rfl)
            have K90 := K6.trans (K90.sub (by first | exact wZ_wY | exact wZ_86))
            show PV _ _ _ _ _ _ _ 62 [.ref 86, .int y1, .int y2] [.int v91] _
            exact pv_iret (M := mX7_readNumber) dX7_readNumber_62 rfl (iv_nz (by omega) (by omega)) ⟨_, _, _, rfl, rfl, I89, K90, by omega, by omega, ⟨by omega, by omega, by omega, (by first | exact Or.inr ⟨by omega, FLT_of (a := 2) (p := (m3 86 3).toInt) (by rw [kgn, show (5 - y2.toInt).toNat = 0 by omega]; exact nd_2 kd2) (by decide) (by omega)⟩ | (exfalso; rw [kt4] at k13; have w := (k13.resolve_left (fun q => by have q1 := q.1; omega)).2; rw [kd2] at w; cases w)), by omega, IFZ.no (by omega)⟩⟩
        · have pc65 := rv63.1.resolve_left c65
          have c65 := iv_ne (X := v63.toInt) (Y := 0) c65 rfl (by decide)
          have kd := (k13.resolve_right (fun q => by have q1 := q.1; omega)).2
          rw [kt4] at kd
          refine pv_iload_n (M := mX7_readNumber) 1 dX7_readNumber_16 17 rfl rfl rfl ?_
          refine pv_bipush (M := mX7_readNumber) (v := 10) dX7_readNumber_17 19 rfl (by decide) ?_
          refine iv_imul (M := mX7_readNumber) (X := y1.toInt) (Y := 10) dX7_readNumber_19 20 rfl rfl (by decide) (by omega) (by omega) (fun v95 ev95 => ?_)
          refine pv_aload_n (M := mX7_readNumber) 0 dX7_readNumber_20 21 rfl rfl rfl ?_
          refine mv_get (M := mX7_readNumber) (v := .ref 87) dX7_readNumber_21 FX7 0 wd280 (by decide) (tl86 hT) rfl rfl 24 rfl ?_
          refine pv_aload_n (M := mX7_readNumber) 0 dX7_readNumber_24 25 rfl rfl rfl ?_
          refine iv_get (M := mX7_readNumber) (l1 := 0) (l2 := 160) dX7_readNumber_25 FX7 3 wd283 (by decide) (tl86 hT) rfl I5 rfl 28 rfl (fun v96 ev96 pv96 qv96 => ?_)
          have wv96 : v96.toInt = (m3 86 3).toInt := congrArg Int32.toInt ev96
          refine iv_iald (M := mX7_readNumber) (X := v96.toInt) (l1 := (-2147483648)) (l2 := 2147483647) dX7_readNumber_28 (tl87 hT) rfl (by omega) (by omega) I5 (fun _ => rfl) 29 rfl (fun v97 ev97 pv97 qv97 => ?_)
          have k29 : v97.toInt = (m3 87 (m3 86 3).toInt.toNat).toInt := (congrArg Int32.toInt ev97).trans (congrArg (fun z => (m3 87 z).toInt) (by omega))
          have kv29 : tC m (m3 86 3).toInt = v97.toInt := by rw [← kt4b]; unfold tC; rw [if_pos (by omega)]; exact k29.symm
          refine iv_iadd (M := mX7_readNumber) (X := v95.toInt) (Y := v97.toInt) dX7_readNumber_29 30 rfl rfl rfl (by omega) (by omega) (fun v100 ev100 => ?_)
          refine pv_bipush (M := mX7_readNumber) (v := 48) dX7_readNumber_30 32 rfl (by decide) ?_
          refine iv_isub (M := mX7_readNumber) (X := v100.toInt) (Y := 48) dX7_readNumber_32 33 rfl rfl (by decide) (by omega) (by omega) (fun v101 ev101 => ?_)
          have kz := pow10_4 (k := y2.toInt) (by omega)
          refine pv_istore_n (M := mX7_readNumber) 1 (lo2 := [.ref 86, .int v101, .int y2]) dX7_readNumber_33 34 rfl rfl (by decide) rfl rfl ?_
          refine pv_aload_n (M := mX7_readNumber) 0 dX7_readNumber_34 35 rfl rfl rfl ?_
          refine pv_dup (M := mX7_readNumber) dX7_readNumber_35 36 rfl rfl ?_
          refine iv_get (M := mX7_readNumber) (l1 := 0) (l2 := 160) dX7_readNumber_36 FX7 3 wd283 (by decide) (tl86 hT) rfl I5 rfl 39 rfl (fun v103 ev103 pv103 qv103 => ?_)
          have wv103 : v103.toInt = (m3 86 3).toInt := congrArg Int32.toInt ev103
          refine pv_iconst (M := mX7_readNumber) (v := 1) dX7_readNumber_39 40 rfl (by decide) ?_
          refine iv_iadd (M := mX7_readNumber) (X := v103.toInt) (Y := 1) dX7_readNumber_40 41 rfl rfl (by decide) (by omega) (by omega) (fun v104 ev104 => ?_)
          refine iv_put (M := mX7_readNumber) (l1 := 0) (l2 := 160) dX7_readNumber_41 FX7 3 wd283 (by decide) rfl (tl86 hT) rfl rfl rfl I5 rfl (by omega) (by omega) 44 rfl (fun m105 e108 I106 => ?_)
          have K107 := K6.set e108 (by first | rfl | decide)
          have w109 : (m105 86 3).toInt = v104.toInt := by rw [e108, up2_eq]
          have w110 : (m105 86 2).toInt = (m3 86 2).toInt := by rw [e108, up2_ne (by omega)]
          have w111 : (m105 86 4).toInt = (m3 86 4).toInt := by rw [e108, up2_ne (by omega)]
          have w112 : (m105 lb 7).toInt = (m3 lb 7).toInt := by rw [e108, up2_ne (by omega)]
          have w113 : (m105 lb 2).toInt = (m3 lb 2).toInt := by rw [e108, up2_ne (by omega)]
          refine iv_inc (M := mX7_readNumber) (C := 1) dX7_readNumber_44 47 rfl rfl (by decide) rfl rfl (by decide) (by omega) (by omega) (fun v114 ev114 => ?_)
          show PV _ _ _ _ _ _ _ 47 [.ref 86, .int v101, .int v114] [] _
          refine pv_goto (M := mX7_readNumber) (tgt := 4) dX7_readNumber_47 (by decide) ?_
          have kp := pow10_s (k := v114.toInt) (by omega) (by omega)
          have kq : pow10 (v114.toInt - 1) = pow10 y2.toInt := congrArg pow10 (by omega)
          have kbn : nd (tC m) 5 (m 86 3).toInt = nd (tC m) (5 - v114.toInt).toNat (m105 86 3).toInt := by rw [kgn, show (5 - y2.toInt).toNat = (5 - v114.toInt).toNat + 1 by omega, nd_y kd, show (m3 86 3).toInt + 1 = (m105 86 3).toInt by omega]
          have kbs : SAML lb m m105 := kgs.trans (SAML.set zR2 e108)
          have kbv : ndv (tC m) 5 (m 86 3).toInt 0 = ndv (tC m) (5 - v114.toInt).toNat (m105 86 3).toInt v101.toInt := by rw [kgv, show (5 - y2.toInt).toNat = (5 - v114.toInt).toNat + 1 by omega, ndv_y kd, show (m3 86 3).toInt + 1 = (m105 86 3).toInt by omega, kv29]; congr 1; omega
          exact ih9 v101 v114 m105 n4 (by first | omega | assumption | exact (iv_rng _).2 | exact (iv_rng _).1 | decide) (by first | omega | assumption | exact (iv_rng _).2 | exact (iv_rng _).1 | decide) (by first | omega | assumption | exact (iv_rng _).2 | exact (iv_rng _).1 | decide) (by first | omega | assumption | exact (iv_rng _).2 | exact (iv_rng _).1 | decide) (by first | omega | assumption | (show v101.toInt + 1 ≤ pow10 v114.toInt; omega) | decide) (by first | omega | assumption | (show (m 86 3).toInt ≤ (m105 86 3).toInt; omega) | decide) (by first | omega | assumption | (show (m105 86 3).toInt ≤ (m105 86 2).toInt; omega) | decide) (by first | omega | assumption | (show (m105 86 2).toInt = (m 86 2).toInt; omega) | decide) kbn (by first | omega | assumption | (show (m105 lb 7).toInt = (m lb 7).toInt; omega) | decide) kbs kbv I106 K107 (by omega)
  have z120 : (0 : Int32).toInt = 0 := by decide
  have z121 : (0 : Int32).toInt = 0 := by decide
  exact lp8 (((5 - 0) : Int).toNat + 1) 0 0 m n (by first | omega | assumption | exact (iv_rng _).2 | exact (iv_rng _).1 | decide) (by first | omega | assumption | exact (iv_rng _).2 | exact (iv_rng _).1 | decide) (by first | omega | assumption | exact (iv_rng _).2 | exact (iv_rng _).1 | decide) (by first | omega | assumption | exact (iv_rng _).2 | exact (iv_rng _).1 | decide) (by decide) (by first | omega | assumption | (show (m 86 3).toInt ≤ (m 86 3).toInt; omega) | decide) (by first | omega | assumption | (show (m 86 3).toInt ≤ (m 86 2).toInt; omega) | decide) (by first | omega | assumption | (show (m 86 2).toInt = (m 86 2).toInt; omega) | decide) (by rw [Int32.toInt_zero]; rfl) (by first | omega | assumption | (show (m lb 7).toInt = (m lb 7).toInt; omega) | decide) SAML.rf (by rw [Int32.toInt_zero]; rfl) I Kp (by omega)

set_option maxHeartbeats 2000000 in
set_option maxRecDepth 20000 in
theorem s_X7_readFactor_v6z (g : pv_G) {T : List mv_T} {m : Nat → Nat → Int32} {n : Nat → Nat → Int64} {r : Nat → Value} {la lb : Nat} (hT : TX T) (I : IV BB m) (R : RX T r la lb) (hp0 : (m 86 3).toInt ≤ (m 86 2).toInt) (hp1 : TBC m) (hp2 : (m lb 2).toInt ≤ (m 86 3).toInt) : PM g mX7_readFactor yX7_readFactor (sqI T BB (wZ lb) r m 0 1 (fun m' v => (m 86 3).toInt ≤ (m' 86 3).toInt ∧ (m' 86 3).toInt ≤ (m' 86 2).toInt ∧ (m' 86 2).toInt = (m 86 2).toInt ∧ (RSX (FA (tC m) 0 (m 86 3).toInt) v.toInt (m' 86 3).toInt (m' 86 4).toInt) ∧ (m' lb 7).toInt = (m lb 7).toInt ∧ IFZ v.toInt (CDS lb m m' 1 (FAD (tC m) 0 (m 86 3).toInt) ((m' 86 3).toInt - (m 86 3).toInt)))) 5 0 0 [.ref 86, .int 6] (mk T m n r) := by
  have Kp : fr (wZ lb) m m := fr.rf
  have R0 := R
  have zR := R.2.2.2.2.1.1
  have zR2 := R.2.2.2.2.2.1
  have z90 : 0 ≤ (m 86 3).toInt ∧ (m 86 3).toInt ≤ 160 := I 86 3
  have z91 : 0 ≤ (m 86 2).toInt ∧ (m 86 2).toInt ≤ 160 := I 86 2
  refine PM.of 1 (lo := [.ref 86, .int 6, pv_U]) rfl (by decide) rfl rfl (Nat.le_of_ble_eq_true rfl) ?_
  refine pv_aload_n (M := mX7_readFactor) 0 dX7_readFactor_0 1 rfl rfl rfl ?_
  refine pv_callv (M := mX7_readFactor) (as := []) (st := []) (kc2 := 0) (ks2 := 0) dX7_readFactor_1 wd527 YX7_peek ⟨wd529, wd2⟩ (mk_get (tl86 hT)) rfl rfl (s_X7_peek_vx g hT I R) rfl rfl (Nat.le_of_ble_eq_true rfl) (by decide) rfl rfl 4 rfl (fun rv h1 q1 => ?_)
  obtain ⟨v2, rfl, rfl, pv2, qv2, rv2⟩ := q1
  replace rv2 : v2.toInt = tC m (m 86 3).toInt ∧ (v2.toInt = -1 ∨ (m 86 3).toInt < (m 86 2).toInt) := rv2
  show PV _ _ _ _ _ _ _ 4 [.ref 86, .int 6, pv_U] [.int v2] _
  have k4 := rv2.1
  have k4b := rv2.2
  refine pv_bipush (M := mX7_readFactor) (v := 91) dX7_readFactor_4 6 rfl (by decide) ?_
  refine pv_icmp_ne (M := mX7_readFactor) (tgt := 42) dX7_readFactor_6 9 rfl (by decide) (fun c5 => ?_) (fun c5 => ?_)
  · have c5 := iv_ne (X := v2.toInt) (Y := 91) c5 rfl (by decide)
    have kn91 : tC m (m 86 3).toInt ≠ 91 := by omega
    refine pv_aload_n (M := mX7_readFactor) 0 dX7_readFactor_42 43 rfl rfl rfl ?_
    refine pv_callv (M := mX7_readFactor) (as := []) (st := []) (kc2 := 0) (ks2 := 0) dX7_readFactor_43 wd559 YX7_digitAhead ⟨wd561, wd9⟩ (mk_get (tl86 hT)) rfl rfl (s_X7_digitAhead_vx g hT I R) rfl rfl (Nat.le_of_ble_eq_true rfl) (by decide) rfl rfl 46 rfl (fun rv h1 q7 => ?_)
    obtain ⟨v8, rfl, rfl, pv8, qv8, rv8⟩ := q7
    replace rv8 : (v8 = 0 ∨ ((m 86 3).toInt < (m 86 2).toInt ∧ 48 ≤ (m 87 (m 86 3).toInt.toNat).toInt ∧ (m 87 (m 86 3).toInt.toNat).toInt ≤ 57)) ∧ ((v8.toInt = 1 ∧ dig (tC m (m 86 3).toInt) = true) ∨ (v8.toInt = 0 ∧ dig (tC m (m 86 3).toInt) = false)) := rv8
    show PV _ _ _ _ _ _ _ 46 [.ref 86, .int 6, pv_U] [.int v8] _
    have k46 := rv8.2
    refine pv_if_eq (M := mX7_readFactor) (tgt := 54) dX7_readFactor_46 49 rfl (by decide) (fun c10 => ?_) (fun c10 => ?_)
    · have c10 := iv_eq (X := v8.toInt) (Y := 0) c10 rfl (by decide)
      have kdn := (k46.resolve_left (fun q => by have q1 := q.1; omega)).2
      refine pv_aload_n (M := mX7_readFactor) 0 dX7_readFactor_54 55 rfl rfl rfl ?_
      refine pv_callv (M := mX7_readFactor) (as := []) (st := []) (kc2 := 0) (ks2 := 0) dX7_readFactor_55 wd527 YX7_peek ⟨wd529, wd2⟩ (mk_get (tl86 hT)) rfl rfl (s_X7_peek_vx g hT I R) rfl rfl (Nat.le_of_ble_eq_true rfl) (by decide) rfl rfl 58 rfl (fun rv h1 q12 => ?_)
      obtain ⟨v13, rfl, rfl, pv13, qv13, rv13⟩ := q12
      replace rv13 : v13.toInt = tC m (m 86 3).toInt ∧ (v13.toInt = -1 ∨ (m 86 3).toInt < (m 86 2).toInt) := rv13
      show PV _ _ _ _ _ _ _ 58 [.ref 86, .int 6, pv_U] [.int v13] _
      have k58 := rv13.1
      refine pv_iconst (M := mX7_readFactor) (v := (-1)) dX7_readFactor_58 59 rfl (by decide) ?_
      refine pv_icmp_ne (M := mX7_readFactor) (tgt := 66) dX7_readFactor_59 62 rfl (by decide) (fun c15 => ?_) (fun c15 => ?_)
      · have c15 := iv_ne (X := v13.toInt) (Y := (-1)) c15 rfl (by decide)
        refine pv_ldcS (M := mX7_readFactor) dX7_readFactor_66 rfl 68 rfl ?_
        refine pv_aload_n (M := mX7_readFactor) 0 dX7_readFactor_68 69 rfl rfl rfl ?_
        refine pv_callv (M := mX7_readFactor) (as := []) (st := [.retAddr (g.2.2.1 6 + 1)]) (kc2 := 0) (ks2 := 0) dX7_readFactor_69 wd527 YX7_peek ⟨wd529, wd2⟩ (mk_get (tl86 hT)) rfl rfl (s_X7_peek_vx g hT I R) rfl rfl (Nat.le_of_ble_eq_true rfl) (by decide) rfl rfl 72 rfl (fun rv h1 q16 => ?_)
        obtain ⟨v17, rfl, rfl, pv17, qv17, rv17⟩ := q16
        replace rv17 : v17.toInt = tC m (m 86 3).toInt ∧ (v17.toInt = -1 ∨ (m 86 3).toInt < (m 86 2).toInt) := rv17
        show PV _ _ _ _ _ _ _ 72 [.ref 86, .int 6, pv_U] [.int v17, .retAddr (g.2.2.1 6 + 1)] _
        have k72 := rv17.1
        have kb72 := hp1 (m 86 3).toInt
        refine iv_i2cU (M := mX7_readFactor) dX7_readFactor_72 73 rfl (fun v20 ev20 => ?_)
        have k73 := i2c_eq ev20 (by omega) (by omega)
        refine pv_callvS (M := mX7_readFactor) (as := [.int v20]) (st := []) (kc2 := 0) (ks2 := 0) dX7_readFactor_73 wd572 YJ0_indexOf_0f7a4 ⟨wd573, wd574⟩ rfl (s_J0_indexOf_0f7a4_vx g hT I v20 (by omega) (by omega)) rfl rfl (Nat.le_of_ble_eq_true rfl) (by decide) rfl rfl 76 rfl (fun rv h1 q22 => ?_)
        obtain ⟨v23, rfl, rfl, pv23, qv23, rv23⟩ := q22
        replace rv23 : v23.toInt = nix v20.toInt := rv23
        show PV _ _ _ _ _ _ _ 76 [.ref 86, .int 6, pv_U] [.int v23] _
        have k76 : v23.toInt = nix (tC m (m 86 3).toInt) := by first | (rw [show tC m (m 86 3).toInt = -1 by omega]; decide) | (rw [rv23, k73, k72])
        refine pv_istore_n (M := mX7_readFactor) 2 (lo2 := [.ref 86, .int 6, .int v23]) dX7_readFactor_76 77 rfl rfl (by decide) rfl rfl ?_
        refine pv_iload_n (M := mX7_readFactor) 2 dX7_readFactor_77 78 rfl rfl rfl ?_
        refine pv_if_ge (M := mX7_readFactor) (tgt := 87) dX7_readFactor_78 81 rfl (by decide) (fun c25 => ?_) (fun c25 => ?_)
        · have c25 := iv_le (X := 0) (Y := v23.toInt) c25 (by decide) rfl
          have k87 : (m 86 3).toInt < (m 86 2).toInt := by have := nix_b (x := tC m (m 86 3).toInt) (by omega); omega
          refine pv_aload_n (M := mX7_readFactor) 0 dX7_readFactor_87 88 rfl rfl rfl ?_
          refine mv_get (M := mX7_readFactor) (v := .ref lb) dX7_readFactor_88 FX7 1 wd281 (by decide) (tl86 hT) rfl R.2.2.2.1 91 rfl ?_
          refine pv_bipush (M := mX7_readFactor) (v := 36) dX7_readFactor_91 93 rfl (by decide) ?_
          refine pv_iload_n (M := mX7_readFactor) 2 dX7_readFactor_93 94 rfl rfl rfl ?_
          have z27 : (36 : Int32).toInt = 36 := by decide
          refine pv_callv (M := mX7_readFactor) (as := [.int 36, .int v23]) (st := []) (kc2 := 0) (ks2 := 0) dX7_readFactor_94 wd567 YX6_emit ⟨wd568, wd569⟩ (mk_get R.2.2.2.2.2.2.1) rfl rfl (s_X6_emit_vz g hT I lb R.2.2.2.2.2 36 v23 (by omega) (by omega)) rfl rfl (Nat.le_of_ble_eq_true rfl) (by decide) rfl rfl 97 rfl (fun rv h1 q28 => ?_)
          obtain ⟨m29, n30, rfl, rfl, I31, K32, rm29⟩ := q28
          replace rm29 : (m29 lb 7).toInt = (m lb 7).toInt ∧ ((m lb 2).toInt < 160 → EMT lb m m29 (36 : Int) v23) := by have q_ := rm29; (try rw [z27] at q_); exact q_
          have K32c := K32
          have w33 : (m29 86 3).toInt = (m 86 3).toInt := congrArg Int32.toInt (K32 86 3 (wY_out (by omega) (by omega) (by omega)))
          have w34 : (m29 86 2).toInt = (m 86 2).toInt := congrArg Int32.toInt (K32 86 2 (wY_out (by omega) (by omega) (by omega)))
          have w35 : (m29 86 4).toInt = (m 86 4).toInt := congrArg Int32.toInt (K32 86 4 (wY_out (by omega) (by omega) (by omega)))
          have K32 := Kp.trans (K32.sub (by first | exact wZ_wY | exact wZ_86))
          show PV _ _ _ _ _ _ _ 97 [.ref 86, .int 6, .int v23] [] _
          have klB := I lb 2
          rw [law_b2 R.2.2.2.2.2] at klB
          have klb0 : 0 ≤ (m lb 2).toInt := klB.1
          have k97 := rm29.2 (by omega)
          refine pv_aload_n (M := mX7_readFactor) 0 dX7_readFactor_97 98 rfl rfl rfl ?_
          refine pv_dup (M := mX7_readFactor) dX7_readFactor_98 99 rfl rfl ?_
          refine iv_get (M := mX7_readFactor) (l1 := 0) (l2 := 160) dX7_readFactor_99 FX7 3 wd283 (by decide) (tl86 hT) rfl I31 rfl 102 rfl (fun v40 ev40 pv40 qv40 => ?_)
          have wv40 : v40.toInt = (m29 86 3).toInt := congrArg Int32.toInt ev40
          refine pv_iconst (M := mX7_readFactor) (v := 1) dX7_readFactor_102 103 rfl (by decide) ?_
          refine iv_iadd (M := mX7_readFactor) (X := v40.toInt) (Y := 1) dX7_readFactor_103 104 rfl rfl (by decide) (by omega) (by omega) (fun v41 ev41 => ?_)
          refine iv_put (M := mX7_readFactor) (l1 := 0) (l2 := 160) dX7_readFactor_104 FX7 3 wd283 (by decide) rfl (tl86 hT) rfl rfl rfl I31 rfl (by omega) (by omega) 107 rfl (fun m42 e45 I43 => ?_)
          have K44 := K32.set e45 (by first | rfl | decide)
          have w46 : (m42 86 3).toInt = v41.toInt := by rw [e45, up2_eq]
          have w47 : (m42 86 2).toInt = (m29 86 2).toInt := by rw [e45, up2_ne (by omega)]
          have w48 : (m42 86 4).toInt = (m29 86 4).toInt := by rw [e45, up2_ne (by omega)]
          have w49 : (m42 lb 7).toInt = (m29 lb 7).toInt := by rw [e45, up2_ne (by omega)]
          have w50 : (m42 lb 2).toInt = (m29 lb 2).toInt := by rw [e45, up2_ne (by omega)]
          refine pv_iconst (M := mX7_readFactor) (v := 1) dX7_readFactor_107 108 rfl (by decide) ?_
          have z51 : (1 : Int32).toInt = 1 := by decide
          exact pv_iret (M := mX7_readFactor) dX7_readFactor_108 rfl rfl ⟨_, _, _, rfl, rfl, I43, K44, by decide, by decide, ⟨by omega, by omega, by omega, Or.inl ⟨by decide, by rw [FA_atom kn91, AT_nam kdn (nix_y (by omega)), show (m 86 3).toInt + 1 = (m42 86 3).toInt by omega]⟩, by omega, IFZ.is (by rw [FAD_at kn91, atD_nam kdn]; exact CDS.wk (CDS.post (CDS.nam (by omega) k97 (da := 1) (by omega) (by omega)) (SAML.set zR2 e45)) (by omega) (by omega))⟩⟩
        · have c25 := iv_nle (X := 0) (Y := v23.toInt) c25 (by decide) rfl
          refine pv_aload_n (M := mX7_readFactor) 0 dX7_readFactor_81 82 rfl rfl rfl ?_
          refine pv_iconst (M := mX7_readFactor) (v := 1) dX7_readFactor_82 83 rfl (by decide) ?_
          have z52 : (1 : Int32).toInt = 1 := by decide
          refine pv_callv (M := mX7_readFactor) (as := [.int 1]) (st := []) (kc2 := 0) (ks2 := 0) dX7_readFactor_83 wd531 YX7_fail ⟨wd533, wd3⟩ (mk_get (tl86 hT)) rfl rfl (s_X7_fail_vz g hT I R 1 (by decide) (by decide) (by first | omega | assumption | exact (iv_rng _).2 | exact (iv_rng _).1 | decide)) rfl rfl (Nat.le_of_ble_eq_true rfl) (by decide) rfl rfl 86 rfl (fun rv h1 q53 => ?_)
          obtain ⟨m54, n55, v58, rfl, rfl, I56, K57, pv58, qv58, rv58⟩ := q53
          replace rv58 : (m 86 3).toInt ≤ (m54 86 3).toInt ∧ (m54 86 3).toInt ≤ (m54 86 2).toInt ∧ (m54 86 2).toInt = (m 86 2).toInt ∧ (v58.toInt = 0 ∧ (m54 86 3).toInt = (m 86 3).toInt ∧ (m54 86 4).toInt = -1000 * (1 : Int) - (m 86 3).toInt) ∧ (m54 lb 7).toInt = (m lb 7).toInt := by have q_ := rv58; (try rw [z52] at q_); exact q_
          have K57c := K57
          have w59 : (m54 86 2).toInt = (m 86 2).toInt := congrArg Int32.toInt (K57 86 2 rfl)
          have K57 := Kp.trans (K57.sub (by first | exact wZ_wY | exact wZ_86))
          show PV _ _ _ _ _ _ _ 86 [.ref 86, .int 6, .int v23] [.int v58] _
          exact pv_iret (M := mX7_readFactor) dX7_readFactor_86 rfl (iv_nz (by omega) (by omega)) ⟨_, _, _, rfl, rfl, I56, K57, by omega, by omega, ⟨by omega, by omega, by omega, Or.inr ⟨by omega, FLT_of (a := 1) (p := (m 86 3).toInt) (by rw [FA_atom kn91]; exact AT_no kdn (nix_no (by omega))) (by decide) (by omega)⟩, by omega, IFZ.no (by first | decide | omega)⟩⟩
      · have c15 := iv_eq (X := v13.toInt) (Y := (-1)) c15 rfl (by decide)
        refine pv_iconst (M := mX7_readFactor) (v := (-1)) dX7_readFactor_62 63 rfl (by decide) ?_
        refine pv_goto (M := mX7_readFactor) (tgt := 76) dX7_readFactor_63 (by decide) ?_
        have k76 : (-1) = nix (tC m (m 86 3).toInt) := by first | (rw [show tC m (m 86 3).toInt = -1 by omega]; decide) | (rw [rlit, k73, k72])
        refine pv_istore_n (M := mX7_readFactor) 2 (lo2 := [.ref 86, .int 6, .int (-1)]) dX7_readFactor_76 77 rfl rfl (by decide) rfl rfl ?_
        refine pv_iload_n (M := mX7_readFactor) 2 dX7_readFactor_77 78 rfl rfl rfl ?_
        refine pv_if_ge (M := mX7_readFactor) (tgt := 87) dX7_readFactor_78 81 rfl (by decide) (fun q => absurd q (by decide)) (fun _ => ?_)
        refine pv_aload_n (M := mX7_readFactor) 0 dX7_readFactor_81 82 rfl rfl rfl ?_
        refine pv_iconst (M := mX7_readFactor) (v := 1) dX7_readFactor_82 83 rfl (by decide) ?_
        have z62 : (1 : Int32).toInt = 1 := by decide
        refine pv_callv (M := mX7_readFactor) (as := [.int 1]) (st := []) (kc2 := 0) (ks2 := 0) dX7_readFactor_83 wd531 YX7_fail ⟨wd533, wd3⟩ (mk_get (tl86 hT)) rfl rfl (s_X7_fail_vz g hT I R 1 (by decide) (by decide) (by first | omega | assumption | exact (iv_rng _).2 | exact (iv_rng _).1 | decide)) rfl rfl (Nat.le_of_ble_eq_true rfl) (by decide) rfl rfl 86 rfl (fun rv h1 q63 => ?_)
        obtain ⟨m64, n65, v68, rfl, rfl, I66, K67, pv68, qv68, rv68⟩ := q63
        replace rv68 : (m 86 3).toInt ≤ (m64 86 3).toInt ∧ (m64 86 3).toInt ≤ (m64 86 2).toInt ∧ (m64 86 2).toInt = (m 86 2).toInt ∧ (v68.toInt = 0 ∧ (m64 86 3).toInt = (m 86 3).toInt ∧ (m64 86 4).toInt = -1000 * (1 : Int) - (m 86 3).toInt) ∧ (m64 lb 7).toInt = (m lb 7).toInt := by have q_ := rv68; (try rw [z62] at q_); exact q_
        have K67c := K67
        have w69 : (m64 86 2).toInt = (m 86 2).toInt := congrArg Int32.toInt (K67 86 2 rfl)
        have K67 := Kp.trans (K67.sub (by first | exact wZ_wY | exact wZ_86))
        show PV _ _ _ _ _ _ _ 86 [.ref 86, .int 6, .int (-1)] [.int v68] _
        exact pv_iret (M := mX7_readFactor) dX7_readFactor_86 rfl (iv_nz (by omega) (by omega)) ⟨_, _, _, rfl, rfl, I66, K67, by omega, by omega, ⟨by omega, by omega, by omega, Or.inr ⟨by omega, FLT_of (a := 1) (p := (m 86 3).toInt) (by rw [FA_atom kn91]; exact AT_no kdn (nix_no (by omega))) (by decide) (by omega)⟩, by omega, IFZ.no (by first | decide | omega)⟩⟩
    · have pc10 := rv8.1.resolve_left c10
      have c10 := iv_ne (X := v8.toInt) (Y := 0) c10 rfl (by decide)
      have kd := (k46.resolve_right (fun q => by have q1 := q.1; omega)).2
      refine pv_aload_n (M := mX7_readFactor) 0 dX7_readFactor_49 50 rfl rfl rfl ?_
      refine pv_callv (M := mX7_readFactor) (as := []) (st := []) (kc2 := 0) (ks2 := 0) dX7_readFactor_50 wd563 YX7_readNumber ⟨wd565, wd10⟩ (mk_get (tl86 hT)) rfl rfl (s_X7_readNumber_vz g hT I R (by first | omega | assumption | exact (iv_rng _).2 | exact (iv_rng _).1 | decide) (by first | omega | assumption | exact (iv_rng _).2 | exact (iv_rng _).1 | decide)) rfl rfl (Nat.le_of_ble_eq_true rfl) (by decide) rfl rfl 53 rfl (fun rv h1 q71 => ?_)
      obtain ⟨m72, n73, v76, rfl, rfl, I74, K75, pv76, qv76, rv76⟩ := q71
      replace rv76 : (m 86 3).toInt ≤ (m72 86 3).toInt ∧ (m72 86 3).toInt ≤ (m72 86 2).toInt ∧ (m72 86 2).toInt = (m 86 2).toInt ∧ (RSX (nd (tC m) 5 (m 86 3).toInt) v76.toInt (m72 86 3).toInt (m72 86 4).toInt) ∧ (m72 lb 7).toInt = (m lb 7).toInt ∧ IFZ v76.toInt (CDS lb m m72 1 (cD (Int32.ofInt (ndv (tC m) 5 (m 86 3).toInt 0))) 1) := rv76
      have K75c := K75
      have K75 := Kp.trans (K75.sub (fun _ _ q => q))
      show PV _ _ _ _ _ _ _ 53 [.ref 86, .int 6, pv_U] [.int v76] _
      have k53 := rv76.2.2.2.1
      have k53z := rv76.2.2.2.2.2
      exact pv_iret (M := mX7_readFactor) dX7_readFactor_53 rfl (iv_nz (by omega) (by omega)) ⟨_, _, _, rfl, rfl, I74, K75, by omega, by omega, ⟨by omega, by omega, by omega, (by rw [FA_atom kn91, AT_num kd]; exact k53), by omega, (fun q => by have k1 := RSX_ok k53 q; have k2 := atom_le (t := tC m) (p := (m 86 3).toInt) (by rw [AT_num kd, k1]); rw [AT_num kd, k1] at k2; have k3 : (m 86 3).toInt + 1 ≤ (m72 86 3).toInt := k2; rw [FAD_at kn91, atD_num kd]; exact CDS.wk (IFZ.get k53z q) (by omega) (by omega))⟩⟩
  · have c5 := iv_eq (X := v2.toInt) (Y := 91) c5 rfl (by decide)
    have k91 : tC m (m 86 3).toInt = 91 := by omega
    refine pv_aload_n (M := mX7_readFactor) 0 dX7_readFactor_9 10 rfl rfl rfl ?_
    refine pv_iload_n (M := mX7_readFactor) 1 dX7_readFactor_10 11 rfl rfl rfl ?_
    have z80 : (6 : Int32).toInt = 6 := by decide
    refine pv_callv (M := mX7_readFactor) (as := [.int 6]) (st := []) (kc2 := 0) (ks2 := 0) dX7_readFactor_11 wd551 YX7_open ⟨wd553, wd7⟩ (mk_get (tl86 hT)) rfl rfl (s_X7_open_vz g hT I R 6 (by decide) (by decide) (by first | omega | assumption | exact (iv_rng _).2 | exact (iv_rng _).1 | decide)) rfl rfl (Nat.le_of_ble_eq_true rfl) (by decide) rfl rfl 14 rfl (fun rv h1 q81 => ?_)
    obtain ⟨m82, n83, v86, rfl, rfl, I84, K85, pv86, qv86, rv86⟩ := q81
    replace rv86 : (v86 = 0 ∨ (6 : Int) ≤ 5) ∧ (m 86 3).toInt ≤ (m82 86 3).toInt ∧ (m82 86 3).toInt ≤ (m82 86 2).toInt ∧ (m82 86 2).toInt = (m 86 2).toInt ∧ ((v86.toInt = 1 ∧ (6 : Int) ≤ 5 ∧ (m82 86 3).toInt = (m 86 3).toInt + 1) ∨ (v86.toInt = 0 ∧ 6 ≤ (6 : Int) ∧ (m82 86 4).toInt = -5000 - (m 86 3).toInt ∧ (m82 86 3).toInt = (m 86 3).toInt)) ∧ (m82 lb 7).toInt = (m lb 7).toInt := by have q_ := rv86; (try rw [z80] at q_); exact q_
    have K85c := K85
    have w87 : (m82 86 2).toInt = (m 86 2).toInt := congrArg Int32.toInt (K85 86 2 rfl)
    have K85 := Kp.trans (K85.sub (by first | exact wZ_wY | exact wZ_86))
    show PV _ _ _ _ _ _ _ 14 [.ref 86, .int 6, pv_U] [.int v86] _
    refine pv_if_eq (M := mX7_readFactor) (tgt := 40) dX7_readFactor_14 17 rfl (by decide) (fun c88 => ?_) (fun c88 => ?_)
    · have c88 := iv_eq (X := v86.toInt) (Y := 0) c88 rfl (by decide)
      refine pv_iconst (M := mX7_readFactor) (v := 0) dX7_readFactor_40 41 rfl (by decide) ?_
      have z89 : (0 : Int32).toInt = 0 := by decide
      exact pv_iret (M := mX7_readFactor) dX7_readFactor_41 rfl rfl ⟨_, _, _, rfl, rfl, I84, K85, by decide, by decide, ⟨by omega, by omega, by omega, (by first | exact Or.inr ⟨by decide, FX_deep k91 (by omega)⟩ | exact Or.inr ⟨by decide, FX_cn k91 k27 (fun z => by omega) (by omega)⟩ | exact Or.inl ⟨by decide, FX_co k91 k27 (by omega) (by omega)⟩ | exact Or.inr ⟨by decide, FX_sum k91 (RSX_fl k24 (by omega))⟩ | (exfalso; omega)), by omega, IFZ.no (by first | decide | omega)⟩⟩
    · have pc88 := rv86.1.resolve_left c88
      have c88 := iv_ne (X := v86.toInt) (Y := 0) c88 rfl (by decide)
      omega

set_option maxHeartbeats 2000000 in
set_option maxRecDepth 20000 in
theorem s_X7_readTerm_v6z (g : pv_G) {T : List mv_T} {m : Nat → Nat → Int32} {n : Nat → Nat → Int64} {r : Nat → Value} {la lb : Nat} (hT : TX T) (I : IV BB m) (R : RX T r la lb) (hp0 : (m 86 3).toInt ≤ (m 86 2).toInt) (hp1 : TBC m) (hp2 : (m lb 2).toInt ≤ (m 86 3).toInt) : PM g mX7_readTerm yX7_readTerm (sqI T BB (wZ lb) r m 0 1 (fun m' v => (m 86 3).toInt ≤ (m' 86 3).toInt ∧ (m' 86 3).toInt ≤ (m' 86 2).toInt ∧ (m' 86 2).toInt = (m 86 2).toInt ∧ ((v.toInt = 0 ∨ (m 86 3).toInt + 1 ≤ (m' 86 3).toInt) ∧ TRX (SU (tC m) 0 (m 86 3).toInt) (LSu (tC m) 0) (fun a => isT (tC m a) = false) v.toInt (m' 86 3).toInt (m' 86 4).toInt) ∧ (m' lb 7).toInt = (m lb 7).toInt ∧ IFZ v.toInt (TMZ (tC m) 0 lb m m' (m 86 3).toInt (m' 86 3).toInt))) 6 0 0 [.ref 86, .int 6] (mk T m n r) := by
  have Kp : fr (wZ lb) m m := fr.rf
  have R0 := R
  have zR := R.2.2.2.2.1.1
  have zR2 := R.2.2.2.2.2.1
  have z99 : 0 ≤ (m 86 3).toInt ∧ (m 86 3).toInt ≤ 160 := I 86 3
  have z100 : 0 ≤ (m 86 2).toInt ∧ (m 86 2).toInt ≤ 160 := I 86 2
  refine PM.of 2 (lo := [.ref 86, .int 6, pv_U, pv_U]) rfl (by decide) rfl rfl (Nat.le_of_ble_eq_true rfl) ?_
  have kTX := TXT_C I
  refine pv_aload_n (M := mX7_readTerm) 0 dX7_readTerm_0 1 rfl rfl rfl ?_
  refine pv_iload_n (M := mX7_readTerm) 1 dX7_readTerm_1 2 rfl rfl rfl ?_
  have z2 : (6 : Int32).toInt = 6 := by decide
  refine pv_callv (M := mX7_readTerm) (as := [.int 6]) (st := []) (kc2 := 0) (ks2 := 0) dX7_readTerm_2 wd547 YX7_readFactor ⟨wd549, wd6⟩ (mk_get (tl86 hT)) rfl rfl (s_X7_readFactor_v6z g hT I R (by first | omega | assumption | exact (iv_rng _).2 | exact (iv_rng _).1 | decide) hp1 (by first | omega | assumption | exact (iv_rng _).2 | exact (iv_rng _).1 | decide)) rfl rfl (Nat.le_of_ble_eq_true rfl) (by decide) rfl rfl 5 rfl (fun rv h1 q3 => ?_)
  obtain ⟨m4, n5, v8, rfl, rfl, I6, K7, pv8, qv8, rv8⟩ := q3
  replace rv8 : (m 86 3).toInt ≤ (m4 86 3).toInt ∧ (m4 86 3).toInt ≤ (m4 86 2).toInt ∧ (m4 86 2).toInt = (m 86 2).toInt ∧ (RSX (FA (tC m) 0 (m 86 3).toInt) v8.toInt (m4 86 3).toInt (m4 86 4).toInt) ∧ (m4 lb 7).toInt = (m lb 7).toInt ∧ IFZ v8.toInt (CDS lb m m4 1 (FAD (tC m) 0 (m 86 3).toInt) ((m4 86 3).toInt - (m 86 3).toInt)) := by have q_ := rv8; (try rw [z2] at q_); exact q_
  have K7c := K7
  have K7 := Kp.trans (K7.sub (fun _ _ q => q))
  show PV _ _ _ _ _ _ _ 5 [.ref 86, .int 6, pv_U, pv_U] [.int v8] _
  have k5 := rv8.2.2.2.1
  have k5z0 := rv8.2.2.2.2.2
  refine pv_if_ne (M := mX7_readTerm) (tgt := 10) dX7_readTerm_5 8 rfl (by decide) (fun c11 => ?_) (fun c11 => ?_)
  · have c11 := iv_ne (X := v8.toInt) (Y := 0) c11 rfl (by decide)
    have kF0 := RSX_ok k5 (by omega)
    have kF1 := FA_le 0 (m 86 3).toInt (by rw [kF0])
    rw [kF0] at kF1
    have k5z := IFZ.get k5z0 (by omega)
    refine pv_iconst (M := mX7_readTerm) (v := 0) dX7_readTerm_10 11 rfl (by decide) ?_
    refine pv_istore_n (M := mX7_readTerm) 2 (lo2 := [.ref 86, .int 6, .int 0, pv_U]) dX7_readTerm_11 12 rfl rfl (by decide) rfl rfl ?_
    have lp22 : ∀ (fuel21 : Nat) (y16 : Int32) (m17 : Nat → Nat → Int32) (n18 : Nat → Nat → Int64), (0 ≤ y16.toInt) → (y16.toInt ≤ 160) → ((m17 86 3).toInt ≤ (m17 86 2).toInt) → ((m17 86 2).toInt = (m 86 2).toInt) → ((m17 lb 7).toInt = (m lb 7).toInt) → ((m 86 3).toInt + 1 + 2 * y16.toInt ≤ (m17 86 3).toInt) → (SU (tC m) 0 (m 86 3).toInt = LSu (tC m) 0 (m17 86 3).toInt) → (TMZ (tC m) 0 lb m m17 (m 86 3).toInt (m17 86 3).toInt) → IV BB m17 → fr (wZ lb) m m17 → ((160 - y16.toInt) : Int).toNat < fuel21 → PV none g mX7_readTerm (sqI T BB (wZ lb) r m 0 1 (fun m' v => (m 86 3).toInt ≤ (m' 86 3).toInt ∧ (m' 86 3).toInt ≤ (m' 86 2).toInt ∧ (m' 86 2).toInt = (m 86 2).toInt ∧ ((v.toInt = 0 ∨ (m 86 3).toInt + 1 ≤ (m' 86 3).toInt) ∧ TRX (SU (tC m) 0 (m 86 3).toInt) (LSu (tC m) 0) (fun a => isT (tC m a) = false) v.toInt (m' 86 3).toInt (m' 86 4).toInt) ∧ (m' lb 7).toInt = (m lb 7).toInt ∧ IFZ v.toInt (TMZ (tC m) 0 lb m m' (m 86 3).toInt (m' 86 3).toInt))) 6 0 0 12 [.ref 86, .int 6, .int y16, pv_U] [] (mk T m17 n18 r) := by
      intro fuel21
      induction fuel21 with
      | zero => intro y16 m17 n18 b24 b25 b26 b27 b28 b29 b30 b31 I19 K20 z32; omega
      | succ fuel21 ih23 =>
        intro y16 m17 n18 b24 b25 b26 b27 b28 b29 b30 b31 I19 K20 z32
        have z33 : 0 ≤ (m17 86 3).toInt ∧ (m17 86 3).toInt ≤ 160 := I19 86 3
        have z34 : 0 ≤ (m17 86 2).toInt ∧ (m17 86 2).toInt ≤ 160 := I19 86 2
        have kgs := (show SU (tC m) 0 (m 86 3).toInt = LSu (tC m) 0 (m17 86 3).toInt by assumption)
        have kt12 : tC m17 = tC m := tC_fz zR2 K20
        have kgz := (show TMZ (tC m) 0 lb m m17 (m 86 3).toInt (m17 86 3).toInt by assumption)
        have kgl := TMZ_b kgz
        refine pv_iload_n (M := mX7_readTerm) 2 dX7_readTerm_12 13 rfl rfl rfl ?_
        refine pv_sipush (M := mX7_readTerm) (v := 160) dX7_readTerm_13 16 rfl (by decide) ?_
        refine pv_icmp_ge (M := mX7_readTerm) (tgt := 66) dX7_readTerm_16 19 rfl (by decide) (fun c39 => ?_) (fun c39 => ?_)
        · have c39 := iv_le (X := 160) (Y := y16.toInt) c39 (by decide) rfl
          refine pv_iconst (M := mX7_readTerm) (v := 1) dX7_readTerm_66 67 rfl (by decide) ?_
          have z40 : (1 : Int32).toInt = 1 := by decide
          exact pv_iret (M := mX7_readTerm) dX7_readTerm_67 rfl rfl ⟨_, _, _, rfl, rfl, I19, K20, by decide, by decide, ⟨by omega, by omega, by omega, ⟨Or.inr (by omega), Or.inl ⟨by decide, kgs, by first | (exact (k23.resolve_left (fun q => by have q1 := q.1; omega)).2) | (exfalso; omega)⟩⟩, by omega, IFZ.is kgz⟩⟩
        · have c39 := iv_nle (X := 160) (Y := y16.toInt) c39 (by decide) rfl
          refine pv_aload_n (M := mX7_readTerm) 0 dX7_readTerm_19 20 rfl rfl rfl ?_
          refine pv_callv (M := mX7_readTerm) (as := []) (st := []) (kc2 := 0) (ks2 := 0) dX7_readTerm_20 wd654 YX7_timesAhead ⟨wd656, wd11⟩ (mk_get (tl86 hT)) rfl rfl (s_X7_timesAhead_vx g hT I19 R) rfl rfl (Nat.le_of_ble_eq_true rfl) (by decide) rfl rfl 23 rfl (fun rv h1 q41 => ?_)
          obtain ⟨v42, rfl, rfl, pv42, qv42, rv42⟩ := q41
          replace rv42 : (v42 = 0 ∨ (m17 86 3).toInt < (m17 86 2).toInt) ∧ ((v42.toInt = 1 ∧ isT (tC m17 (m17 86 3).toInt) = true) ∨ (v42.toInt = 0 ∧ isT (tC m17 (m17 86 3).toInt) = false)) := rv42
          show PV _ _ _ _ _ _ _ 23 [.ref 86, .int 6, .int y16, pv_U] [.int v42] _
          have k23 := rv42.2
          rw [kt12] at k23
          refine pv_if_eq (M := mX7_readTerm) (tgt := 66) dX7_readTerm_23 26 rfl (by decide) (fun c45 => ?_) (fun c45 => ?_)
          · have c45 := iv_eq (X := v42.toInt) (Y := 0) c45 rfl (by decide)
            refine pv_iconst (M := mX7_readTerm) (v := 1) dX7_readTerm_66 67 rfl (by decide) ?_
            have z46 : (1 : Int32).toInt = 1 := by decide
            exact pv_iret (M := mX7_readTerm) dX7_readTerm_67 rfl rfl ⟨_, _, _, rfl, rfl, I19, K20, by decide, by decide, ⟨by omega, by omega, by omega, ⟨Or.inr (by omega), Or.inl ⟨by decide, kgs, by first | (exact (k23.resolve_left (fun q => by have q1 := q.1; omega)).2) | (exfalso; omega)⟩⟩, by omega, IFZ.is kgz⟩⟩
          · have pc45 := rv42.1.resolve_left c45
            have c45 := iv_ne (X := v42.toInt) (Y := 0) c45 rfl (by decide)
            have kT := (k23.resolve_right (fun q => by have q1 := q.1; omega)).2
            refine pv_aload_n (M := mX7_readTerm) 0 dX7_readTerm_26 27 rfl rfl rfl ?_
            refine pv_callv (M := mX7_readTerm) (as := []) (st := []) (kc2 := 0) (ks2 := 0) dX7_readTerm_27 wd527 YX7_peek ⟨wd529, wd2⟩ (mk_get (tl86 hT)) rfl rfl (s_X7_peek_vx g hT I19 R) rfl rfl (Nat.le_of_ble_eq_true rfl) (by decide) rfl rfl 30 rfl (fun rv h1 q48 => ?_)
            obtain ⟨v49, rfl, rfl, pv49, qv49, rv49⟩ := q48
            replace rv49 : v49.toInt = tC m17 (m17 86 3).toInt ∧ (v49.toInt = -1 ∨ (m17 86 3).toInt < (m17 86 2).toInt) := rv49
            show PV _ _ _ _ _ _ _ 30 [.ref 86, .int 6, .int y16, pv_U] [.int v49] _
            have k30 : v49.toInt = tC m (m17 86 3).toInt := by rw [← kt12]; exact rv49.1
            refine pv_istore_n (M := mX7_readTerm) 3 (lo2 := [.ref 86, .int 6, .int y16, .int v49]) dX7_readTerm_30 31 rfl rfl (by decide) rfl rfl ?_
            refine pv_aload_n (M := mX7_readTerm) 0 dX7_readTerm_31 32 rfl rfl rfl ?_
            refine pv_dup (M := mX7_readTerm) dX7_readTerm_32 33 rfl rfl ?_
            refine iv_get (M := mX7_readTerm) (l1 := 0) (l2 := 160) dX7_readTerm_33 FX7 3 wd283 (by decide) (tl86 hT) rfl I19 rfl 36 rfl (fun v51 ev51 pv51 qv51 => ?_)
            have wv51 : v51.toInt = (m17 86 3).toInt := congrArg Int32.toInt ev51
            refine pv_iconst (M := mX7_readTerm) (v := 1) dX7_readTerm_36 37 rfl (by decide) ?_
            refine iv_iadd (M := mX7_readTerm) (X := v51.toInt) (Y := 1) dX7_readTerm_37 38 rfl rfl (by decide) (by omega) (by omega) (fun v52 ev52 => ?_)
            refine iv_put (M := mX7_readTerm) (l1 := 0) (l2 := 160) dX7_readTerm_38 FX7 3 wd283 (by decide) rfl (tl86 hT) rfl rfl rfl I19 rfl (by omega) (by omega) 41 rfl (fun m53 e56 I54 => ?_)
            have K55 := K20.set e56 (by first | rfl | decide)
            have w57 : (m53 86 3).toInt = v52.toInt := by rw [e56, up2_eq]
            have w58 : (m53 86 2).toInt = (m17 86 2).toInt := by rw [e56, up2_ne (by omega)]
            have w59 : (m53 86 4).toInt = (m17 86 4).toInt := by rw [e56, up2_ne (by omega)]
            have w60 : (m53 lb 7).toInt = (m17 lb 7).toInt := by rw [e56, up2_ne (by omega)]
            have w61 : (m53 lb 2).toInt = (m17 lb 2).toInt := by rw [e56, up2_ne (by omega)]
            have kt41 : tC m53 = tC m := tC_fz zR2 K55
            have kp41 : (m53 86 3).toInt = (m17 86 3).toInt + 1 := by omega
            have ks41 : SAML lb m17 m53 := SAML.set zR2 e56
            have kl41 : (m53 lb 2).toInt = (m17 lb 2).toInt := congrArg Int32.toInt ks41.1
            refine pv_aload_n (M := mX7_readTerm) 0 dX7_readTerm_41 42 rfl rfl rfl ?_
            refine pv_iload_n (M := mX7_readTerm) 1 dX7_readTerm_42 43 rfl rfl rfl ?_
            have z66 : (6 : Int32).toInt = 6 := by decide
            refine pv_callv (M := mX7_readTerm) (as := [.int 6]) (st := []) (kc2 := 0) (ks2 := 0) dX7_readTerm_43 wd547 YX7_readFactor ⟨wd549, wd6⟩ (mk_get (tl86 hT)) rfl rfl (s_X7_readFactor_v6z g hT I54 R (by first | omega | assumption | exact (iv_rng _).2 | exact (iv_rng _).1 | decide) (TBC_eq hp1 kt41) (by first | omega | assumption | exact (iv_rng _).2 | exact (iv_rng _).1 | decide)) rfl rfl (Nat.le_of_ble_eq_true rfl) (by decide) rfl rfl 46 rfl (fun rv h1 q67 => ?_)
            obtain ⟨m68, n69, v72, rfl, rfl, I70, K71, pv72, qv72, rv72⟩ := q67
            replace rv72 : (m53 86 3).toInt ≤ (m68 86 3).toInt ∧ (m68 86 3).toInt ≤ (m68 86 2).toInt ∧ (m68 86 2).toInt = (m53 86 2).toInt ∧ (RSX (FA (tC m53) 0 (m53 86 3).toInt) v72.toInt (m68 86 3).toInt (m68 86 4).toInt) ∧ (m68 lb 7).toInt = (m53 lb 7).toInt ∧ IFZ v72.toInt (CDS lb m53 m68 1 (FAD (tC m53) 0 (m53 86 3).toInt) ((m68 86 3).toInt - (m53 86 3).toInt)) := by have q_ := rv72; (try rw [z66] at q_); exact q_
            have K71c := K71
            have K71 := K55.trans (K71.sub (fun _ _ q => q))
            show PV _ _ _ _ _ _ _ 46 [.ref 86, .int 6, .int y16, .int v49] [.int v72] _
            have k46 := rv72.2.2.2.1
            rw [kt41, kp41] at k46
            have k46z0 := rv72.2.2.2.2.2
            rw [kt41, kp41] at k46z0
            refine pv_if_ne (M := mX7_readTerm) (tgt := 51) dX7_readTerm_46 49 rfl (by decide) (fun c77 => ?_) (fun c77 => ?_)
            · have c77 := iv_ne (X := v72.toInt) (Y := 0) c77 rfl (by decide)
              have kF4 := RSX_ok k46 (by omega)
              have kF5 := FA_le 0 ((m17 86 3).toInt + 1) (by rw [kF4])
              rw [kF4] at kF5
              have k46z := IFZ.get k46z0 (by omega)
              have k46b := CDS_b k46z
              refine pv_aload_n (M := mX7_readTerm) 0 dX7_readTerm_51 52 rfl rfl rfl ?_
              refine mv_get (M := mX7_readTerm) (v := .ref lb) dX7_readTerm_52 FX7 1 wd281 (by decide) (tl86 hT) rfl R.2.2.2.1 55 rfl ?_
              refine pv_iload_n (M := mX7_readTerm) 3 dX7_readTerm_55 56 rfl rfl rfl ?_
              refine pv_iconst (M := mX7_readTerm) (v := 0) dX7_readTerm_56 57 rfl (by decide) ?_
              have z83 : (0 : Int32).toInt = 0 := by decide
              refine pv_callv (M := mX7_readTerm) (as := [.int v49, .int 0]) (st := []) (kc2 := 0) (ks2 := 0) dX7_readTerm_57 wd567 YX6_emit ⟨wd568, wd569⟩ (mk_get R.2.2.2.2.2.2.1) rfl rfl (s_X6_emit_vz g hT I70 lb R.2.2.2.2.2 v49 0 (by decide) (by decide)) rfl rfl (Nat.le_of_ble_eq_true rfl) (by decide) rfl rfl 60 rfl (fun rv h1 q84 => ?_)
              obtain ⟨m85, n86, rfl, rfl, I87, K88, rm85⟩ := q84
              replace rm85 : (m85 lb 7).toInt = (m68 lb 7).toInt ∧ ((m68 lb 2).toInt < 160 → EMT lb m68 m85 v49.toInt (0 : Int32)) := by have q_ := rm85; (try rw [z83] at q_); exact q_
              have K88c := K88
              have w89 : (m85 86 3).toInt = (m68 86 3).toInt := congrArg Int32.toInt (K88 86 3 (wY_out (by omega) (by omega) (by omega)))
              have w90 : (m85 86 2).toInt = (m68 86 2).toInt := congrArg Int32.toInt (K88 86 2 (wY_out (by omega) (by omega) (by omega)))
              have w91 : (m85 86 4).toInt = (m68 86 4).toInt := congrArg Int32.toInt (K88 86 4 (wY_out (by omega) (by omega) (by omega)))
              have K88 := K71.trans (K88.sub (by first | exact wZ_wY | exact wZ_86))
              show PV _ _ _ _ _ _ _ 60 [.ref 86, .int 6, .int y16, .int v49] [] _
              have k60 := rm85.2 (by omega)
              refine iv_inc (M := mX7_readTerm) (C := 1) dX7_readTerm_60 63 rfl rfl (by decide) rfl rfl (by decide) (by omega) (by omega) (fun v93 ev93 => ?_)
              show PV _ _ _ _ _ _ _ 63 [.ref 86, .int 6, .int v93, .int v49] [] _
              refine pv_goto (M := mX7_readTerm) (tgt := 12) dX7_readTerm_63 (by decide) ?_
              refine pv_fg (lo2 := [.ref 86, .int 6, .int v93, pv_U]) ⟨Or.inr rfl, ⟨Or.inr rfl, ⟨Or.inr rfl, ⟨Or.inl rfl, trivial⟩⟩⟩⟩ ?_
              have kbs : SU (tC m) 0 (m 86 3).toInt = LSu (tC m) 0 (m85 86 3).toInt := by rw [kgs, LSu_ok kTX (by omega) (isT_S kT) kF4]; congr 1; omega
              have kbz : TMZ (tC m) 0 lb m m85 (m 86 3).toInt (m85 86 3).toInt := TMZ_s kgz kTX (by omega) kT (by rw [kF4]; congr 1; omega) ks41 k46z k60 (by omega) (by omega)
              exact ih23 v93 m85 n86 (by first | omega | assumption | exact (iv_rng _).2 | exact (iv_rng _).1 | decide) (by first | omega | assumption | exact (iv_rng _).2 | exact (iv_rng _).1 | decide) (by first | omega | assumption | (show (m85 86 3).toInt ≤ (m85 86 2).toInt; omega) | decide) (by first | omega | assumption | (show (m85 86 2).toInt = (m 86 2).toInt; omega) | decide) (by first | omega | assumption | (show (m85 lb 7).toInt = (m lb 7).toInt; omega) | decide) (by first | omega | assumption | (show (m 86 3).toInt + 1 + 2 * v93.toInt ≤ (m85 86 3).toInt; omega) | decide) kbs kbz I87 K88 (by omega)
            · have c77 := iv_eq (X := v72.toInt) (Y := 0) c77 rfl (by decide)
              refine pv_iconst (M := mX7_readTerm) (v := 0) dX7_readTerm_49 50 rfl (by decide) ?_
              have z96 : (0 : Int32).toInt = 0 := by decide
              exact pv_iret (M := mX7_readTerm) dX7_readTerm_50 rfl rfl ⟨_, _, _, rfl, rfl, I70, K71, by decide, by decide, ⟨by omega, by omega, by omega, ⟨Or.inl (by decide), Or.inr ⟨by decide, by rw [kgs]; exact LSu_fl kTX (by omega) (isT_S kT) (RSX_fl k46 (by omega))⟩⟩, by omega, IFZ.no (by first | decide | omega)⟩⟩
    have z97 : (0 : Int32).toInt = 0 := by decide
    exact lp22 (((160 - 0) : Int).toNat + 1) 0 m4 n5 (by first | omega | assumption | exact (iv_rng _).2 | exact (iv_rng _).1 | decide) (by first | omega | assumption | exact (iv_rng _).2 | exact (iv_rng _).1 | decide) (by first | omega | assumption | (show (m4 86 3).toInt ≤ (m4 86 2).toInt; omega) | decide) (by first | omega | assumption | (show (m4 86 2).toInt = (m 86 2).toInt; omega) | decide) (by first | omega | assumption | (show (m4 lb 7).toInt = (m lb 7).toInt; omega) | decide) (by first | omega | assumption | (show (m 86 3).toInt + 1 + 2 * 0 ≤ (m4 86 3).toInt; omega) | decide) (SU_ok kF0) (TMZ_0 k5z kF0) I6 K7 (by omega)
  · have c11 := iv_eq (X := v8.toInt) (Y := 0) c11 rfl (by decide)
    refine pv_iconst (M := mX7_readTerm) (v := 0) dX7_readTerm_8 9 rfl (by decide) ?_
    have z98 : (0 : Int32).toInt = 0 := by decide
    exact pv_iret (M := mX7_readTerm) dX7_readTerm_9 rfl rfl ⟨_, _, _, rfl, rfl, I6, K7, by decide, by decide, ⟨by omega, by omega, by omega, ⟨Or.inl (by decide), Or.inr ⟨by decide, SU_fl (RSX_fl k5 (by omega))⟩⟩, by omega, IFZ.no (by first | decide | omega)⟩⟩

set_option maxHeartbeats 2000000 in
set_option maxRecDepth 20000 in
theorem s_X7_readSum_v6z (g : pv_G) {T : List mv_T} {m : Nat → Nat → Int32} {n : Nat → Nat → Int64} {r : Nat → Value} {la lb : Nat} (hT : TX T) (I : IV BB m) (R : RX T r la lb) (hp0 : (m 86 3).toInt ≤ (m 86 2).toInt) (hp1 : TBC m) (hp2 : (m lb 2).toInt ≤ (m 86 3).toInt) : PM g mX7_readSum yX7_readSum (sqI T BB (wZ lb) r m 0 1 (fun m' v => (m 86 3).toInt ≤ (m' 86 3).toInt ∧ (m' 86 3).toInt ≤ (m' 86 2).toInt ∧ (m' 86 2).toInt = (m 86 2).toInt ∧ (RSX (SU (tC m) 0 (m 86 3).toInt) v.toInt (m' 86 3).toInt (m' 86 4).toInt) ∧ (m' lb 7).toInt = (m lb 7).toInt ∧ IFZ v.toInt (CDS lb m m' 3 (SUD (tC m) 0 (m 86 3).toInt) ((m' 86 3).toInt - (m 86 3).toInt)))) 7 0 0 [.ref 86, .int 6] (mk T m n r) := by
  have Kp : fr (wZ lb) m m := fr.rf
  have R0 := R
  have zR := R.2.2.2.2.1.1
  have zR2 := R.2.2.2.2.2.1
  have z158 : 0 ≤ (m 86 3).toInt ∧ (m 86 3).toInt ≤ 160 := I 86 3
  have z159 : 0 ≤ (m 86 2).toInt ∧ (m 86 2).toInt ≤ 160 := I 86 2
  refine PM.of 2 (lo := [.ref 86, .int 6, pv_U, pv_U]) rfl (by decide) rfl rfl (Nat.le_of_ble_eq_true rfl) ?_
  have kTX := TXT_C I
  refine pv_aload_n (M := mX7_readSum) 0 dX7_readSum_0 1 rfl rfl rfl ?_
  refine pv_iload_n (M := mX7_readSum) 1 dX7_readSum_1 2 rfl rfl rfl ?_
  have z2 : (6 : Int32).toInt = 6 := by decide
  refine pv_callv (M := mX7_readSum) (as := [.int 6]) (st := []) (kc2 := 0) (ks2 := 0) dX7_readSum_2 wd543 YX7_readTerm ⟨wd545, wd5⟩ (mk_get (tl86 hT)) rfl rfl (s_X7_readTerm_v6z g hT I R (by first | omega | assumption | exact (iv_rng _).2 | exact (iv_rng _).1 | decide) hp1 (by first | omega | assumption | exact (iv_rng _).2 | exact (iv_rng _).1 | decide)) rfl rfl (Nat.le_of_ble_eq_true rfl) (by decide) rfl rfl 5 rfl (fun rv h1 q3 => ?_)
  obtain ⟨m4, n5, v8, rfl, rfl, I6, K7, pv8, qv8, rv8⟩ := q3
  replace rv8 : (m 86 3).toInt ≤ (m4 86 3).toInt ∧ (m4 86 3).toInt ≤ (m4 86 2).toInt ∧ (m4 86 2).toInt = (m 86 2).toInt ∧ ((v8.toInt = 0 ∨ (m 86 3).toInt + 1 ≤ (m4 86 3).toInt) ∧ TRX (SU (tC m) 0 (m 86 3).toInt) (LSu (tC m) 0) (fun a => isT (tC m a) = false) v8.toInt (m4 86 3).toInt (m4 86 4).toInt) ∧ (m4 lb 7).toInt = (m lb 7).toInt ∧ IFZ v8.toInt (TMZ (tC m) 0 lb m m4 (m 86 3).toInt (m4 86 3).toInt) := by have q_ := rv8; (try rw [z2] at q_); exact q_
  have K7c := K7
  have K7 := Kp.trans (K7.sub (fun _ _ q => q))
  show PV _ _ _ _ _ _ _ 5 [.ref 86, .int 6, pv_U, pv_U] [.int v8] _
  have k5 := rv8.2.2.2.1.2
  have k5p := rv8.2.2.2.1.1
  have k5z0 := rv8.2.2.2.2.2
  refine pv_if_ne (M := mX7_readSum) (tgt := 10) dX7_readSum_5 8 rfl (by decide) (fun c12 => ?_) (fun c12 => ?_)
  · have c12 := iv_ne (X := v8.toInt) (Y := 0) c12 rfl (by decide)
    have k5z := IFZ.get k5z0 (by omega)
    refine pv_iconst (M := mX7_readSum) (v := 0) dX7_readSum_10 11 rfl (by decide) ?_
    refine pv_istore_n (M := mX7_readSum) 2 (lo2 := [.ref 86, .int 6, .int 0, pv_U]) dX7_readSum_11 12 rfl rfl (by decide) rfl rfl ?_
    have lp20 : ∀ (fuel19 : Nat) (y14 : Int32) (m15 : Nat → Nat → Int32) (n16 : Nat → Nat → Int64), (0 ≤ y14.toInt) → (y14.toInt ≤ 160) → ((m15 86 3).toInt ≤ (m15 86 2).toInt) → ((m15 86 2).toInt = (m 86 2).toInt) → ((m15 lb 7).toInt = (m lb 7).toInt) → ((m 86 3).toInt + 1 + 2 * y14.toInt ≤ (m15 86 3).toInt) → (SU (tC m) 0 (m 86 3).toInt = LSu (tC m) 0 (m15 86 3).toInt) → (isT (tC m (m15 86 3).toInt) = false) → (SMZ (tC m) 0 lb m m15 (m 86 3).toInt (m15 86 3).toInt) → IV BB m15 → fr (wZ lb) m m15 → ((160 - y14.toInt) : Int).toNat < fuel19 → PV none g mX7_readSum (sqI T BB (wZ lb) r m 0 1 (fun m' v => (m 86 3).toInt ≤ (m' 86 3).toInt ∧ (m' 86 3).toInt ≤ (m' 86 2).toInt ∧ (m' 86 2).toInt = (m 86 2).toInt ∧ (RSX (SU (tC m) 0 (m 86 3).toInt) v.toInt (m' 86 3).toInt (m' 86 4).toInt) ∧ (m' lb 7).toInt = (m lb 7).toInt ∧ IFZ v.toInt (CDS lb m m' 3 (SUD (tC m) 0 (m 86 3).toInt) ((m' 86 3).toInt - (m 86 3).toInt)))) 7 0 0 12 [.ref 86, .int 6, .int y14, pv_U] [] (mk T m15 n16 r) := by
      intro fuel19
      induction fuel19 with
      | zero => intro y14 m15 n16 b22 b23 b24 b25 b26 b27 b28 b29 b30 I17 K18 z31; omega
      | succ fuel19 ih21 =>
        intro y14 m15 n16 b22 b23 b24 b25 b26 b27 b28 b29 b30 I17 K18 z31
        have z32 : 0 ≤ (m15 86 3).toInt ∧ (m15 86 3).toInt ≤ 160 := I17 86 3
        have z33 : 0 ≤ (m15 86 2).toInt ∧ (m15 86 2).toInt ≤ 160 := I17 86 2
        have kgs := (show SU (tC m) 0 (m 86 3).toInt = LSu (tC m) 0 (m15 86 3).toInt by assumption)
        have kgt := (show isT (tC m (m15 86 3).toInt) = false by assumption)
        have kt12 : tC m15 = tC m := tC_fz zR2 K18
        have kgz := (show SMZ (tC m) 0 lb m m15 (m 86 3).toInt (m15 86 3).toInt by assumption)
        have kgl := SMZ_b kgz
        refine pv_iload_n (M := mX7_readSum) 2 dX7_readSum_12 13 rfl rfl rfl ?_
        refine pv_sipush (M := mX7_readSum) (v := 160) dX7_readSum_13 16 rfl (by decide) ?_
        refine pv_icmp_ge (M := mX7_readSum) (tgt := 77) dX7_readSum_16 19 rfl (by decide) (fun c39 => ?_) (fun c39 => ?_)
        · have c39 := iv_le (X := 160) (Y := y14.toInt) c39 (by decide) rfl
          refine pv_iconst (M := mX7_readSum) (v := 1) dX7_readSum_77 78 rfl (by decide) ?_
          have z40 : (1 : Int32).toInt = 1 := by decide
          exact pv_iret (M := mX7_readSum) dX7_readSum_78 rfl rfl ⟨_, _, _, rfl, rfl, I17, K18, by decide, by decide, ⟨by omega, by omega, by omega, (by first | exact Or.inl ⟨by decide, by rw [kgs]; exact LSu_no (isS_n kgt (by omega) (by omega))⟩ | (exfalso; omega)), by omega, (by first | exact IFZ.is (SMZ_e kgz (isS_n kgt (by omega) (by omega))) | exact IFZ.no (by omega))⟩⟩
        · have c39 := iv_nle (X := 160) (Y := y14.toInt) c39 (by decide) rfl
          refine pv_aload_n (M := mX7_readSum) 0 dX7_readSum_19 20 rfl rfl rfl ?_
          refine pv_callv (M := mX7_readSum) (as := []) (st := []) (kc2 := 0) (ks2 := 0) dX7_readSum_20 wd527 YX7_peek ⟨wd529, wd2⟩ (mk_get (tl86 hT)) rfl rfl (s_X7_peek_vx g hT I17 R) rfl rfl (Nat.le_of_ble_eq_true rfl) (by decide) rfl rfl 23 rfl (fun rv h1 q41 => ?_)
          obtain ⟨v42, rfl, rfl, pv42, qv42, rv42⟩ := q41
          replace rv42 : v42.toInt = tC m15 (m15 86 3).toInt ∧ (v42.toInt = -1 ∨ (m15 86 3).toInt < (m15 86 2).toInt) := rv42
          show PV _ _ _ _ _ _ _ 23 [.ref 86, .int 6, .int y14, pv_U] [.int v42] _
          have k23 := rv42.1
          have k23b := rv42.2
          rw [kt12] at k23
          refine pv_bipush (M := mX7_readSum) (v := 43) dX7_readSum_23 25 rfl (by decide) ?_
          refine pv_icmp_eq (M := mX7_readSum) (tgt := 37) dX7_readSum_25 28 rfl (by decide) (fun c46 => ?_) (fun c46 => ?_)
          · have c46 := iv_eq (X := v42.toInt) (Y := 43) c46 rfl (by decide)
            have kS : isS (tC m (m15 86 3).toInt) = true := isS_y (by omega)
            refine pv_aload_n (M := mX7_readSum) 0 dX7_readSum_37 38 rfl rfl rfl ?_
            refine pv_callv (M := mX7_readSum) (as := []) (st := []) (kc2 := 0) (ks2 := 0) dX7_readSum_38 wd527 YX7_peek ⟨wd529, wd2⟩ (mk_get (tl86 hT)) rfl rfl (s_X7_peek_vx g hT I17 R) rfl rfl (Nat.le_of_ble_eq_true rfl) (by decide) rfl rfl 41 rfl (fun rv h1 q48 => ?_)
            obtain ⟨v49, rfl, rfl, pv49, qv49, rv49⟩ := q48
            replace rv49 : v49.toInt = tC m15 (m15 86 3).toInt ∧ (v49.toInt = -1 ∨ (m15 86 3).toInt < (m15 86 2).toInt) := rv49
            show PV _ _ _ _ _ _ _ 41 [.ref 86, .int 6, .int y14, pv_U] [.int v49] _
            have k41 : v49.toInt = tC m (m15 86 3).toInt := by rw [← kt12]; exact rv49.1
            refine pv_istore_n (M := mX7_readSum) 3 (lo2 := [.ref 86, .int 6, .int y14, .int v49]) dX7_readSum_41 42 rfl rfl (by decide) rfl rfl ?_
            refine pv_aload_n (M := mX7_readSum) 0 dX7_readSum_42 43 rfl rfl rfl ?_
            refine pv_dup (M := mX7_readSum) dX7_readSum_43 44 rfl rfl ?_
            refine iv_get (M := mX7_readSum) (l1 := 0) (l2 := 160) dX7_readSum_44 FX7 3 wd283 (by decide) (tl86 hT) rfl I17 rfl 47 rfl (fun v51 ev51 pv51 qv51 => ?_)
            have wv51 : v51.toInt = (m15 86 3).toInt := congrArg Int32.toInt ev51
            refine pv_iconst (M := mX7_readSum) (v := 1) dX7_readSum_47 48 rfl (by decide) ?_
            refine iv_iadd (M := mX7_readSum) (X := v51.toInt) (Y := 1) dX7_readSum_48 49 rfl rfl (by decide) (by omega) (by omega) (fun v52 ev52 => ?_)
            refine iv_put (M := mX7_readSum) (l1 := 0) (l2 := 160) dX7_readSum_49 FX7 3 wd283 (by decide) rfl (tl86 hT) rfl rfl rfl I17 rfl (by omega) (by omega) 52 rfl (fun m53 e56 I54 => ?_)
            have K55 := K18.set e56 (by first | rfl | decide)
            have w57 : (m53 86 3).toInt = v52.toInt := by rw [e56, up2_eq]
            have w58 : (m53 86 2).toInt = (m15 86 2).toInt := by rw [e56, up2_ne (by omega)]
            have w59 : (m53 86 4).toInt = (m15 86 4).toInt := by rw [e56, up2_ne (by omega)]
            have w60 : (m53 lb 7).toInt = (m15 lb 7).toInt := by rw [e56, up2_ne (by omega)]
            have w61 : (m53 lb 2).toInt = (m15 lb 2).toInt := by rw [e56, up2_ne (by omega)]
            have kt52 : tC m53 = tC m := tC_fz zR2 K55
            have kp52 : (m53 86 3).toInt = (m15 86 3).toInt + 1 := by omega
            have ks52 : SAML lb m15 m53 := SAML.set zR2 e56
            have kl52 : (m53 lb 2).toInt = (m15 lb 2).toInt := congrArg Int32.toInt ks52.1
            refine pv_aload_n (M := mX7_readSum) 0 dX7_readSum_52 53 rfl rfl rfl ?_
            refine pv_iload_n (M := mX7_readSum) 1 dX7_readSum_53 54 rfl rfl rfl ?_
            have z66 : (6 : Int32).toInt = 6 := by decide
            refine pv_callv (M := mX7_readSum) (as := [.int 6]) (st := []) (kc2 := 0) (ks2 := 0) dX7_readSum_54 wd543 YX7_readTerm ⟨wd545, wd5⟩ (mk_get (tl86 hT)) rfl rfl (s_X7_readTerm_v6z g hT I54 R (by first | omega | assumption | exact (iv_rng _).2 | exact (iv_rng _).1 | decide) (TBC_eq hp1 kt52) (by first | omega | assumption | exact (iv_rng _).2 | exact (iv_rng _).1 | decide)) rfl rfl (Nat.le_of_ble_eq_true rfl) (by decide) rfl rfl 57 rfl (fun rv h1 q67 => ?_)
            obtain ⟨m68, n69, v72, rfl, rfl, I70, K71, pv72, qv72, rv72⟩ := q67
            replace rv72 : (m53 86 3).toInt ≤ (m68 86 3).toInt ∧ (m68 86 3).toInt ≤ (m68 86 2).toInt ∧ (m68 86 2).toInt = (m53 86 2).toInt ∧ ((v72.toInt = 0 ∨ (m53 86 3).toInt + 1 ≤ (m68 86 3).toInt) ∧ TRX (SU (tC m53) 0 (m53 86 3).toInt) (LSu (tC m53) 0) (fun a => isT (tC m53 a) = false) v72.toInt (m68 86 3).toInt (m68 86 4).toInt) ∧ (m68 lb 7).toInt = (m53 lb 7).toInt ∧ IFZ v72.toInt (TMZ (tC m53) 0 lb m53 m68 (m53 86 3).toInt (m68 86 3).toInt) := by have q_ := rv72; (try rw [z66] at q_); exact q_
            have K71c := K71
            have K71 := K55.trans (K71.sub (fun _ _ q => q))
            show PV _ _ _ _ _ _ _ 57 [.ref 86, .int 6, .int y14, .int v49] [.int v72] _
            have k57 := rv72.2.2.2.1.2
            have k57p := rv72.2.2.2.1.1
            rw [kt52, kp52] at k57
            have k57z0 := rv72.2.2.2.2.2
            rw [kt52, kp52] at k57z0
            refine pv_if_ne (M := mX7_readSum) (tgt := 62) dX7_readSum_57 60 rfl (by decide) (fun c78 => ?_) (fun c78 => ?_)
            · have c78 := iv_ne (X := v72.toInt) (Y := 0) c78 rfl (by decide)
              have kT6 := TRX_ok k57 (by omega)
              have k57z := IFZ.get k57z0 (by omega)
              have k57b := TMZ_b k57z
              refine pv_aload_n (M := mX7_readSum) 0 dX7_readSum_62 63 rfl rfl rfl ?_
              refine mv_get (M := mX7_readSum) (v := .ref lb) dX7_readSum_63 FX7 1 wd281 (by decide) (tl86 hT) rfl R.2.2.2.1 66 rfl ?_
              refine pv_iload_n (M := mX7_readSum) 3 dX7_readSum_66 67 rfl rfl rfl ?_
              refine pv_iconst (M := mX7_readSum) (v := 0) dX7_readSum_67 68 rfl (by decide) ?_
              have z82 : (0 : Int32).toInt = 0 := by decide
              refine pv_callv (M := mX7_readSum) (as := [.int v49, .int 0]) (st := []) (kc2 := 0) (ks2 := 0) dX7_readSum_68 wd567 YX6_emit ⟨wd568, wd569⟩ (mk_get R.2.2.2.2.2.2.1) rfl rfl (s_X6_emit_vz g hT I70 lb R.2.2.2.2.2 v49 0 (by decide) (by decide)) rfl rfl (Nat.le_of_ble_eq_true rfl) (by decide) rfl rfl 71 rfl (fun rv h1 q83 => ?_)
              obtain ⟨m84, n85, rfl, rfl, I86, K87, rm84⟩ := q83
              replace rm84 : (m84 lb 7).toInt = (m68 lb 7).toInt ∧ ((m68 lb 2).toInt < 160 → EMT lb m68 m84 v49.toInt (0 : Int32)) := by have q_ := rm84; (try rw [z82] at q_); exact q_
              have K87c := K87
              have w88 : (m84 86 3).toInt = (m68 86 3).toInt := congrArg Int32.toInt (K87 86 3 (wY_out (by omega) (by omega) (by omega)))
              have w89 : (m84 86 2).toInt = (m68 86 2).toInt := congrArg Int32.toInt (K87 86 2 (wY_out (by omega) (by omega) (by omega)))
              have w90 : (m84 86 4).toInt = (m68 86 4).toInt := congrArg Int32.toInt (K87 86 4 (wY_out (by omega) (by omega) (by omega)))
              have K87 := K71.trans (K87.sub (by first | exact wZ_wY | exact wZ_86))
              show PV _ _ _ _ _ _ _ 71 [.ref 86, .int 6, .int y14, .int v49] [] _
              have k71 := rm84.2 (by omega)
              refine iv_inc (M := mX7_readSum) (C := 1) dX7_readSum_71 74 rfl rfl (by decide) rfl rfl (by decide) (by omega) (by omega) (fun v92 ev92 => ?_)
              show PV _ _ _ _ _ _ _ 74 [.ref 86, .int 6, .int v92, .int v49] [] _
              refine pv_goto (M := mX7_readSum) (tgt := 12) dX7_readSum_74 (by decide) ?_
              refine pv_fg (lo2 := [.ref 86, .int 6, .int v92, pv_U]) ⟨Or.inr rfl, ⟨Or.inr rfl, ⟨Or.inr rfl, ⟨Or.inl rfl, trivial⟩⟩⟩⟩ ?_
              have kb3 : (m84 86 3).toInt = (m68 86 3).toInt := by omega
              have kbs : SU (tC m) 0 (m 86 3).toInt = LSu (tC m) 0 (m84 86 3).toInt := by rw [kgs, LSu_su kTX (by omega) kS, kT6.1]; congr 1; omega
              have kbt : isT (tC m (m84 86 3).toInt) = false := by rw [kb3]; exact kT6.2
              have kbz : SMZ (tC m) 0 lb m m84 (m 86 3).toInt (m84 86 3).toInt := by rw [kb3]; exact SMZ_s kgz kTX (by omega) kS kgt ks52 k57z k71 (by omega) (by unfold isO; omega) kT6.2
              exact ih21 v92 m84 n85 (by first | omega | assumption | exact (iv_rng _).2 | exact (iv_rng _).1 | decide) (by first | omega | assumption | exact (iv_rng _).2 | exact (iv_rng _).1 | decide) (by first | omega | assumption | (show (m84 86 3).toInt ≤ (m84 86 2).toInt; omega) | decide) (by first | omega | assumption | (show (m84 86 2).toInt = (m 86 2).toInt; omega) | decide) (by first | omega | assumption | (show (m84 lb 7).toInt = (m lb 7).toInt; omega) | decide) (by first | omega | assumption | (show (m 86 3).toInt + 1 + 2 * v92.toInt ≤ (m84 86 3).toInt; omega) | decide) kbs kbt kbz I86 K87 (by omega)
            · have c78 := iv_eq (X := v72.toInt) (Y := 0) c78 rfl (by decide)
              refine pv_iconst (M := mX7_readSum) (v := 0) dX7_readSum_60 61 rfl (by decide) ?_
              have z97 : (0 : Int32).toInt = 0 := by decide
              exact pv_iret (M := mX7_readSum) dX7_readSum_61 rfl rfl ⟨_, _, _, rfl, rfl, I70, K71, by decide, by decide, ⟨by omega, by omega, by omega, Or.inr ⟨by decide, by rw [kgs, LSu_su kTX (by omega) kS]; exact TRX_fl k57 (by omega)⟩, by omega, IFZ.no (by first | decide | omega)⟩⟩
          · have c46 := iv_ne (X := v42.toInt) (Y := 43) c46 rfl (by decide)
            refine pv_aload_n (M := mX7_readSum) 0 dX7_readSum_28 29 rfl rfl rfl ?_
            refine pv_callv (M := mX7_readSum) (as := []) (st := []) (kc2 := 0) (ks2 := 0) dX7_readSum_29 wd527 YX7_peek ⟨wd529, wd2⟩ (mk_get (tl86 hT)) rfl rfl (s_X7_peek_vx g hT I17 R) rfl rfl (Nat.le_of_ble_eq_true rfl) (by decide) rfl rfl 32 rfl (fun rv h1 q98 => ?_)
            obtain ⟨v99, rfl, rfl, pv99, qv99, rv99⟩ := q98
            replace rv99 : v99.toInt = tC m15 (m15 86 3).toInt ∧ (v99.toInt = -1 ∨ (m15 86 3).toInt < (m15 86 2).toInt) := rv99
            show PV _ _ _ _ _ _ _ 32 [.ref 86, .int 6, .int y14, pv_U] [.int v99] _
            have k32 := rv99.1
            have k32b := rv99.2
            rw [kt12] at k32
            refine pv_bipush (M := mX7_readSum) (v := 45) dX7_readSum_32 34 rfl (by decide) ?_
            refine pv_icmp_ne (M := mX7_readSum) (tgt := 77) dX7_readSum_34 37 rfl (by decide) (fun c103 => ?_) (fun c103 => ?_)
            · have c103 := iv_ne (X := v99.toInt) (Y := 45) c103 rfl (by decide)
              refine pv_iconst (M := mX7_readSum) (v := 1) dX7_readSum_77 78 rfl (by decide) ?_
              have z104 : (1 : Int32).toInt = 1 := by decide
              exact pv_iret (M := mX7_readSum) dX7_readSum_78 rfl rfl ⟨_, _, _, rfl, rfl, I17, K18, by decide, by decide, ⟨by omega, by omega, by omega, (by first | exact Or.inl ⟨by decide, by rw [kgs]; exact LSu_no (isS_n kgt (by omega) (by omega))⟩ | (exfalso; omega)), by omega, (by first | exact IFZ.is (SMZ_e kgz (isS_n kgt (by omega) (by omega))) | exact IFZ.no (by omega))⟩⟩
            · have c103 := iv_eq (X := v99.toInt) (Y := 45) c103 rfl (by decide)
              have kS : isS (tC m (m15 86 3).toInt) = true := isS_y (by omega)
              refine pv_aload_n (M := mX7_readSum) 0 dX7_readSum_37 38 rfl rfl rfl ?_
              refine pv_callv (M := mX7_readSum) (as := []) (st := []) (kc2 := 0) (ks2 := 0) dX7_readSum_38 wd527 YX7_peek ⟨wd529, wd2⟩ (mk_get (tl86 hT)) rfl rfl (s_X7_peek_vx g hT I17 R) rfl rfl (Nat.le_of_ble_eq_true rfl) (by decide) rfl rfl 41 rfl (fun rv h1 q106 => ?_)
              obtain ⟨v107, rfl, rfl, pv107, qv107, rv107⟩ := q106
              replace rv107 : v107.toInt = tC m15 (m15 86 3).toInt ∧ (v107.toInt = -1 ∨ (m15 86 3).toInt < (m15 86 2).toInt) := rv107
              show PV _ _ _ _ _ _ _ 41 [.ref 86, .int 6, .int y14, pv_U] [.int v107] _
              have k41 : v107.toInt = tC m (m15 86 3).toInt := by rw [← kt12]; exact rv107.1
              refine pv_istore_n (M := mX7_readSum) 3 (lo2 := [.ref 86, .int 6, .int y14, .int v107]) dX7_readSum_41 42 rfl rfl (by decide) rfl rfl ?_
              refine pv_aload_n (M := mX7_readSum) 0 dX7_readSum_42 43 rfl rfl rfl ?_
              refine pv_dup (M := mX7_readSum) dX7_readSum_43 44 rfl rfl ?_
              refine iv_get (M := mX7_readSum) (l1 := 0) (l2 := 160) dX7_readSum_44 FX7 3 wd283 (by decide) (tl86 hT) rfl I17 rfl 47 rfl (fun v109 ev109 pv109 qv109 => ?_)
              have wv109 : v109.toInt = (m15 86 3).toInt := congrArg Int32.toInt ev109
              refine pv_iconst (M := mX7_readSum) (v := 1) dX7_readSum_47 48 rfl (by decide) ?_
              refine iv_iadd (M := mX7_readSum) (X := v109.toInt) (Y := 1) dX7_readSum_48 49 rfl rfl (by decide) (by omega) (by omega) (fun v110 ev110 => ?_)
              refine iv_put (M := mX7_readSum) (l1 := 0) (l2 := 160) dX7_readSum_49 FX7 3 wd283 (by decide) rfl (tl86 hT) rfl rfl rfl I17 rfl (by omega) (by omega) 52 rfl (fun m111 e114 I112 => ?_)
              have K113 := K18.set e114 (by first | rfl | decide)
              have w115 : (m111 86 3).toInt = v110.toInt := by rw [e114, up2_eq]
              have w116 : (m111 86 2).toInt = (m15 86 2).toInt := by rw [e114, up2_ne (by omega)]
              have w117 : (m111 86 4).toInt = (m15 86 4).toInt := by rw [e114, up2_ne (by omega)]
              have w118 : (m111 lb 7).toInt = (m15 lb 7).toInt := by rw [e114, up2_ne (by omega)]
              have w119 : (m111 lb 2).toInt = (m15 lb 2).toInt := by rw [e114, up2_ne (by omega)]
              have kt52 : tC m111 = tC m := tC_fz zR2 K113
              have kp52 : (m111 86 3).toInt = (m15 86 3).toInt + 1 := by omega
              have ks52 : SAML lb m15 m111 := SAML.set zR2 e114
              have kl52 : (m111 lb 2).toInt = (m15 lb 2).toInt := congrArg Int32.toInt ks52.1
              refine pv_aload_n (M := mX7_readSum) 0 dX7_readSum_52 53 rfl rfl rfl ?_
              refine pv_iload_n (M := mX7_readSum) 1 dX7_readSum_53 54 rfl rfl rfl ?_
              have z124 : (6 : Int32).toInt = 6 := by decide
              refine pv_callv (M := mX7_readSum) (as := [.int 6]) (st := []) (kc2 := 0) (ks2 := 0) dX7_readSum_54 wd543 YX7_readTerm ⟨wd545, wd5⟩ (mk_get (tl86 hT)) rfl rfl (s_X7_readTerm_v6z g hT I112 R (by first | omega | assumption | exact (iv_rng _).2 | exact (iv_rng _).1 | decide) (TBC_eq hp1 kt52) (by first | omega | assumption | exact (iv_rng _).2 | exact (iv_rng _).1 | decide)) rfl rfl (Nat.le_of_ble_eq_true rfl) (by decide) rfl rfl 57 rfl (fun rv h1 q125 => ?_)
              obtain ⟨m126, n127, v130, rfl, rfl, I128, K129, pv130, qv130, rv130⟩ := q125
              replace rv130 : (m111 86 3).toInt ≤ (m126 86 3).toInt ∧ (m126 86 3).toInt ≤ (m126 86 2).toInt ∧ (m126 86 2).toInt = (m111 86 2).toInt ∧ ((v130.toInt = 0 ∨ (m111 86 3).toInt + 1 ≤ (m126 86 3).toInt) ∧ TRX (SU (tC m111) 0 (m111 86 3).toInt) (LSu (tC m111) 0) (fun a => isT (tC m111 a) = false) v130.toInt (m126 86 3).toInt (m126 86 4).toInt) ∧ (m126 lb 7).toInt = (m111 lb 7).toInt ∧ IFZ v130.toInt (TMZ (tC m111) 0 lb m111 m126 (m111 86 3).toInt (m126 86 3).toInt) := by have q_ := rv130; (try rw [z124] at q_); exact q_
              have K129c := K129
              have K129 := K113.trans (K129.sub (fun _ _ q => q))
              show PV _ _ _ _ _ _ _ 57 [.ref 86, .int 6, .int y14, .int v107] [.int v130] _
              have k57 := rv130.2.2.2.1.2
              have k57p := rv130.2.2.2.1.1
              rw [kt52, kp52] at k57
              have k57z0 := rv130.2.2.2.2.2
              rw [kt52, kp52] at k57z0
              refine pv_if_ne (M := mX7_readSum) (tgt := 62) dX7_readSum_57 60 rfl (by decide) (fun c136 => ?_) (fun c136 => ?_)
              · have c136 := iv_ne (X := v130.toInt) (Y := 0) c136 rfl (by decide)
                have kT6 := TRX_ok k57 (by omega)
                have k57z := IFZ.get k57z0 (by omega)
                have k57b := TMZ_b k57z
                refine pv_aload_n (M := mX7_readSum) 0 dX7_readSum_62 63 rfl rfl rfl ?_
                refine mv_get (M := mX7_readSum) (v := .ref lb) dX7_readSum_63 FX7 1 wd281 (by decide) (tl86 hT) rfl R.2.2.2.1 66 rfl ?_
                refine pv_iload_n (M := mX7_readSum) 3 dX7_readSum_66 67 rfl rfl rfl ?_
                refine pv_iconst (M := mX7_readSum) (v := 0) dX7_readSum_67 68 rfl (by decide) ?_
                have z140 : (0 : Int32).toInt = 0 := by decide
                refine pv_callv (M := mX7_readSum) (as := [.int v107, .int 0]) (st := []) (kc2 := 0) (ks2 := 0) dX7_readSum_68 wd567 YX6_emit ⟨wd568, wd569⟩ (mk_get R.2.2.2.2.2.2.1) rfl rfl (s_X6_emit_vz g hT I128 lb R.2.2.2.2.2 v107 0 (by decide) (by decide)) rfl rfl (Nat.le_of_ble_eq_true rfl) (by decide) rfl rfl 71 rfl (fun rv h1 q141 => ?_)
                obtain ⟨m142, n143, rfl, rfl, I144, K145, rm142⟩ := q141
                replace rm142 : (m142 lb 7).toInt = (m126 lb 7).toInt ∧ ((m126 lb 2).toInt < 160 → EMT lb m126 m142 v107.toInt (0 : Int32)) := by have q_ := rm142; (try rw [z140] at q_); exact q_
                have K145c := K145
                have w146 : (m142 86 3).toInt = (m126 86 3).toInt := congrArg Int32.toInt (K145 86 3 (wY_out (by omega) (by omega) (by omega)))
                have w147 : (m142 86 2).toInt = (m126 86 2).toInt := congrArg Int32.toInt (K145 86 2 (wY_out (by omega) (by omega) (by omega)))
                have w148 : (m142 86 4).toInt = (m126 86 4).toInt := congrArg Int32.toInt (K145 86 4 (wY_out (by omega) (by omega) (by omega)))
                have K145 := K129.trans (K145.sub (by first | exact wZ_wY | exact wZ_86))
                show PV _ _ _ _ _ _ _ 71 [.ref 86, .int 6, .int y14, .int v107] [] _
                have k71 := rm142.2 (by omega)
                refine iv_inc (M := mX7_readSum) (C := 1) dX7_readSum_71 74 rfl rfl (by decide) rfl rfl (by decide) (by omega) (by omega) (fun v150 ev150 => ?_)
                show PV _ _ _ _ _ _ _ 74 [.ref 86, .int 6, .int v150, .int v107] [] _
                refine pv_goto (M := mX7_readSum) (tgt := 12) dX7_readSum_74 (by decide) ?_
                refine pv_fg (lo2 := [.ref 86, .int 6, .int v150, pv_U]) ⟨Or.inr rfl, ⟨Or.inr rfl, ⟨Or.inr rfl, ⟨Or.inl rfl, trivial⟩⟩⟩⟩ ?_
                have kb3 : (m142 86 3).toInt = (m126 86 3).toInt := by omega
                have kbs : SU (tC m) 0 (m 86 3).toInt = LSu (tC m) 0 (m142 86 3).toInt := by rw [kgs, LSu_su kTX (by omega) kS, kT6.1]; congr 1; omega
                have kbt : isT (tC m (m142 86 3).toInt) = false := by rw [kb3]; exact kT6.2
                have kbz : SMZ (tC m) 0 lb m m142 (m 86 3).toInt (m142 86 3).toInt := by rw [kb3]; exact SMZ_s kgz kTX (by omega) kS kgt ks52 k57z k71 (by omega) (by unfold isO; omega) kT6.2
                exact ih21 v150 m142 n143 (by first | omega | assumption | exact (iv_rng _).2 | exact (iv_rng _).1 | decide) (by first | omega | assumption | exact (iv_rng _).2 | exact (iv_rng _).1 | decide) (by first | omega | assumption | (show (m142 86 3).toInt ≤ (m142 86 2).toInt; omega) | decide) (by first | omega | assumption | (show (m142 86 2).toInt = (m 86 2).toInt; omega) | decide) (by first | omega | assumption | (show (m142 lb 7).toInt = (m lb 7).toInt; omega) | decide) (by first | omega | assumption | (show (m 86 3).toInt + 1 + 2 * v150.toInt ≤ (m142 86 3).toInt; omega) | decide) kbs kbt kbz I144 K145 (by omega)
              · have c136 := iv_eq (X := v130.toInt) (Y := 0) c136 rfl (by decide)
                refine pv_iconst (M := mX7_readSum) (v := 0) dX7_readSum_60 61 rfl (by decide) ?_
                have z155 : (0 : Int32).toInt = 0 := by decide
                exact pv_iret (M := mX7_readSum) dX7_readSum_61 rfl rfl ⟨_, _, _, rfl, rfl, I128, K129, by decide, by decide, ⟨by omega, by omega, by omega, Or.inr ⟨by decide, by rw [kgs, LSu_su kTX (by omega) kS]; exact TRX_fl k57 (by omega)⟩, by omega, IFZ.no (by first | decide | omega)⟩⟩
    have z156 : (0 : Int32).toInt = 0 := by decide
    exact lp20 (((160 - 0) : Int).toNat + 1) 0 m4 n5 (by first | omega | assumption | exact (iv_rng _).2 | exact (iv_rng _).1 | decide) (by first | omega | assumption | exact (iv_rng _).2 | exact (iv_rng _).1 | decide) (by first | omega | assumption | (show (m4 86 3).toInt ≤ (m4 86 2).toInt; omega) | decide) (by first | omega | assumption | (show (m4 86 2).toInt = (m 86 2).toInt; omega) | decide) (by first | omega | assumption | (show (m4 lb 7).toInt = (m lb 7).toInt; omega) | decide) (by first | omega | assumption | (show (m 86 3).toInt + 1 + 2 * 0 ≤ (m4 86 3).toInt; omega) | decide) (TRX_ok k5 (by omega)).1 (TRX_ok k5 (by omega)).2 (SMZ_0 k5z) I6 K7 (by omega)
  · have c12 := iv_eq (X := v8.toInt) (Y := 0) c12 rfl (by decide)
    refine pv_iconst (M := mX7_readSum) (v := 0) dX7_readSum_8 9 rfl (by decide) ?_
    have z157 : (0 : Int32).toInt = 0 := by decide
    exact pv_iret (M := mX7_readSum) dX7_readSum_9 rfl rfl ⟨_, _, _, rfl, rfl, I6, K7, by decide, by decide, ⟨by omega, by omega, by omega, Or.inr ⟨by decide, TRX_fl k5 (by omega)⟩, by omega, IFZ.no (by first | decide | omega)⟩⟩

set_option maxHeartbeats 2000000 in
set_option maxRecDepth 20000 in
theorem s_X7_readFactor_v5z (g : pv_G) {T : List mv_T} {m : Nat → Nat → Int32} {n : Nat → Nat → Int64} {r : Nat → Value} {la lb : Nat} (hT : TX T) (I : IV BB m) (R : RX T r la lb) (hp0 : (m 86 3).toInt ≤ (m 86 2).toInt) (hp1 : TBC m) (hp2 : (m lb 2).toInt ≤ (m 86 3).toInt) : PM g mX7_readFactor yX7_readFactor (sqI T BB (wZ lb) r m 0 1 (fun m' v => (m 86 3).toInt ≤ (m' 86 3).toInt ∧ (m' 86 3).toInt ≤ (m' 86 2).toInt ∧ (m' 86 2).toInt = (m 86 2).toInt ∧ (RSX (FA (tC m) 1 (m 86 3).toInt) v.toInt (m' 86 3).toInt (m' 86 4).toInt) ∧ (m' lb 7).toInt = (m lb 7).toInt ∧ IFZ v.toInt (CDS lb m m' 3 (FAD (tC m) 1 (m 86 3).toInt) ((m' 86 3).toInt - (m 86 3).toInt)))) 8 0 0 [.ref 86, .int 5] (mk T m n r) := by
  have Kp : fr (wZ lb) m m := fr.rf
  have R0 := R
  have zR := R.2.2.2.2.1.1
  have zR2 := R.2.2.2.2.2.1
  have z124 : 0 ≤ (m 86 3).toInt ∧ (m 86 3).toInt ≤ 160 := I 86 3
  have z125 : 0 ≤ (m 86 2).toInt ∧ (m 86 2).toInt ≤ 160 := I 86 2
  refine PM.of 1 (lo := [.ref 86, .int 5, pv_U]) rfl (by decide) rfl rfl (Nat.le_of_ble_eq_true rfl) ?_
  refine pv_aload_n (M := mX7_readFactor) 0 dX7_readFactor_0 1 rfl rfl rfl ?_
  refine pv_callv (M := mX7_readFactor) (as := []) (st := []) (kc2 := 0) (ks2 := 0) dX7_readFactor_1 wd527 YX7_peek ⟨wd529, wd2⟩ (mk_get (tl86 hT)) rfl rfl (s_X7_peek_vx g hT I R) rfl rfl (Nat.le_of_ble_eq_true rfl) (by decide) rfl rfl 4 rfl (fun rv h1 q1 => ?_)
  obtain ⟨v2, rfl, rfl, pv2, qv2, rv2⟩ := q1
  replace rv2 : v2.toInt = tC m (m 86 3).toInt ∧ (v2.toInt = -1 ∨ (m 86 3).toInt < (m 86 2).toInt) := rv2
  show PV _ _ _ _ _ _ _ 4 [.ref 86, .int 5, pv_U] [.int v2] _
  have k4 := rv2.1
  have k4b := rv2.2
  refine pv_bipush (M := mX7_readFactor) (v := 91) dX7_readFactor_4 6 rfl (by decide) ?_
  refine pv_icmp_ne (M := mX7_readFactor) (tgt := 42) dX7_readFactor_6 9 rfl (by decide) (fun c5 => ?_) (fun c5 => ?_)
  · have c5 := iv_ne (X := v2.toInt) (Y := 91) c5 rfl (by decide)
    have kn91 : tC m (m 86 3).toInt ≠ 91 := by omega
    refine pv_aload_n (M := mX7_readFactor) 0 dX7_readFactor_42 43 rfl rfl rfl ?_
    refine pv_callv (M := mX7_readFactor) (as := []) (st := []) (kc2 := 0) (ks2 := 0) dX7_readFactor_43 wd559 YX7_digitAhead ⟨wd561, wd9⟩ (mk_get (tl86 hT)) rfl rfl (s_X7_digitAhead_vx g hT I R) rfl rfl (Nat.le_of_ble_eq_true rfl) (by decide) rfl rfl 46 rfl (fun rv h1 q7 => ?_)
    obtain ⟨v8, rfl, rfl, pv8, qv8, rv8⟩ := q7
    replace rv8 : (v8 = 0 ∨ ((m 86 3).toInt < (m 86 2).toInt ∧ 48 ≤ (m 87 (m 86 3).toInt.toNat).toInt ∧ (m 87 (m 86 3).toInt.toNat).toInt ≤ 57)) ∧ ((v8.toInt = 1 ∧ dig (tC m (m 86 3).toInt) = true) ∨ (v8.toInt = 0 ∧ dig (tC m (m 86 3).toInt) = false)) := rv8
    show PV _ _ _ _ _ _ _ 46 [.ref 86, .int 5, pv_U] [.int v8] _
    have k46 := rv8.2
    refine pv_if_eq (M := mX7_readFactor) (tgt := 54) dX7_readFactor_46 49 rfl (by decide) (fun c10 => ?_) (fun c10 => ?_)
    · have c10 := iv_eq (X := v8.toInt) (Y := 0) c10 rfl (by decide)
      have kdn := (k46.resolve_left (fun q => by have q1 := q.1; omega)).2
      refine pv_aload_n (M := mX7_readFactor) 0 dX7_readFactor_54 55 rfl rfl rfl ?_
      refine pv_callv (M := mX7_readFactor) (as := []) (st := []) (kc2 := 0) (ks2 := 0) dX7_readFactor_55 wd527 YX7_peek ⟨wd529, wd2⟩ (mk_get (tl86 hT)) rfl rfl (s_X7_peek_vx g hT I R) rfl rfl (Nat.le_of_ble_eq_true rfl) (by decide) rfl rfl 58 rfl (fun rv h1 q12 => ?_)
      obtain ⟨v13, rfl, rfl, pv13, qv13, rv13⟩ := q12
      replace rv13 : v13.toInt = tC m (m 86 3).toInt ∧ (v13.toInt = -1 ∨ (m 86 3).toInt < (m 86 2).toInt) := rv13
      show PV _ _ _ _ _ _ _ 58 [.ref 86, .int 5, pv_U] [.int v13] _
      have k58 := rv13.1
      refine pv_iconst (M := mX7_readFactor) (v := (-1)) dX7_readFactor_58 59 rfl (by decide) ?_
      refine pv_icmp_ne (M := mX7_readFactor) (tgt := 66) dX7_readFactor_59 62 rfl (by decide) (fun c15 => ?_) (fun c15 => ?_)
      · have c15 := iv_ne (X := v13.toInt) (Y := (-1)) c15 rfl (by decide)
        refine pv_ldcS (M := mX7_readFactor) dX7_readFactor_66 rfl 68 rfl ?_
        refine pv_aload_n (M := mX7_readFactor) 0 dX7_readFactor_68 69 rfl rfl rfl ?_
        refine pv_callv (M := mX7_readFactor) (as := []) (st := [.retAddr (g.2.2.1 6 + 1)]) (kc2 := 0) (ks2 := 0) dX7_readFactor_69 wd527 YX7_peek ⟨wd529, wd2⟩ (mk_get (tl86 hT)) rfl rfl (s_X7_peek_vx g hT I R) rfl rfl (Nat.le_of_ble_eq_true rfl) (by decide) rfl rfl 72 rfl (fun rv h1 q16 => ?_)
        obtain ⟨v17, rfl, rfl, pv17, qv17, rv17⟩ := q16
        replace rv17 : v17.toInt = tC m (m 86 3).toInt ∧ (v17.toInt = -1 ∨ (m 86 3).toInt < (m 86 2).toInt) := rv17
        show PV _ _ _ _ _ _ _ 72 [.ref 86, .int 5, pv_U] [.int v17, .retAddr (g.2.2.1 6 + 1)] _
        have k72 := rv17.1
        have kb72 := hp1 (m 86 3).toInt
        refine iv_i2cU (M := mX7_readFactor) dX7_readFactor_72 73 rfl (fun v20 ev20 => ?_)
        have k73 := i2c_eq ev20 (by omega) (by omega)
        refine pv_callvS (M := mX7_readFactor) (as := [.int v20]) (st := []) (kc2 := 0) (ks2 := 0) dX7_readFactor_73 wd572 YJ0_indexOf_0f7a4 ⟨wd573, wd574⟩ rfl (s_J0_indexOf_0f7a4_vx g hT I v20 (by omega) (by omega)) rfl rfl (Nat.le_of_ble_eq_true rfl) (by decide) rfl rfl 76 rfl (fun rv h1 q22 => ?_)
        obtain ⟨v23, rfl, rfl, pv23, qv23, rv23⟩ := q22
        replace rv23 : v23.toInt = nix v20.toInt := rv23
        show PV _ _ _ _ _ _ _ 76 [.ref 86, .int 5, pv_U] [.int v23] _
        have k76 : v23.toInt = nix (tC m (m 86 3).toInt) := by first | (rw [show tC m (m 86 3).toInt = -1 by omega]; decide) | (rw [rv23, k73, k72])
        refine pv_istore_n (M := mX7_readFactor) 2 (lo2 := [.ref 86, .int 5, .int v23]) dX7_readFactor_76 77 rfl rfl (by decide) rfl rfl ?_
        refine pv_iload_n (M := mX7_readFactor) 2 dX7_readFactor_77 78 rfl rfl rfl ?_
        refine pv_if_ge (M := mX7_readFactor) (tgt := 87) dX7_readFactor_78 81 rfl (by decide) (fun c25 => ?_) (fun c25 => ?_)
        · have c25 := iv_le (X := 0) (Y := v23.toInt) c25 (by decide) rfl
          have k87 : (m 86 3).toInt < (m 86 2).toInt := by have := nix_b (x := tC m (m 86 3).toInt) (by omega); omega
          refine pv_aload_n (M := mX7_readFactor) 0 dX7_readFactor_87 88 rfl rfl rfl ?_
          refine mv_get (M := mX7_readFactor) (v := .ref lb) dX7_readFactor_88 FX7 1 wd281 (by decide) (tl86 hT) rfl R.2.2.2.1 91 rfl ?_
          refine pv_bipush (M := mX7_readFactor) (v := 36) dX7_readFactor_91 93 rfl (by decide) ?_
          refine pv_iload_n (M := mX7_readFactor) 2 dX7_readFactor_93 94 rfl rfl rfl ?_
          have z27 : (36 : Int32).toInt = 36 := by decide
          refine pv_callv (M := mX7_readFactor) (as := [.int 36, .int v23]) (st := []) (kc2 := 0) (ks2 := 0) dX7_readFactor_94 wd567 YX6_emit ⟨wd568, wd569⟩ (mk_get R.2.2.2.2.2.2.1) rfl rfl (s_X6_emit_vz g hT I lb R.2.2.2.2.2 36 v23 (by omega) (by omega)) rfl rfl (Nat.le_of_ble_eq_true rfl) (by decide) rfl rfl 97 rfl (fun rv h1 q28 => ?_)
          obtain ⟨m29, n30, rfl, rfl, I31, K32, rm29⟩ := q28
          replace rm29 : (m29 lb 7).toInt = (m lb 7).toInt ∧ ((m lb 2).toInt < 160 → EMT lb m m29 (36 : Int) v23) := by have q_ := rm29; (try rw [z27] at q_); exact q_
          have K32c := K32
          have w33 : (m29 86 3).toInt = (m 86 3).toInt := congrArg Int32.toInt (K32 86 3 (wY_out (by omega) (by omega) (by omega)))
          have w34 : (m29 86 2).toInt = (m 86 2).toInt := congrArg Int32.toInt (K32 86 2 (wY_out (by omega) (by omega) (by omega)))
          have w35 : (m29 86 4).toInt = (m 86 4).toInt := congrArg Int32.toInt (K32 86 4 (wY_out (by omega) (by omega) (by omega)))
          have K32 := Kp.trans (K32.sub (by first | exact wZ_wY | exact wZ_86))
          show PV _ _ _ _ _ _ _ 97 [.ref 86, .int 5, .int v23] [] _
          have klB := I lb 2
          rw [law_b2 R.2.2.2.2.2] at klB
          have klb0 : 0 ≤ (m lb 2).toInt := klB.1
          have k97 := rm29.2 (by omega)
          refine pv_aload_n (M := mX7_readFactor) 0 dX7_readFactor_97 98 rfl rfl rfl ?_
          refine pv_dup (M := mX7_readFactor) dX7_readFactor_98 99 rfl rfl ?_
          refine iv_get (M := mX7_readFactor) (l1 := 0) (l2 := 160) dX7_readFactor_99 FX7 3 wd283 (by decide) (tl86 hT) rfl I31 rfl 102 rfl (fun v40 ev40 pv40 qv40 => ?_)
          have wv40 : v40.toInt = (m29 86 3).toInt := congrArg Int32.toInt ev40
          refine pv_iconst (M := mX7_readFactor) (v := 1) dX7_readFactor_102 103 rfl (by decide) ?_
          refine iv_iadd (M := mX7_readFactor) (X := v40.toInt) (Y := 1) dX7_readFactor_103 104 rfl rfl (by decide) (by omega) (by omega) (fun v41 ev41 => ?_)
          refine iv_put (M := mX7_readFactor) (l1 := 0) (l2 := 160) dX7_readFactor_104 FX7 3 wd283 (by decide) rfl (tl86 hT) rfl rfl rfl I31 rfl (by omega) (by omega) 107 rfl (fun m42 e45 I43 => ?_)
          have K44 := K32.set e45 (by first | rfl | decide)
          have w46 : (m42 86 3).toInt = v41.toInt := by rw [e45, up2_eq]
          have w47 : (m42 86 2).toInt = (m29 86 2).toInt := by rw [e45, up2_ne (by omega)]
          have w48 : (m42 86 4).toInt = (m29 86 4).toInt := by rw [e45, up2_ne (by omega)]
          have w49 : (m42 lb 7).toInt = (m29 lb 7).toInt := by rw [e45, up2_ne (by omega)]
          have w50 : (m42 lb 2).toInt = (m29 lb 2).toInt := by rw [e45, up2_ne (by omega)]
          refine pv_iconst (M := mX7_readFactor) (v := 1) dX7_readFactor_107 108 rfl (by decide) ?_
          have z51 : (1 : Int32).toInt = 1 := by decide
          exact pv_iret (M := mX7_readFactor) dX7_readFactor_108 rfl rfl ⟨_, _, _, rfl, rfl, I43, K44, by decide, by decide, ⟨by omega, by omega, by omega, Or.inl ⟨by decide, by rw [FA_atom kn91, AT_nam kdn (nix_y (by omega)), show (m 86 3).toInt + 1 = (m42 86 3).toInt by omega]⟩, by omega, IFZ.is (by rw [FAD_at kn91, atD_nam kdn]; exact CDS.wk (CDS.post (CDS.nam (by omega) k97 (da := 1) (by omega) (by omega)) (SAML.set zR2 e45)) (by omega) (by omega))⟩⟩
        · have c25 := iv_nle (X := 0) (Y := v23.toInt) c25 (by decide) rfl
          refine pv_aload_n (M := mX7_readFactor) 0 dX7_readFactor_81 82 rfl rfl rfl ?_
          refine pv_iconst (M := mX7_readFactor) (v := 1) dX7_readFactor_82 83 rfl (by decide) ?_
          have z52 : (1 : Int32).toInt = 1 := by decide
          refine pv_callv (M := mX7_readFactor) (as := [.int 1]) (st := []) (kc2 := 0) (ks2 := 0) dX7_readFactor_83 wd531 YX7_fail ⟨wd533, wd3⟩ (mk_get (tl86 hT)) rfl rfl (s_X7_fail_vz g hT I R 1 (by decide) (by decide) (by first | omega | assumption | exact (iv_rng _).2 | exact (iv_rng _).1 | decide)) rfl rfl (Nat.le_of_ble_eq_true rfl) (by decide) rfl rfl 86 rfl (fun rv h1 q53 => ?_)
          obtain ⟨m54, n55, v58, rfl, rfl, I56, K57, pv58, qv58, rv58⟩ := q53
          replace rv58 : (m 86 3).toInt ≤ (m54 86 3).toInt ∧ (m54 86 3).toInt ≤ (m54 86 2).toInt ∧ (m54 86 2).toInt = (m 86 2).toInt ∧ (v58.toInt = 0 ∧ (m54 86 3).toInt = (m 86 3).toInt ∧ (m54 86 4).toInt = -1000 * (1 : Int) - (m 86 3).toInt) ∧ (m54 lb 7).toInt = (m lb 7).toInt := by have q_ := rv58; (try rw [z52] at q_); exact q_
          have K57c := K57
          have w59 : (m54 86 2).toInt = (m 86 2).toInt := congrArg Int32.toInt (K57 86 2 rfl)
          have K57 := Kp.trans (K57.sub (by first | exact wZ_wY | exact wZ_86))
          show PV _ _ _ _ _ _ _ 86 [.ref 86, .int 5, .int v23] [.int v58] _
          exact pv_iret (M := mX7_readFactor) dX7_readFactor_86 rfl (iv_nz (by omega) (by omega)) ⟨_, _, _, rfl, rfl, I56, K57, by omega, by omega, ⟨by omega, by omega, by omega, Or.inr ⟨by omega, FLT_of (a := 1) (p := (m 86 3).toInt) (by rw [FA_atom kn91]; exact AT_no kdn (nix_no (by omega))) (by decide) (by omega)⟩, by omega, IFZ.no (by first | decide | omega)⟩⟩
      · have c15 := iv_eq (X := v13.toInt) (Y := (-1)) c15 rfl (by decide)
        refine pv_iconst (M := mX7_readFactor) (v := (-1)) dX7_readFactor_62 63 rfl (by decide) ?_
        refine pv_goto (M := mX7_readFactor) (tgt := 76) dX7_readFactor_63 (by decide) ?_
        have k76 : (-1) = nix (tC m (m 86 3).toInt) := by first | (rw [show tC m (m 86 3).toInt = -1 by omega]; decide) | (rw [rlit, k73, k72])
        refine pv_istore_n (M := mX7_readFactor) 2 (lo2 := [.ref 86, .int 5, .int (-1)]) dX7_readFactor_76 77 rfl rfl (by decide) rfl rfl ?_
        refine pv_iload_n (M := mX7_readFactor) 2 dX7_readFactor_77 78 rfl rfl rfl ?_
        refine pv_if_ge (M := mX7_readFactor) (tgt := 87) dX7_readFactor_78 81 rfl (by decide) (fun q => absurd q (by decide)) (fun _ => ?_)
        refine pv_aload_n (M := mX7_readFactor) 0 dX7_readFactor_81 82 rfl rfl rfl ?_
        refine pv_iconst (M := mX7_readFactor) (v := 1) dX7_readFactor_82 83 rfl (by decide) ?_
        have z62 : (1 : Int32).toInt = 1 := by decide
        refine pv_callv (M := mX7_readFactor) (as := [.int 1]) (st := []) (kc2 := 0) (ks2 := 0) dX7_readFactor_83 wd531 YX7_fail ⟨wd533, wd3⟩ (mk_get (tl86 hT)) rfl rfl (s_X7_fail_vz g hT I R 1 (by decide) (by decide) (by first | omega | assumption | exact (iv_rng _).2 | exact (iv_rng _).1 | decide)) rfl rfl (Nat.le_of_ble_eq_true rfl) (by decide) rfl rfl 86 rfl (fun rv h1 q63 => ?_)
        obtain ⟨m64, n65, v68, rfl, rfl, I66, K67, pv68, qv68, rv68⟩ := q63
        replace rv68 : (m 86 3).toInt ≤ (m64 86 3).toInt ∧ (m64 86 3).toInt ≤ (m64 86 2).toInt ∧ (m64 86 2).toInt = (m 86 2).toInt ∧ (v68.toInt = 0 ∧ (m64 86 3).toInt = (m 86 3).toInt ∧ (m64 86 4).toInt = -1000 * (1 : Int) - (m 86 3).toInt) ∧ (m64 lb 7).toInt = (m lb 7).toInt := by have q_ := rv68; (try rw [z62] at q_); exact q_
        have K67c := K67
        have w69 : (m64 86 2).toInt = (m 86 2).toInt := congrArg Int32.toInt (K67 86 2 rfl)
        have K67 := Kp.trans (K67.sub (by first | exact wZ_wY | exact wZ_86))
        show PV _ _ _ _ _ _ _ 86 [.ref 86, .int 5, .int (-1)] [.int v68] _
        exact pv_iret (M := mX7_readFactor) dX7_readFactor_86 rfl (iv_nz (by omega) (by omega)) ⟨_, _, _, rfl, rfl, I66, K67, by omega, by omega, ⟨by omega, by omega, by omega, Or.inr ⟨by omega, FLT_of (a := 1) (p := (m 86 3).toInt) (by rw [FA_atom kn91]; exact AT_no kdn (nix_no (by omega))) (by decide) (by omega)⟩, by omega, IFZ.no (by first | decide | omega)⟩⟩
    · have pc10 := rv8.1.resolve_left c10
      have c10 := iv_ne (X := v8.toInt) (Y := 0) c10 rfl (by decide)
      have kd := (k46.resolve_right (fun q => by have q1 := q.1; omega)).2
      refine pv_aload_n (M := mX7_readFactor) 0 dX7_readFactor_49 50 rfl rfl rfl ?_
      refine pv_callv (M := mX7_readFactor) (as := []) (st := []) (kc2 := 0) (ks2 := 0) dX7_readFactor_50 wd563 YX7_readNumber ⟨wd565, wd10⟩ (mk_get (tl86 hT)) rfl rfl (s_X7_readNumber_vz g hT I R (by first | omega | assumption | exact (iv_rng _).2 | exact (iv_rng _).1 | decide) (by first | omega | assumption | exact (iv_rng _).2 | exact (iv_rng _).1 | decide)) rfl rfl (Nat.le_of_ble_eq_true rfl) (by decide) rfl rfl 53 rfl (fun rv h1 q71 => ?_)
      obtain ⟨m72, n73, v76, rfl, rfl, I74, K75, pv76, qv76, rv76⟩ := q71
      replace rv76 : (m 86 3).toInt ≤ (m72 86 3).toInt ∧ (m72 86 3).toInt ≤ (m72 86 2).toInt ∧ (m72 86 2).toInt = (m 86 2).toInt ∧ (RSX (nd (tC m) 5 (m 86 3).toInt) v76.toInt (m72 86 3).toInt (m72 86 4).toInt) ∧ (m72 lb 7).toInt = (m lb 7).toInt ∧ IFZ v76.toInt (CDS lb m m72 1 (cD (Int32.ofInt (ndv (tC m) 5 (m 86 3).toInt 0))) 1) := rv76
      have K75c := K75
      have K75 := Kp.trans (K75.sub (fun _ _ q => q))
      show PV _ _ _ _ _ _ _ 53 [.ref 86, .int 5, pv_U] [.int v76] _
      have k53 := rv76.2.2.2.1
      have k53z := rv76.2.2.2.2.2
      exact pv_iret (M := mX7_readFactor) dX7_readFactor_53 rfl (iv_nz (by omega) (by omega)) ⟨_, _, _, rfl, rfl, I74, K75, by omega, by omega, ⟨by omega, by omega, by omega, (by rw [FA_atom kn91, AT_num kd]; exact k53), by omega, (fun q => by have k1 := RSX_ok k53 q; have k2 := atom_le (t := tC m) (p := (m 86 3).toInt) (by rw [AT_num kd, k1]); rw [AT_num kd, k1] at k2; have k3 : (m 86 3).toInt + 1 ≤ (m72 86 3).toInt := k2; rw [FAD_at kn91, atD_num kd]; exact CDS.wk (IFZ.get k53z q) (by omega) (by omega))⟩⟩
  · have c5 := iv_eq (X := v2.toInt) (Y := 91) c5 rfl (by decide)
    have k91 : tC m (m 86 3).toInt = 91 := by omega
    refine pv_aload_n (M := mX7_readFactor) 0 dX7_readFactor_9 10 rfl rfl rfl ?_
    refine pv_iload_n (M := mX7_readFactor) 1 dX7_readFactor_10 11 rfl rfl rfl ?_
    have z80 : (5 : Int32).toInt = 5 := by decide
    refine pv_callv (M := mX7_readFactor) (as := [.int 5]) (st := []) (kc2 := 0) (ks2 := 0) dX7_readFactor_11 wd551 YX7_open ⟨wd553, wd7⟩ (mk_get (tl86 hT)) rfl rfl (s_X7_open_vz g hT I R 5 (by decide) (by decide) (by first | omega | assumption | exact (iv_rng _).2 | exact (iv_rng _).1 | decide)) rfl rfl (Nat.le_of_ble_eq_true rfl) (by decide) rfl rfl 14 rfl (fun rv h1 q81 => ?_)
    obtain ⟨m82, n83, v86, rfl, rfl, I84, K85, pv86, qv86, rv86⟩ := q81
    replace rv86 : (v86 = 0 ∨ (5 : Int) ≤ 5) ∧ (m 86 3).toInt ≤ (m82 86 3).toInt ∧ (m82 86 3).toInt ≤ (m82 86 2).toInt ∧ (m82 86 2).toInt = (m 86 2).toInt ∧ ((v86.toInt = 1 ∧ (5 : Int) ≤ 5 ∧ (m82 86 3).toInt = (m 86 3).toInt + 1) ∨ (v86.toInt = 0 ∧ 6 ≤ (5 : Int) ∧ (m82 86 4).toInt = -5000 - (m 86 3).toInt ∧ (m82 86 3).toInt = (m 86 3).toInt)) ∧ (m82 lb 7).toInt = (m lb 7).toInt := by have q_ := rv86; (try rw [z80] at q_); exact q_
    have K85c := K85
    have w87 : (m82 86 2).toInt = (m 86 2).toInt := congrArg Int32.toInt (K85 86 2 rfl)
    have K85 := Kp.trans (K85.sub (by first | exact wZ_wY | exact wZ_86))
    show PV _ _ _ _ _ _ _ 14 [.ref 86, .int 5, pv_U] [.int v86] _
    refine pv_if_eq (M := mX7_readFactor) (tgt := 40) dX7_readFactor_14 17 rfl (by decide) (fun c88 => ?_) (fun c88 => ?_)
    · have c88 := iv_eq (X := v86.toInt) (Y := 0) c88 rfl (by decide)
      refine pv_iconst (M := mX7_readFactor) (v := 0) dX7_readFactor_40 41 rfl (by decide) ?_
      have z89 : (0 : Int32).toInt = 0 := by decide
      exact pv_iret (M := mX7_readFactor) dX7_readFactor_41 rfl rfl ⟨_, _, _, rfl, rfl, I84, K85, by decide, by decide, ⟨by omega, by omega, by omega, (by first | exact Or.inr ⟨by decide, FX_deep k91 (by omega)⟩ | exact Or.inr ⟨by decide, FX_cn k91 k27 (fun z => by omega) (by omega)⟩ | exact Or.inl ⟨by decide, FX_co k91 k27 (by omega) (by omega)⟩ | exact Or.inr ⟨by decide, FX_sum k91 (RSX_fl k24 (by omega))⟩ | (exfalso; omega)), by omega, (by first | exact IFZ.is (by rw [FAD_opn k91]; exact CDS.wk (CDS.post (CDS.pre ks17 (IFZ.get k24z (by omega)) (Int.le_refl _)) ks33) (by omega) (by omega)) | exact IFZ.no (by first | decide | omega))⟩⟩
    · have pc88 := rv86.1.resolve_left c88
      have c88 := iv_ne (X := v86.toInt) (Y := 0) c88 rfl (by decide)
      have kt17 : tC m82 = tC m := tC_fz zR2 K85
      have kp17 : (m82 86 3).toInt = (m 86 3).toInt + 1 := by omega
      have ks17 : SAML lb m m82 := SAML.fz zR2 K85c
      have kl17 : (m82 lb 2).toInt = (m lb 2).toInt := congrArg Int32.toInt ks17.1
      refine pv_aload_n (M := mX7_readFactor) 0 dX7_readFactor_17 18 rfl rfl rfl ?_
      refine pv_iload_n (M := mX7_readFactor) 1 dX7_readFactor_18 19 rfl rfl rfl ?_
      refine pv_iconst (M := mX7_readFactor) (v := 1) dX7_readFactor_19 20 rfl (by decide) ?_
      refine pv_iadd (M := mX7_readFactor) (v := 6) dX7_readFactor_20 21 rfl (by decide) ?_
      have z95 : (6 : Int32).toInt = 6 := by decide
      refine pv_callv (M := mX7_readFactor) (as := [.int 6]) (st := []) (kc2 := 0) (ks2 := 0) dX7_readFactor_21 wd539 YX7_readSum ⟨wd541, wd4⟩ (mk_get (tl86 hT)) rfl rfl (s_X7_readSum_v6z g hT I84 R (by first | omega | assumption | exact (iv_rng _).2 | exact (iv_rng _).1 | decide) (TBC_eq hp1 kt17) (by first | omega | assumption | exact (iv_rng _).2 | exact (iv_rng _).1 | decide)) rfl rfl (Nat.le_of_ble_eq_true rfl) (by decide) rfl rfl 24 rfl (fun rv h1 q96 => ?_)
      obtain ⟨m97, n98, v101, rfl, rfl, I99, K100, pv101, qv101, rv101⟩ := q96
      replace rv101 : (m82 86 3).toInt ≤ (m97 86 3).toInt ∧ (m97 86 3).toInt ≤ (m97 86 2).toInt ∧ (m97 86 2).toInt = (m82 86 2).toInt ∧ (RSX (SU (tC m82) 0 (m82 86 3).toInt) v101.toInt (m97 86 3).toInt (m97 86 4).toInt) ∧ (m97 lb 7).toInt = (m82 lb 7).toInt ∧ IFZ v101.toInt (CDS lb m82 m97 3 (SUD (tC m82) 0 (m82 86 3).toInt) ((m97 86 3).toInt - (m82 86 3).toInt)) := by have q_ := rv101; (try rw [z95] at q_); exact q_
      have K100c := K100
      have K100 := K85.trans (K100.sub (fun _ _ q => q))
      show PV _ _ _ _ _ _ _ 24 [.ref 86, .int 5, pv_U] [.int v101] _
      have k24 := rv101.2.2.2.1
      rw [kt17, kp17] at k24
      have k24z := rv101.2.2.2.2.2
      rw [kt17, kp17] at k24z
      refine pv_if_eq (M := mX7_readFactor) (tgt := 40) dX7_readFactor_24 27 rfl (by decide) (fun c106 => ?_) (fun c106 => ?_)
      · have c106 := iv_eq (X := v101.toInt) (Y := 0) c106 rfl (by decide)
        refine pv_iconst (M := mX7_readFactor) (v := 0) dX7_readFactor_40 41 rfl (by decide) ?_
        have z107 : (0 : Int32).toInt = 0 := by decide
        exact pv_iret (M := mX7_readFactor) dX7_readFactor_41 rfl rfl ⟨_, _, _, rfl, rfl, I99, K100, by decide, by decide, ⟨by omega, by omega, by omega, (by first | exact Or.inr ⟨by decide, FX_deep k91 (by omega)⟩ | exact Or.inr ⟨by decide, FX_cn k91 k27 (fun z => by omega) (by omega)⟩ | exact Or.inl ⟨by decide, FX_co k91 k27 (by omega) (by omega)⟩ | exact Or.inr ⟨by decide, FX_sum k91 (RSX_fl k24 (by omega))⟩ | (exfalso; omega)), by omega, (by first | exact IFZ.is (by rw [FAD_opn k91]; exact CDS.wk (CDS.post (CDS.pre ks17 (IFZ.get k24z (by omega)) (Int.le_refl _)) ks33) (by omega) (by omega)) | exact IFZ.no (by first | decide | omega))⟩⟩
      · have c106 := iv_ne (X := v101.toInt) (Y := 0) c106 rfl (by decide)
        have k27 := RSX_ok k24 (by omega)
        have kt27 : tC m97 = tC m := tC_fz zR2 K100
        refine pv_aload_n (M := mX7_readFactor) 0 dX7_readFactor_27 28 rfl rfl rfl ?_
        refine pv_bipush (M := mX7_readFactor) (v := 93) dX7_readFactor_28 30 rfl (by decide) ?_
        have z110 : (93 : Int32).toInt = 93 := by decide
        refine pv_callv (M := mX7_readFactor) (as := [.int 93]) (st := []) (kc2 := 0) (ks2 := 0) dX7_readFactor_30 wd555 YX7_pass ⟨wd557, wd8⟩ (mk_get (tl86 hT)) rfl rfl (s_X7_pass_vz g hT I99 R 93 (by decide) (by decide) (by first | omega | assumption | exact (iv_rng _).2 | exact (iv_rng _).1 | decide)) rfl rfl (Nat.le_of_ble_eq_true rfl) (by decide) rfl rfl 33 rfl (fun rv h1 q111 => ?_)
        obtain ⟨m112, n113, v116, rfl, rfl, I114, K115, pv116, qv116, rv116⟩ := q111
        replace rv116 : (m97 86 3).toInt ≤ (m112 86 3).toInt ∧ (m112 86 3).toInt ≤ (m112 86 2).toInt ∧ (m112 86 2).toInt = (m97 86 2).toInt ∧ ((v116.toInt = 1 ∧ tC m97 (m97 86 3).toInt = (93 : Int) ∧ (m112 86 3).toInt = (m97 86 3).toInt + 1) ∨ (v116.toInt = 0 ∧ tC m97 (m97 86 3).toInt ≠ (93 : Int) ∧ (m112 86 4).toInt = -1000 - (m97 86 3).toInt ∧ (m112 86 3).toInt = (m97 86 3).toInt)) ∧ (m112 lb 7).toInt = (m97 lb 7).toInt := by have q_ := rv116; (try rw [z110] at q_); exact q_
        have K115c := K115
        have w117 : (m112 86 2).toInt = (m97 86 2).toInt := congrArg Int32.toInt (K115 86 2 rfl)
        have K115 := K100.trans (K115.sub (by first | exact wZ_wY | exact wZ_86))
        show PV _ _ _ _ _ _ _ 33 [.ref 86, .int 5, pv_U] [.int v116] _
        have k33 := rv116.2.2.2.1
        rw [kt27] at k33
        have ks33 : SAML lb m97 m112 := SAML.fz zR2 K115c
        refine pv_if_eq (M := mX7_readFactor) (tgt := 40) dX7_readFactor_33 36 rfl (by decide) (fun c121 => ?_) (fun c121 => ?_)
        · have c121 := iv_eq (X := v116.toInt) (Y := 0) c121 rfl (by decide)
          refine pv_iconst (M := mX7_readFactor) (v := 0) dX7_readFactor_40 41 rfl (by decide) ?_
          have z122 : (0 : Int32).toInt = 0 := by decide
          exact pv_iret (M := mX7_readFactor) dX7_readFactor_41 rfl rfl ⟨_, _, _, rfl, rfl, I114, K115, by decide, by decide, ⟨by omega, by omega, by omega, (by first | exact Or.inr ⟨by decide, FX_deep k91 (by omega)⟩ | exact Or.inr ⟨by decide, FX_cn k91 k27 (fun z => by omega) (by omega)⟩ | exact Or.inl ⟨by decide, FX_co k91 k27 (by omega) (by omega)⟩ | exact Or.inr ⟨by decide, FX_sum k91 (RSX_fl k24 (by omega))⟩ | (exfalso; omega)), by omega, (by first | exact IFZ.is (by rw [FAD_opn k91]; exact CDS.wk (CDS.post (CDS.pre ks17 (IFZ.get k24z (by omega)) (Int.le_refl _)) ks33) (by omega) (by omega)) | exact IFZ.no (by first | decide | omega))⟩⟩
        · have c121 := iv_ne (X := v116.toInt) (Y := 0) c121 rfl (by decide)
          refine pv_iconst (M := mX7_readFactor) (v := 1) dX7_readFactor_36 37 rfl (by decide) ?_
          refine pv_goto (M := mX7_readFactor) (tgt := 41) dX7_readFactor_37 (by decide) ?_
          have z123 : (1 : Int32).toInt = 1 := by decide
          exact pv_iret (M := mX7_readFactor) dX7_readFactor_41 rfl rfl ⟨_, _, _, rfl, rfl, I114, K115, by decide, by decide, ⟨by omega, by omega, by omega, (by first | exact Or.inr ⟨by decide, FX_deep k91 (by omega)⟩ | exact Or.inr ⟨by decide, FX_cn k91 k27 (fun z => by omega) (by omega)⟩ | exact Or.inl ⟨by decide, FX_co k91 k27 (by omega) (by omega)⟩ | exact Or.inr ⟨by decide, FX_sum k91 (RSX_fl k24 (by omega))⟩ | (exfalso; omega)), by omega, (by first | exact IFZ.is (by rw [FAD_opn k91]; exact CDS.wk (CDS.post (CDS.pre ks17 (IFZ.get k24z (by omega)) (Int.le_refl _)) ks33) (by omega) (by omega)) | exact IFZ.no (by first | decide | omega))⟩⟩

set_option maxHeartbeats 2000000 in
set_option maxRecDepth 20000 in
theorem s_X7_readTerm_v5z (g : pv_G) {T : List mv_T} {m : Nat → Nat → Int32} {n : Nat → Nat → Int64} {r : Nat → Value} {la lb : Nat} (hT : TX T) (I : IV BB m) (R : RX T r la lb) (hp0 : (m 86 3).toInt ≤ (m 86 2).toInt) (hp1 : TBC m) (hp2 : (m lb 2).toInt ≤ (m 86 3).toInt) : PM g mX7_readTerm yX7_readTerm (sqI T BB (wZ lb) r m 0 1 (fun m' v => (m 86 3).toInt ≤ (m' 86 3).toInt ∧ (m' 86 3).toInt ≤ (m' 86 2).toInt ∧ (m' 86 2).toInt = (m 86 2).toInt ∧ ((v.toInt = 0 ∨ (m 86 3).toInt + 1 ≤ (m' 86 3).toInt) ∧ TRX (SU (tC m) 1 (m 86 3).toInt) (LSu (tC m) 1) (fun a => isT (tC m a) = false) v.toInt (m' 86 3).toInt (m' 86 4).toInt) ∧ (m' lb 7).toInt = (m lb 7).toInt ∧ IFZ v.toInt (TMZ (tC m) 1 lb m m' (m 86 3).toInt (m' 86 3).toInt))) 9 0 0 [.ref 86, .int 5] (mk T m n r) := by
  have Kp : fr (wZ lb) m m := fr.rf
  have R0 := R
  have zR := R.2.2.2.2.1.1
  have zR2 := R.2.2.2.2.2.1
  have z99 : 0 ≤ (m 86 3).toInt ∧ (m 86 3).toInt ≤ 160 := I 86 3
  have z100 : 0 ≤ (m 86 2).toInt ∧ (m 86 2).toInt ≤ 160 := I 86 2
  refine PM.of 2 (lo := [.ref 86, .int 5, pv_U, pv_U]) rfl (by decide) rfl rfl (Nat.le_of_ble_eq_true rfl) ?_
  have kTX := TXT_C I
  refine pv_aload_n (M := mX7_readTerm) 0 dX7_readTerm_0 1 rfl rfl rfl ?_
  refine pv_iload_n (M := mX7_readTerm) 1 dX7_readTerm_1 2 rfl rfl rfl ?_
  have z2 : (5 : Int32).toInt = 5 := by decide
  refine pv_callv (M := mX7_readTerm) (as := [.int 5]) (st := []) (kc2 := 0) (ks2 := 0) dX7_readTerm_2 wd547 YX7_readFactor ⟨wd549, wd6⟩ (mk_get (tl86 hT)) rfl rfl (s_X7_readFactor_v5z g hT I R (by first | omega | assumption | exact (iv_rng _).2 | exact (iv_rng _).1 | decide) hp1 (by first | omega | assumption | exact (iv_rng _).2 | exact (iv_rng _).1 | decide)) rfl rfl (Nat.le_of_ble_eq_true rfl) (by decide) rfl rfl 5 rfl (fun rv h1 q3 => ?_)
  obtain ⟨m4, n5, v8, rfl, rfl, I6, K7, pv8, qv8, rv8⟩ := q3
  replace rv8 : (m 86 3).toInt ≤ (m4 86 3).toInt ∧ (m4 86 3).toInt ≤ (m4 86 2).toInt ∧ (m4 86 2).toInt = (m 86 2).toInt ∧ (RSX (FA (tC m) 1 (m 86 3).toInt) v8.toInt (m4 86 3).toInt (m4 86 4).toInt) ∧ (m4 lb 7).toInt = (m lb 7).toInt ∧ IFZ v8.toInt (CDS lb m m4 3 (FAD (tC m) 1 (m 86 3).toInt) ((m4 86 3).toInt - (m 86 3).toInt)) := by have q_ := rv8; (try rw [z2] at q_); exact q_
  have K7c := K7
  have K7 := Kp.trans (K7.sub (fun _ _ q => q))
  show PV _ _ _ _ _ _ _ 5 [.ref 86, .int 5, pv_U, pv_U] [.int v8] _
  have k5 := rv8.2.2.2.1
  have k5z0 := rv8.2.2.2.2.2
  refine pv_if_ne (M := mX7_readTerm) (tgt := 10) dX7_readTerm_5 8 rfl (by decide) (fun c11 => ?_) (fun c11 => ?_)
  · have c11 := iv_ne (X := v8.toInt) (Y := 0) c11 rfl (by decide)
    have kF0 := RSX_ok k5 (by omega)
    have kF1 := FA_le 1 (m 86 3).toInt (by rw [kF0])
    rw [kF0] at kF1
    have k5z := IFZ.get k5z0 (by omega)
    refine pv_iconst (M := mX7_readTerm) (v := 0) dX7_readTerm_10 11 rfl (by decide) ?_
    refine pv_istore_n (M := mX7_readTerm) 2 (lo2 := [.ref 86, .int 5, .int 0, pv_U]) dX7_readTerm_11 12 rfl rfl (by decide) rfl rfl ?_
    have lp22 : ∀ (fuel21 : Nat) (y16 : Int32) (m17 : Nat → Nat → Int32) (n18 : Nat → Nat → Int64), (0 ≤ y16.toInt) → (y16.toInt ≤ 160) → ((m17 86 3).toInt ≤ (m17 86 2).toInt) → ((m17 86 2).toInt = (m 86 2).toInt) → ((m17 lb 7).toInt = (m lb 7).toInt) → ((m 86 3).toInt + 1 + 2 * y16.toInt ≤ (m17 86 3).toInt) → (SU (tC m) 1 (m 86 3).toInt = LSu (tC m) 1 (m17 86 3).toInt) → (TMZ (tC m) 1 lb m m17 (m 86 3).toInt (m17 86 3).toInt) → IV BB m17 → fr (wZ lb) m m17 → ((160 - y16.toInt) : Int).toNat < fuel21 → PV none g mX7_readTerm (sqI T BB (wZ lb) r m 0 1 (fun m' v => (m 86 3).toInt ≤ (m' 86 3).toInt ∧ (m' 86 3).toInt ≤ (m' 86 2).toInt ∧ (m' 86 2).toInt = (m 86 2).toInt ∧ ((v.toInt = 0 ∨ (m 86 3).toInt + 1 ≤ (m' 86 3).toInt) ∧ TRX (SU (tC m) 1 (m 86 3).toInt) (LSu (tC m) 1) (fun a => isT (tC m a) = false) v.toInt (m' 86 3).toInt (m' 86 4).toInt) ∧ (m' lb 7).toInt = (m lb 7).toInt ∧ IFZ v.toInt (TMZ (tC m) 1 lb m m' (m 86 3).toInt (m' 86 3).toInt))) 9 0 0 12 [.ref 86, .int 5, .int y16, pv_U] [] (mk T m17 n18 r) := by
      intro fuel21
      induction fuel21 with
      | zero => intro y16 m17 n18 b24 b25 b26 b27 b28 b29 b30 b31 I19 K20 z32; omega
      | succ fuel21 ih23 =>
        intro y16 m17 n18 b24 b25 b26 b27 b28 b29 b30 b31 I19 K20 z32
        have z33 : 0 ≤ (m17 86 3).toInt ∧ (m17 86 3).toInt ≤ 160 := I19 86 3
        have z34 : 0 ≤ (m17 86 2).toInt ∧ (m17 86 2).toInt ≤ 160 := I19 86 2
        have kgs := (show SU (tC m) 1 (m 86 3).toInt = LSu (tC m) 1 (m17 86 3).toInt by assumption)
        have kt12 : tC m17 = tC m := tC_fz zR2 K20
        have kgz := (show TMZ (tC m) 1 lb m m17 (m 86 3).toInt (m17 86 3).toInt by assumption)
        have kgl := TMZ_b kgz
        refine pv_iload_n (M := mX7_readTerm) 2 dX7_readTerm_12 13 rfl rfl rfl ?_
        refine pv_sipush (M := mX7_readTerm) (v := 160) dX7_readTerm_13 16 rfl (by decide) ?_
        refine pv_icmp_ge (M := mX7_readTerm) (tgt := 66) dX7_readTerm_16 19 rfl (by decide) (fun c39 => ?_) (fun c39 => ?_)
        · have c39 := iv_le (X := 160) (Y := y16.toInt) c39 (by decide) rfl
          refine pv_iconst (M := mX7_readTerm) (v := 1) dX7_readTerm_66 67 rfl (by decide) ?_
          have z40 : (1 : Int32).toInt = 1 := by decide
          exact pv_iret (M := mX7_readTerm) dX7_readTerm_67 rfl rfl ⟨_, _, _, rfl, rfl, I19, K20, by decide, by decide, ⟨by omega, by omega, by omega, ⟨Or.inr (by omega), Or.inl ⟨by decide, kgs, by first | (exact (k23.resolve_left (fun q => by have q1 := q.1; omega)).2) | (exfalso; omega)⟩⟩, by omega, IFZ.is kgz⟩⟩
        · have c39 := iv_nle (X := 160) (Y := y16.toInt) c39 (by decide) rfl
          refine pv_aload_n (M := mX7_readTerm) 0 dX7_readTerm_19 20 rfl rfl rfl ?_
          refine pv_callv (M := mX7_readTerm) (as := []) (st := []) (kc2 := 0) (ks2 := 0) dX7_readTerm_20 wd654 YX7_timesAhead ⟨wd656, wd11⟩ (mk_get (tl86 hT)) rfl rfl (s_X7_timesAhead_vx g hT I19 R) rfl rfl (Nat.le_of_ble_eq_true rfl) (by decide) rfl rfl 23 rfl (fun rv h1 q41 => ?_)
          obtain ⟨v42, rfl, rfl, pv42, qv42, rv42⟩ := q41
          replace rv42 : (v42 = 0 ∨ (m17 86 3).toInt < (m17 86 2).toInt) ∧ ((v42.toInt = 1 ∧ isT (tC m17 (m17 86 3).toInt) = true) ∨ (v42.toInt = 0 ∧ isT (tC m17 (m17 86 3).toInt) = false)) := rv42
          show PV _ _ _ _ _ _ _ 23 [.ref 86, .int 5, .int y16, pv_U] [.int v42] _
          have k23 := rv42.2
          rw [kt12] at k23
          refine pv_if_eq (M := mX7_readTerm) (tgt := 66) dX7_readTerm_23 26 rfl (by decide) (fun c45 => ?_) (fun c45 => ?_)
          · have c45 := iv_eq (X := v42.toInt) (Y := 0) c45 rfl (by decide)
            refine pv_iconst (M := mX7_readTerm) (v := 1) dX7_readTerm_66 67 rfl (by decide) ?_
            have z46 : (1 : Int32).toInt = 1 := by decide
            exact pv_iret (M := mX7_readTerm) dX7_readTerm_67 rfl rfl ⟨_, _, _, rfl, rfl, I19, K20, by decide, by decide, ⟨by omega, by omega, by omega, ⟨Or.inr (by omega), Or.inl ⟨by decide, kgs, by first | (exact (k23.resolve_left (fun q => by have q1 := q.1; omega)).2) | (exfalso; omega)⟩⟩, by omega, IFZ.is kgz⟩⟩
          · have pc45 := rv42.1.resolve_left c45
            have c45 := iv_ne (X := v42.toInt) (Y := 0) c45 rfl (by decide)
            have kT := (k23.resolve_right (fun q => by have q1 := q.1; omega)).2
            refine pv_aload_n (M := mX7_readTerm) 0 dX7_readTerm_26 27 rfl rfl rfl ?_
            refine pv_callv (M := mX7_readTerm) (as := []) (st := []) (kc2 := 0) (ks2 := 0) dX7_readTerm_27 wd527 YX7_peek ⟨wd529, wd2⟩ (mk_get (tl86 hT)) rfl rfl (s_X7_peek_vx g hT I19 R) rfl rfl (Nat.le_of_ble_eq_true rfl) (by decide) rfl rfl 30 rfl (fun rv h1 q48 => ?_)
            obtain ⟨v49, rfl, rfl, pv49, qv49, rv49⟩ := q48
            replace rv49 : v49.toInt = tC m17 (m17 86 3).toInt ∧ (v49.toInt = -1 ∨ (m17 86 3).toInt < (m17 86 2).toInt) := rv49
            show PV _ _ _ _ _ _ _ 30 [.ref 86, .int 5, .int y16, pv_U] [.int v49] _
            have k30 : v49.toInt = tC m (m17 86 3).toInt := by rw [← kt12]; exact rv49.1
            refine pv_istore_n (M := mX7_readTerm) 3 (lo2 := [.ref 86, .int 5, .int y16, .int v49]) dX7_readTerm_30 31 rfl rfl (by decide) rfl rfl ?_
            refine pv_aload_n (M := mX7_readTerm) 0 dX7_readTerm_31 32 rfl rfl rfl ?_
            refine pv_dup (M := mX7_readTerm) dX7_readTerm_32 33 rfl rfl ?_
            refine iv_get (M := mX7_readTerm) (l1 := 0) (l2 := 160) dX7_readTerm_33 FX7 3 wd283 (by decide) (tl86 hT) rfl I19 rfl 36 rfl (fun v51 ev51 pv51 qv51 => ?_)
            have wv51 : v51.toInt = (m17 86 3).toInt := congrArg Int32.toInt ev51
            refine pv_iconst (M := mX7_readTerm) (v := 1) dX7_readTerm_36 37 rfl (by decide) ?_
            refine iv_iadd (M := mX7_readTerm) (X := v51.toInt) (Y := 1) dX7_readTerm_37 38 rfl rfl (by decide) (by omega) (by omega) (fun v52 ev52 => ?_)
            refine iv_put (M := mX7_readTerm) (l1 := 0) (l2 := 160) dX7_readTerm_38 FX7 3 wd283 (by decide) rfl (tl86 hT) rfl rfl rfl I19 rfl (by omega) (by omega) 41 rfl (fun m53 e56 I54 => ?_)
            have K55 := K20.set e56 (by first | rfl | decide)
            have w57 : (m53 86 3).toInt = v52.toInt := by rw [e56, up2_eq]
            have w58 : (m53 86 2).toInt = (m17 86 2).toInt := by rw [e56, up2_ne (by omega)]
            have w59 : (m53 86 4).toInt = (m17 86 4).toInt := by rw [e56, up2_ne (by omega)]
            have w60 : (m53 lb 7).toInt = (m17 lb 7).toInt := by rw [e56, up2_ne (by omega)]
            have w61 : (m53 lb 2).toInt = (m17 lb 2).toInt := by rw [e56, up2_ne (by omega)]
            have kt41 : tC m53 = tC m := tC_fz zR2 K55
            have kp41 : (m53 86 3).toInt = (m17 86 3).toInt + 1 := by omega
            have ks41 : SAML lb m17 m53 := SAML.set zR2 e56
            have kl41 : (m53 lb 2).toInt = (m17 lb 2).toInt := congrArg Int32.toInt ks41.1
            refine pv_aload_n (M := mX7_readTerm) 0 dX7_readTerm_41 42 rfl rfl rfl ?_
            refine pv_iload_n (M := mX7_readTerm) 1 dX7_readTerm_42 43 rfl rfl rfl ?_
            have z66 : (5 : Int32).toInt = 5 := by decide
            refine pv_callv (M := mX7_readTerm) (as := [.int 5]) (st := []) (kc2 := 0) (ks2 := 0) dX7_readTerm_43 wd547 YX7_readFactor ⟨wd549, wd6⟩ (mk_get (tl86 hT)) rfl rfl (s_X7_readFactor_v5z g hT I54 R (by first | omega | assumption | exact (iv_rng _).2 | exact (iv_rng _).1 | decide) (TBC_eq hp1 kt41) (by first | omega | assumption | exact (iv_rng _).2 | exact (iv_rng _).1 | decide)) rfl rfl (Nat.le_of_ble_eq_true rfl) (by decide) rfl rfl 46 rfl (fun rv h1 q67 => ?_)
            obtain ⟨m68, n69, v72, rfl, rfl, I70, K71, pv72, qv72, rv72⟩ := q67
            replace rv72 : (m53 86 3).toInt ≤ (m68 86 3).toInt ∧ (m68 86 3).toInt ≤ (m68 86 2).toInt ∧ (m68 86 2).toInt = (m53 86 2).toInt ∧ (RSX (FA (tC m53) 1 (m53 86 3).toInt) v72.toInt (m68 86 3).toInt (m68 86 4).toInt) ∧ (m68 lb 7).toInt = (m53 lb 7).toInt ∧ IFZ v72.toInt (CDS lb m53 m68 3 (FAD (tC m53) 1 (m53 86 3).toInt) ((m68 86 3).toInt - (m53 86 3).toInt)) := by have q_ := rv72; (try rw [z66] at q_); exact q_
            have K71c := K71
            have K71 := K55.trans (K71.sub (fun _ _ q => q))
            show PV _ _ _ _ _ _ _ 46 [.ref 86, .int 5, .int y16, .int v49] [.int v72] _
            have k46 := rv72.2.2.2.1
            rw [kt41, kp41] at k46
            have k46z0 := rv72.2.2.2.2.2
            rw [kt41, kp41] at k46z0
            refine pv_if_ne (M := mX7_readTerm) (tgt := 51) dX7_readTerm_46 49 rfl (by decide) (fun c77 => ?_) (fun c77 => ?_)
            · have c77 := iv_ne (X := v72.toInt) (Y := 0) c77 rfl (by decide)
              have kF4 := RSX_ok k46 (by omega)
              have kF5 := FA_le 1 ((m17 86 3).toInt + 1) (by rw [kF4])
              rw [kF4] at kF5
              have k46z := IFZ.get k46z0 (by omega)
              have k46b := CDS_b k46z
              refine pv_aload_n (M := mX7_readTerm) 0 dX7_readTerm_51 52 rfl rfl rfl ?_
              refine mv_get (M := mX7_readTerm) (v := .ref lb) dX7_readTerm_52 FX7 1 wd281 (by decide) (tl86 hT) rfl R.2.2.2.1 55 rfl ?_
              refine pv_iload_n (M := mX7_readTerm) 3 dX7_readTerm_55 56 rfl rfl rfl ?_
              refine pv_iconst (M := mX7_readTerm) (v := 0) dX7_readTerm_56 57 rfl (by decide) ?_
              have z83 : (0 : Int32).toInt = 0 := by decide
              refine pv_callv (M := mX7_readTerm) (as := [.int v49, .int 0]) (st := []) (kc2 := 0) (ks2 := 0) dX7_readTerm_57 wd567 YX6_emit ⟨wd568, wd569⟩ (mk_get R.2.2.2.2.2.2.1) rfl rfl (s_X6_emit_vz g hT I70 lb R.2.2.2.2.2 v49 0 (by decide) (by decide)) rfl rfl (Nat.le_of_ble_eq_true rfl) (by decide) rfl rfl 60 rfl (fun rv h1 q84 => ?_)
              obtain ⟨m85, n86, rfl, rfl, I87, K88, rm85⟩ := q84
              replace rm85 : (m85 lb 7).toInt = (m68 lb 7).toInt ∧ ((m68 lb 2).toInt < 160 → EMT lb m68 m85 v49.toInt (0 : Int32)) := by have q_ := rm85; (try rw [z83] at q_); exact q_
              have K88c := K88
              have w89 : (m85 86 3).toInt = (m68 86 3).toInt := congrArg Int32.toInt (K88 86 3 (wY_out (by omega) (by omega) (by omega)))
              have w90 : (m85 86 2).toInt = (m68 86 2).toInt := congrArg Int32.toInt (K88 86 2 (wY_out (by omega) (by omega) (by omega)))
              have w91 : (m85 86 4).toInt = (m68 86 4).toInt := congrArg Int32.toInt (K88 86 4 (wY_out (by omega) (by omega) (by omega)))
              have K88 := K71.trans (K88.sub (by first | exact wZ_wY | exact wZ_86))
              show PV _ _ _ _ _ _ _ 60 [.ref 86, .int 5, .int y16, .int v49] [] _
              have k60 := rm85.2 (by omega)
              refine iv_inc (M := mX7_readTerm) (C := 1) dX7_readTerm_60 63 rfl rfl (by decide) rfl rfl (by decide) (by omega) (by omega) (fun v93 ev93 => ?_)
              show PV _ _ _ _ _ _ _ 63 [.ref 86, .int 5, .int v93, .int v49] [] _
              refine pv_goto (M := mX7_readTerm) (tgt := 12) dX7_readTerm_63 (by decide) ?_
              refine pv_fg (lo2 := [.ref 86, .int 5, .int v93, pv_U]) ⟨Or.inr rfl, ⟨Or.inr rfl, ⟨Or.inr rfl, ⟨Or.inl rfl, trivial⟩⟩⟩⟩ ?_
              have kbs : SU (tC m) 1 (m 86 3).toInt = LSu (tC m) 1 (m85 86 3).toInt := by rw [kgs, LSu_ok kTX (by omega) (isT_S kT) kF4]; congr 1; omega
              have kbz : TMZ (tC m) 1 lb m m85 (m 86 3).toInt (m85 86 3).toInt := TMZ_s kgz kTX (by omega) kT (by rw [kF4]; congr 1; omega) ks41 k46z k60 (by omega) (by omega)
              exact ih23 v93 m85 n86 (by first | omega | assumption | exact (iv_rng _).2 | exact (iv_rng _).1 | decide) (by first | omega | assumption | exact (iv_rng _).2 | exact (iv_rng _).1 | decide) (by first | omega | assumption | (show (m85 86 3).toInt ≤ (m85 86 2).toInt; omega) | decide) (by first | omega | assumption | (show (m85 86 2).toInt = (m 86 2).toInt; omega) | decide) (by first | omega | assumption | (show (m85 lb 7).toInt = (m lb 7).toInt; omega) | decide) (by first | omega | assumption | (show (m 86 3).toInt + 1 + 2 * v93.toInt ≤ (m85 86 3).toInt; omega) | decide) kbs kbz I87 K88 (by omega)
            · have c77 := iv_eq (X := v72.toInt) (Y := 0) c77 rfl (by decide)
              refine pv_iconst (M := mX7_readTerm) (v := 0) dX7_readTerm_49 50 rfl (by decide) ?_
              have z96 : (0 : Int32).toInt = 0 := by decide
              exact pv_iret (M := mX7_readTerm) dX7_readTerm_50 rfl rfl ⟨_, _, _, rfl, rfl, I70, K71, by decide, by decide, ⟨by omega, by omega, by omega, ⟨Or.inl (by decide), Or.inr ⟨by decide, by rw [kgs]; exact LSu_fl kTX (by omega) (isT_S kT) (RSX_fl k46 (by omega))⟩⟩, by omega, IFZ.no (by first | decide | omega)⟩⟩
    have z97 : (0 : Int32).toInt = 0 := by decide
    exact lp22 (((160 - 0) : Int).toNat + 1) 0 m4 n5 (by first | omega | assumption | exact (iv_rng _).2 | exact (iv_rng _).1 | decide) (by first | omega | assumption | exact (iv_rng _).2 | exact (iv_rng _).1 | decide) (by first | omega | assumption | (show (m4 86 3).toInt ≤ (m4 86 2).toInt; omega) | decide) (by first | omega | assumption | (show (m4 86 2).toInt = (m 86 2).toInt; omega) | decide) (by first | omega | assumption | (show (m4 lb 7).toInt = (m lb 7).toInt; omega) | decide) (by first | omega | assumption | (show (m 86 3).toInt + 1 + 2 * 0 ≤ (m4 86 3).toInt; omega) | decide) (SU_ok kF0) (TMZ_0 k5z kF0) I6 K7 (by omega)
  · have c11 := iv_eq (X := v8.toInt) (Y := 0) c11 rfl (by decide)
    refine pv_iconst (M := mX7_readTerm) (v := 0) dX7_readTerm_8 9 rfl (by decide) ?_
    have z98 : (0 : Int32).toInt = 0 := by decide
    exact pv_iret (M := mX7_readTerm) dX7_readTerm_9 rfl rfl ⟨_, _, _, rfl, rfl, I6, K7, by decide, by decide, ⟨by omega, by omega, by omega, ⟨Or.inl (by decide), Or.inr ⟨by decide, SU_fl (RSX_fl k5 (by omega))⟩⟩, by omega, IFZ.no (by first | decide | omega)⟩⟩

set_option maxHeartbeats 2000000 in
set_option maxRecDepth 20000 in
theorem s_X7_readSum_v5z (g : pv_G) {T : List mv_T} {m : Nat → Nat → Int32} {n : Nat → Nat → Int64} {r : Nat → Value} {la lb : Nat} (hT : TX T) (I : IV BB m) (R : RX T r la lb) (hp0 : (m 86 3).toInt ≤ (m 86 2).toInt) (hp1 : TBC m) (hp2 : (m lb 2).toInt ≤ (m 86 3).toInt) : PM g mX7_readSum yX7_readSum (sqI T BB (wZ lb) r m 0 1 (fun m' v => (m 86 3).toInt ≤ (m' 86 3).toInt ∧ (m' 86 3).toInt ≤ (m' 86 2).toInt ∧ (m' 86 2).toInt = (m 86 2).toInt ∧ (RSX (SU (tC m) 1 (m 86 3).toInt) v.toInt (m' 86 3).toInt (m' 86 4).toInt) ∧ (m' lb 7).toInt = (m lb 7).toInt ∧ IFZ v.toInt (CDS lb m m' 5 (SUD (tC m) 1 (m 86 3).toInt) ((m' 86 3).toInt - (m 86 3).toInt)))) 10 0 0 [.ref 86, .int 5] (mk T m n r) := by
  have Kp : fr (wZ lb) m m := fr.rf
  have R0 := R
  have zR := R.2.2.2.2.1.1
  have zR2 := R.2.2.2.2.2.1
  have z158 : 0 ≤ (m 86 3).toInt ∧ (m 86 3).toInt ≤ 160 := I 86 3
  have z159 : 0 ≤ (m 86 2).toInt ∧ (m 86 2).toInt ≤ 160 := I 86 2
  refine PM.of 2 (lo := [.ref 86, .int 5, pv_U, pv_U]) rfl (by decide) rfl rfl (Nat.le_of_ble_eq_true rfl) ?_
  have kTX := TXT_C I
  refine pv_aload_n (M := mX7_readSum) 0 dX7_readSum_0 1 rfl rfl rfl ?_
  refine pv_iload_n (M := mX7_readSum) 1 dX7_readSum_1 2 rfl rfl rfl ?_
  have z2 : (5 : Int32).toInt = 5 := by decide
  refine pv_callv (M := mX7_readSum) (as := [.int 5]) (st := []) (kc2 := 0) (ks2 := 0) dX7_readSum_2 wd543 YX7_readTerm ⟨wd545, wd5⟩ (mk_get (tl86 hT)) rfl rfl (s_X7_readTerm_v5z g hT I R (by first | omega | assumption | exact (iv_rng _).2 | exact (iv_rng _).1 | decide) hp1 (by first | omega | assumption | exact (iv_rng _).2 | exact (iv_rng _).1 | decide)) rfl rfl (Nat.le_of_ble_eq_true rfl) (by decide) rfl rfl 5 rfl (fun rv h1 q3 => ?_)
  obtain ⟨m4, n5, v8, rfl, rfl, I6, K7, pv8, qv8, rv8⟩ := q3
  replace rv8 : (m 86 3).toInt ≤ (m4 86 3).toInt ∧ (m4 86 3).toInt ≤ (m4 86 2).toInt ∧ (m4 86 2).toInt = (m 86 2).toInt ∧ ((v8.toInt = 0 ∨ (m 86 3).toInt + 1 ≤ (m4 86 3).toInt) ∧ TRX (SU (tC m) 1 (m 86 3).toInt) (LSu (tC m) 1) (fun a => isT (tC m a) = false) v8.toInt (m4 86 3).toInt (m4 86 4).toInt) ∧ (m4 lb 7).toInt = (m lb 7).toInt ∧ IFZ v8.toInt (TMZ (tC m) 1 lb m m4 (m 86 3).toInt (m4 86 3).toInt) := by have q_ := rv8; (try rw [z2] at q_); exact q_
  have K7c := K7
  have K7 := Kp.trans (K7.sub (fun _ _ q => q))
  show PV _ _ _ _ _ _ _ 5 [.ref 86, .int 5, pv_U, pv_U] [.int v8] _
  have k5 := rv8.2.2.2.1.2
  have k5p := rv8.2.2.2.1.1
  have k5z0 := rv8.2.2.2.2.2
  refine pv_if_ne (M := mX7_readSum) (tgt := 10) dX7_readSum_5 8 rfl (by decide) (fun c12 => ?_) (fun c12 => ?_)
  · have c12 := iv_ne (X := v8.toInt) (Y := 0) c12 rfl (by decide)
    have k5z := IFZ.get k5z0 (by omega)
    refine pv_iconst (M := mX7_readSum) (v := 0) dX7_readSum_10 11 rfl (by decide) ?_
    refine pv_istore_n (M := mX7_readSum) 2 (lo2 := [.ref 86, .int 5, .int 0, pv_U]) dX7_readSum_11 12 rfl rfl (by decide) rfl rfl ?_
    have lp20 : ∀ (fuel19 : Nat) (y14 : Int32) (m15 : Nat → Nat → Int32) (n16 : Nat → Nat → Int64), (0 ≤ y14.toInt) → (y14.toInt ≤ 160) → ((m15 86 3).toInt ≤ (m15 86 2).toInt) → ((m15 86 2).toInt = (m 86 2).toInt) → ((m15 lb 7).toInt = (m lb 7).toInt) → ((m 86 3).toInt + 1 + 2 * y14.toInt ≤ (m15 86 3).toInt) → (SU (tC m) 1 (m 86 3).toInt = LSu (tC m) 1 (m15 86 3).toInt) → (isT (tC m (m15 86 3).toInt) = false) → (SMZ (tC m) 1 lb m m15 (m 86 3).toInt (m15 86 3).toInt) → IV BB m15 → fr (wZ lb) m m15 → ((160 - y14.toInt) : Int).toNat < fuel19 → PV none g mX7_readSum (sqI T BB (wZ lb) r m 0 1 (fun m' v => (m 86 3).toInt ≤ (m' 86 3).toInt ∧ (m' 86 3).toInt ≤ (m' 86 2).toInt ∧ (m' 86 2).toInt = (m 86 2).toInt ∧ (RSX (SU (tC m) 1 (m 86 3).toInt) v.toInt (m' 86 3).toInt (m' 86 4).toInt) ∧ (m' lb 7).toInt = (m lb 7).toInt ∧ IFZ v.toInt (CDS lb m m' 5 (SUD (tC m) 1 (m 86 3).toInt) ((m' 86 3).toInt - (m 86 3).toInt)))) 10 0 0 12 [.ref 86, .int 5, .int y14, pv_U] [] (mk T m15 n16 r) := by
      intro fuel19
      induction fuel19 with
      | zero => intro y14 m15 n16 b22 b23 b24 b25 b26 b27 b28 b29 b30 I17 K18 z31; omega
      | succ fuel19 ih21 =>
        intro y14 m15 n16 b22 b23 b24 b25 b26 b27 b28 b29 b30 I17 K18 z31
        have z32 : 0 ≤ (m15 86 3).toInt ∧ (m15 86 3).toInt ≤ 160 := I17 86 3
        have z33 : 0 ≤ (m15 86 2).toInt ∧ (m15 86 2).toInt ≤ 160 := I17 86 2
        have kgs := (show SU (tC m) 1 (m 86 3).toInt = LSu (tC m) 1 (m15 86 3).toInt by assumption)
        have kgt := (show isT (tC m (m15 86 3).toInt) = false by assumption)
        have kt12 : tC m15 = tC m := tC_fz zR2 K18
        have kgz := (show SMZ (tC m) 1 lb m m15 (m 86 3).toInt (m15 86 3).toInt by assumption)
        have kgl := SMZ_b kgz
        refine pv_iload_n (M := mX7_readSum) 2 dX7_readSum_12 13 rfl rfl rfl ?_
        refine pv_sipush (M := mX7_readSum) (v := 160) dX7_readSum_13 16 rfl (by decide) ?_
        refine pv_icmp_ge (M := mX7_readSum) (tgt := 77) dX7_readSum_16 19 rfl (by decide) (fun c39 => ?_) (fun c39 => ?_)
        · have c39 := iv_le (X := 160) (Y := y14.toInt) c39 (by decide) rfl
          refine pv_iconst (M := mX7_readSum) (v := 1) dX7_readSum_77 78 rfl (by decide) ?_
          have z40 : (1 : Int32).toInt = 1 := by decide
          exact pv_iret (M := mX7_readSum) dX7_readSum_78 rfl rfl ⟨_, _, _, rfl, rfl, I17, K18, by decide, by decide, ⟨by omega, by omega, by omega, (by first | exact Or.inl ⟨by decide, by rw [kgs]; exact LSu_no (isS_n kgt (by omega) (by omega))⟩ | (exfalso; omega)), by omega, (by first | exact IFZ.is (SMZ_e kgz (isS_n kgt (by omega) (by omega))) | exact IFZ.no (by omega))⟩⟩
        · have c39 := iv_nle (X := 160) (Y := y14.toInt) c39 (by decide) rfl
          refine pv_aload_n (M := mX7_readSum) 0 dX7_readSum_19 20 rfl rfl rfl ?_
          refine pv_callv (M := mX7_readSum) (as := []) (st := []) (kc2 := 0) (ks2 := 0) dX7_readSum_20 wd527 YX7_peek ⟨wd529, wd2⟩ (mk_get (tl86 hT)) rfl rfl (s_X7_peek_vx g hT I17 R) rfl rfl (Nat.le_of_ble_eq_true rfl) (by decide) rfl rfl 23 rfl (fun rv h1 q41 => ?_)
          obtain ⟨v42, rfl, rfl, pv42, qv42, rv42⟩ := q41
          replace rv42 : v42.toInt = tC m15 (m15 86 3).toInt ∧ (v42.toInt = -1 ∨ (m15 86 3).toInt < (m15 86 2).toInt) := rv42
          show PV _ _ _ _ _ _ _ 23 [.ref 86, .int 5, .int y14, pv_U] [.int v42] _
          have k23 := rv42.1
          have k23b := rv42.2
          rw [kt12] at k23
          refine pv_bipush (M := mX7_readSum) (v := 43) dX7_readSum_23 25 rfl (by decide) ?_
          refine pv_icmp_eq (M := mX7_readSum) (tgt := 37) dX7_readSum_25 28 rfl (by decide) (fun c46 => ?_) (fun c46 => ?_)
          · have c46 := iv_eq (X := v42.toInt) (Y := 43) c46 rfl (by decide)
            have kS : isS (tC m (m15 86 3).toInt) = true := isS_y (by omega)
            refine pv_aload_n (M := mX7_readSum) 0 dX7_readSum_37 38 rfl rfl rfl ?_
            refine pv_callv (M := mX7_readSum) (as := []) (st := []) (kc2 := 0) (ks2 := 0) dX7_readSum_38 wd527 YX7_peek ⟨wd529, wd2⟩ (mk_get (tl86 hT)) rfl rfl (s_X7_peek_vx g hT I17 R) rfl rfl (Nat.le_of_ble_eq_true rfl) (by decide) rfl rfl 41 rfl (fun rv h1 q48 => ?_)
            obtain ⟨v49, rfl, rfl, pv49, qv49, rv49⟩ := q48
            replace rv49 : v49.toInt = tC m15 (m15 86 3).toInt ∧ (v49.toInt = -1 ∨ (m15 86 3).toInt < (m15 86 2).toInt) := rv49
            show PV _ _ _ _ _ _ _ 41 [.ref 86, .int 5, .int y14, pv_U] [.int v49] _
            have k41 : v49.toInt = tC m (m15 86 3).toInt := by rw [← kt12]; exact rv49.1
            refine pv_istore_n (M := mX7_readSum) 3 (lo2 := [.ref 86, .int 5, .int y14, .int v49]) dX7_readSum_41 42 rfl rfl (by decide) rfl rfl ?_
            refine pv_aload_n (M := mX7_readSum) 0 dX7_readSum_42 43 rfl rfl rfl ?_
            refine pv_dup (M := mX7_readSum) dX7_readSum_43 44 rfl rfl ?_
            refine iv_get (M := mX7_readSum) (l1 := 0) (l2 := 160) dX7_readSum_44 FX7 3 wd283 (by decide) (tl86 hT) rfl I17 rfl 47 rfl (fun v51 ev51 pv51 qv51 => ?_)
            have wv51 : v51.toInt = (m15 86 3).toInt := congrArg Int32.toInt ev51
            refine pv_iconst (M := mX7_readSum) (v := 1) dX7_readSum_47 48 rfl (by decide) ?_
            refine iv_iadd (M := mX7_readSum) (X := v51.toInt) (Y := 1) dX7_readSum_48 49 rfl rfl (by decide) (by omega) (by omega) (fun v52 ev52 => ?_)
            refine iv_put (M := mX7_readSum) (l1 := 0) (l2 := 160) dX7_readSum_49 FX7 3 wd283 (by decide) rfl (tl86 hT) rfl rfl rfl I17 rfl (by omega) (by omega) 52 rfl (fun m53 e56 I54 => ?_)
            have K55 := K18.set e56 (by first | rfl | decide)
            have w57 : (m53 86 3).toInt = v52.toInt := by rw [e56, up2_eq]
            have w58 : (m53 86 2).toInt = (m15 86 2).toInt := by rw [e56, up2_ne (by omega)]
            have w59 : (m53 86 4).toInt = (m15 86 4).toInt := by rw [e56, up2_ne (by omega)]
            have w60 : (m53 lb 7).toInt = (m15 lb 7).toInt := by rw [e56, up2_ne (by omega)]
            have w61 : (m53 lb 2).toInt = (m15 lb 2).toInt := by rw [e56, up2_ne (by omega)]
            have kt52 : tC m53 = tC m := tC_fz zR2 K55
            have kp52 : (m53 86 3).toInt = (m15 86 3).toInt + 1 := by omega
            have ks52 : SAML lb m15 m53 := SAML.set zR2 e56
            have kl52 : (m53 lb 2).toInt = (m15 lb 2).toInt := congrArg Int32.toInt ks52.1
            refine pv_aload_n (M := mX7_readSum) 0 dX7_readSum_52 53 rfl rfl rfl ?_
            refine pv_iload_n (M := mX7_readSum) 1 dX7_readSum_53 54 rfl rfl rfl ?_
            have z66 : (5 : Int32).toInt = 5 := by decide
            refine pv_callv (M := mX7_readSum) (as := [.int 5]) (st := []) (kc2 := 0) (ks2 := 0) dX7_readSum_54 wd543 YX7_readTerm ⟨wd545, wd5⟩ (mk_get (tl86 hT)) rfl rfl (s_X7_readTerm_v5z g hT I54 R (by first | omega | assumption | exact (iv_rng _).2 | exact (iv_rng _).1 | decide) (TBC_eq hp1 kt52) (by first | omega | assumption | exact (iv_rng _).2 | exact (iv_rng _).1 | decide)) rfl rfl (Nat.le_of_ble_eq_true rfl) (by decide) rfl rfl 57 rfl (fun rv h1 q67 => ?_)
            obtain ⟨m68, n69, v72, rfl, rfl, I70, K71, pv72, qv72, rv72⟩ := q67
            replace rv72 : (m53 86 3).toInt ≤ (m68 86 3).toInt ∧ (m68 86 3).toInt ≤ (m68 86 2).toInt ∧ (m68 86 2).toInt = (m53 86 2).toInt ∧ ((v72.toInt = 0 ∨ (m53 86 3).toInt + 1 ≤ (m68 86 3).toInt) ∧ TRX (SU (tC m53) 1 (m53 86 3).toInt) (LSu (tC m53) 1) (fun a => isT (tC m53 a) = false) v72.toInt (m68 86 3).toInt (m68 86 4).toInt) ∧ (m68 lb 7).toInt = (m53 lb 7).toInt ∧ IFZ v72.toInt (TMZ (tC m53) 1 lb m53 m68 (m53 86 3).toInt (m68 86 3).toInt) := by have q_ := rv72; (try rw [z66] at q_); exact q_
            have K71c := K71
            have K71 := K55.trans (K71.sub (fun _ _ q => q))
            show PV _ _ _ _ _ _ _ 57 [.ref 86, .int 5, .int y14, .int v49] [.int v72] _
            have k57 := rv72.2.2.2.1.2
            have k57p := rv72.2.2.2.1.1
            rw [kt52, kp52] at k57
            have k57z0 := rv72.2.2.2.2.2
            rw [kt52, kp52] at k57z0
            refine pv_if_ne (M := mX7_readSum) (tgt := 62) dX7_readSum_57 60 rfl (by decide) (fun c78 => ?_) (fun c78 => ?_)
            · have c78 := iv_ne (X := v72.toInt) (Y := 0) c78 rfl (by decide)
              have kT6 := TRX_ok k57 (by omega)
              have k57z := IFZ.get k57z0 (by omega)
              have k57b := TMZ_b k57z
              refine pv_aload_n (M := mX7_readSum) 0 dX7_readSum_62 63 rfl rfl rfl ?_
              refine mv_get (M := mX7_readSum) (v := .ref lb) dX7_readSum_63 FX7 1 wd281 (by decide) (tl86 hT) rfl R.2.2.2.1 66 rfl ?_
              refine pv_iload_n (M := mX7_readSum) 3 dX7_readSum_66 67 rfl rfl rfl ?_
              refine pv_iconst (M := mX7_readSum) (v := 0) dX7_readSum_67 68 rfl (by decide) ?_
              have z82 : (0 : Int32).toInt = 0 := by decide
              refine pv_callv (M := mX7_readSum) (as := [.int v49, .int 0]) (st := []) (kc2 := 0) (ks2 := 0) dX7_readSum_68 wd567 YX6_emit ⟨wd568, wd569⟩ (mk_get R.2.2.2.2.2.2.1) rfl rfl (s_X6_emit_vz g hT I70 lb R.2.2.2.2.2 v49 0 (by decide) (by decide)) rfl rfl (Nat.le_of_ble_eq_true rfl) (by decide) rfl rfl 71 rfl (fun rv h1 q83 => ?_)
              obtain ⟨m84, n85, rfl, rfl, I86, K87, rm84⟩ := q83
              replace rm84 : (m84 lb 7).toInt = (m68 lb 7).toInt ∧ ((m68 lb 2).toInt < 160 → EMT lb m68 m84 v49.toInt (0 : Int32)) := by have q_ := rm84; (try rw [z82] at q_); exact q_
              have K87c := K87
              have w88 : (m84 86 3).toInt = (m68 86 3).toInt := congrArg Int32.toInt (K87 86 3 (wY_out (by omega) (by omega) (by omega)))
              have w89 : (m84 86 2).toInt = (m68 86 2).toInt := congrArg Int32.toInt (K87 86 2 (wY_out (by omega) (by omega) (by omega)))
              have w90 : (m84 86 4).toInt = (m68 86 4).toInt := congrArg Int32.toInt (K87 86 4 (wY_out (by omega) (by omega) (by omega)))
              have K87 := K71.trans (K87.sub (by first | exact wZ_wY | exact wZ_86))
              show PV _ _ _ _ _ _ _ 71 [.ref 86, .int 5, .int y14, .int v49] [] _
              have k71 := rm84.2 (by omega)
              refine iv_inc (M := mX7_readSum) (C := 1) dX7_readSum_71 74 rfl rfl (by decide) rfl rfl (by decide) (by omega) (by omega) (fun v92 ev92 => ?_)
              show PV _ _ _ _ _ _ _ 74 [.ref 86, .int 5, .int v92, .int v49] [] _
              refine pv_goto (M := mX7_readSum) (tgt := 12) dX7_readSum_74 (by decide) ?_
              refine pv_fg (lo2 := [.ref 86, .int 5, .int v92, pv_U]) ⟨Or.inr rfl, ⟨Or.inr rfl, ⟨Or.inr rfl, ⟨Or.inl rfl, trivial⟩⟩⟩⟩ ?_
              have kb3 : (m84 86 3).toInt = (m68 86 3).toInt := by omega
              have kbs : SU (tC m) 1 (m 86 3).toInt = LSu (tC m) 1 (m84 86 3).toInt := by rw [kgs, LSu_su kTX (by omega) kS, kT6.1]; congr 1; omega
              have kbt : isT (tC m (m84 86 3).toInt) = false := by rw [kb3]; exact kT6.2
              have kbz : SMZ (tC m) 1 lb m m84 (m 86 3).toInt (m84 86 3).toInt := by rw [kb3]; exact SMZ_s kgz kTX (by omega) kS kgt ks52 k57z k71 (by omega) (by unfold isO; omega) kT6.2
              exact ih21 v92 m84 n85 (by first | omega | assumption | exact (iv_rng _).2 | exact (iv_rng _).1 | decide) (by first | omega | assumption | exact (iv_rng _).2 | exact (iv_rng _).1 | decide) (by first | omega | assumption | (show (m84 86 3).toInt ≤ (m84 86 2).toInt; omega) | decide) (by first | omega | assumption | (show (m84 86 2).toInt = (m 86 2).toInt; omega) | decide) (by first | omega | assumption | (show (m84 lb 7).toInt = (m lb 7).toInt; omega) | decide) (by first | omega | assumption | (show (m 86 3).toInt + 1 + 2 * v92.toInt ≤ (m84 86 3).toInt; omega) | decide) kbs kbt kbz I86 K87 (by omega)
            · have c78 := iv_eq (X := v72.toInt) (Y := 0) c78 rfl (by decide)
              refine pv_iconst (M := mX7_readSum) (v := 0) dX7_readSum_60 61 rfl (by decide) ?_
              have z97 : (0 : Int32).toInt = 0 := by decide
              exact pv_iret (M := mX7_readSum) dX7_readSum_61 rfl rfl ⟨_, _, _, rfl, rfl, I70, K71, by decide, by decide, ⟨by omega, by omega, by omega, Or.inr ⟨by decide, by rw [kgs, LSu_su kTX (by omega) kS]; exact TRX_fl k57 (by omega)⟩, by omega, IFZ.no (by first | decide | omega)⟩⟩
          · have c46 := iv_ne (X := v42.toInt) (Y := 43) c46 rfl (by decide)
            refine pv_aload_n (M := mX7_readSum) 0 dX7_readSum_28 29 rfl rfl rfl ?_
            refine pv_callv (M := mX7_readSum) (as := []) (st := []) (kc2 := 0) (ks2 := 0) dX7_readSum_29 wd527 YX7_peek ⟨wd529, wd2⟩ (mk_get (tl86 hT)) rfl rfl (s_X7_peek_vx g hT I17 R) rfl rfl (Nat.le_of_ble_eq_true rfl) (by decide) rfl rfl 32 rfl (fun rv h1 q98 => ?_)
            obtain ⟨v99, rfl, rfl, pv99, qv99, rv99⟩ := q98
            replace rv99 : v99.toInt = tC m15 (m15 86 3).toInt ∧ (v99.toInt = -1 ∨ (m15 86 3).toInt < (m15 86 2).toInt) := rv99
            show PV _ _ _ _ _ _ _ 32 [.ref 86, .int 5, .int y14, pv_U] [.int v99] _
            have k32 := rv99.1
            have k32b := rv99.2
            rw [kt12] at k32
            refine pv_bipush (M := mX7_readSum) (v := 45) dX7_readSum_32 34 rfl (by decide) ?_
            refine pv_icmp_ne (M := mX7_readSum) (tgt := 77) dX7_readSum_34 37 rfl (by decide) (fun c103 => ?_) (fun c103 => ?_)
            · have c103 := iv_ne (X := v99.toInt) (Y := 45) c103 rfl (by decide)
              refine pv_iconst (M := mX7_readSum) (v := 1) dX7_readSum_77 78 rfl (by decide) ?_
              have z104 : (1 : Int32).toInt = 1 := by decide
              exact pv_iret (M := mX7_readSum) dX7_readSum_78 rfl rfl ⟨_, _, _, rfl, rfl, I17, K18, by decide, by decide, ⟨by omega, by omega, by omega, (by first | exact Or.inl ⟨by decide, by rw [kgs]; exact LSu_no (isS_n kgt (by omega) (by omega))⟩ | (exfalso; omega)), by omega, (by first | exact IFZ.is (SMZ_e kgz (isS_n kgt (by omega) (by omega))) | exact IFZ.no (by omega))⟩⟩
            · have c103 := iv_eq (X := v99.toInt) (Y := 45) c103 rfl (by decide)
              have kS : isS (tC m (m15 86 3).toInt) = true := isS_y (by omega)
              refine pv_aload_n (M := mX7_readSum) 0 dX7_readSum_37 38 rfl rfl rfl ?_
              refine pv_callv (M := mX7_readSum) (as := []) (st := []) (kc2 := 0) (ks2 := 0) dX7_readSum_38 wd527 YX7_peek ⟨wd529, wd2⟩ (mk_get (tl86 hT)) rfl rfl (s_X7_peek_vx g hT I17 R) rfl rfl (Nat.le_of_ble_eq_true rfl) (by decide) rfl rfl 41 rfl (fun rv h1 q106 => ?_)
              obtain ⟨v107, rfl, rfl, pv107, qv107, rv107⟩ := q106
              replace rv107 : v107.toInt = tC m15 (m15 86 3).toInt ∧ (v107.toInt = -1 ∨ (m15 86 3).toInt < (m15 86 2).toInt) := rv107
              show PV _ _ _ _ _ _ _ 41 [.ref 86, .int 5, .int y14, pv_U] [.int v107] _
              have k41 : v107.toInt = tC m (m15 86 3).toInt := by rw [← kt12]; exact rv107.1
              refine pv_istore_n (M := mX7_readSum) 3 (lo2 := [.ref 86, .int 5, .int y14, .int v107]) dX7_readSum_41 42 rfl rfl (by decide) rfl rfl ?_
              refine pv_aload_n (M := mX7_readSum) 0 dX7_readSum_42 43 rfl rfl rfl ?_
              refine pv_dup (M := mX7_readSum) dX7_readSum_43 44 rfl rfl ?_
              refine iv_get (M := mX7_readSum) (l1 := 0) (l2 := 160) dX7_readSum_44 FX7 3 wd283 (by decide) (tl86 hT) rfl I17 rfl 47 rfl (fun v109 ev109 pv109 qv109 => ?_)
              have wv109 : v109.toInt = (m15 86 3).toInt := congrArg Int32.toInt ev109
              refine pv_iconst (M := mX7_readSum) (v := 1) dX7_readSum_47 48 rfl (by decide) ?_
              refine iv_iadd (M := mX7_readSum) (X := v109.toInt) (Y := 1) dX7_readSum_48 49 rfl rfl (by decide) (by omega) (by omega) (fun v110 ev110 => ?_)
              refine iv_put (M := mX7_readSum) (l1 := 0) (l2 := 160) dX7_readSum_49 FX7 3 wd283 (by decide) rfl (tl86 hT) rfl rfl rfl I17 rfl (by omega) (by omega) 52 rfl (fun m111 e114 I112 => ?_)
              have K113 := K18.set e114 (by first | rfl | decide)
              have w115 : (m111 86 3).toInt = v110.toInt := by rw [e114, up2_eq]
              have w116 : (m111 86 2).toInt = (m15 86 2).toInt := by rw [e114, up2_ne (by omega)]
              have w117 : (m111 86 4).toInt = (m15 86 4).toInt := by rw [e114, up2_ne (by omega)]
              have w118 : (m111 lb 7).toInt = (m15 lb 7).toInt := by rw [e114, up2_ne (by omega)]
              have w119 : (m111 lb 2).toInt = (m15 lb 2).toInt := by rw [e114, up2_ne (by omega)]
              have kt52 : tC m111 = tC m := tC_fz zR2 K113
              have kp52 : (m111 86 3).toInt = (m15 86 3).toInt + 1 := by omega
              have ks52 : SAML lb m15 m111 := SAML.set zR2 e114
              have kl52 : (m111 lb 2).toInt = (m15 lb 2).toInt := congrArg Int32.toInt ks52.1
              refine pv_aload_n (M := mX7_readSum) 0 dX7_readSum_52 53 rfl rfl rfl ?_
              refine pv_iload_n (M := mX7_readSum) 1 dX7_readSum_53 54 rfl rfl rfl ?_
              have z124 : (5 : Int32).toInt = 5 := by decide
              refine pv_callv (M := mX7_readSum) (as := [.int 5]) (st := []) (kc2 := 0) (ks2 := 0) dX7_readSum_54 wd543 YX7_readTerm ⟨wd545, wd5⟩ (mk_get (tl86 hT)) rfl rfl (s_X7_readTerm_v5z g hT I112 R (by first | omega | assumption | exact (iv_rng _).2 | exact (iv_rng _).1 | decide) (TBC_eq hp1 kt52) (by first | omega | assumption | exact (iv_rng _).2 | exact (iv_rng _).1 | decide)) rfl rfl (Nat.le_of_ble_eq_true rfl) (by decide) rfl rfl 57 rfl (fun rv h1 q125 => ?_)
              obtain ⟨m126, n127, v130, rfl, rfl, I128, K129, pv130, qv130, rv130⟩ := q125
              replace rv130 : (m111 86 3).toInt ≤ (m126 86 3).toInt ∧ (m126 86 3).toInt ≤ (m126 86 2).toInt ∧ (m126 86 2).toInt = (m111 86 2).toInt ∧ ((v130.toInt = 0 ∨ (m111 86 3).toInt + 1 ≤ (m126 86 3).toInt) ∧ TRX (SU (tC m111) 1 (m111 86 3).toInt) (LSu (tC m111) 1) (fun a => isT (tC m111 a) = false) v130.toInt (m126 86 3).toInt (m126 86 4).toInt) ∧ (m126 lb 7).toInt = (m111 lb 7).toInt ∧ IFZ v130.toInt (TMZ (tC m111) 1 lb m111 m126 (m111 86 3).toInt (m126 86 3).toInt) := by have q_ := rv130; (try rw [z124] at q_); exact q_
              have K129c := K129
              have K129 := K113.trans (K129.sub (fun _ _ q => q))
              show PV _ _ _ _ _ _ _ 57 [.ref 86, .int 5, .int y14, .int v107] [.int v130] _
              have k57 := rv130.2.2.2.1.2
              have k57p := rv130.2.2.2.1.1
              rw [kt52, kp52] at k57
              have k57z0 := rv130.2.2.2.2.2
              rw [kt52, kp52] at k57z0
              refine pv_if_ne (M := mX7_readSum) (tgt := 62) dX7_readSum_57 60 rfl (by decide) (fun c136 => ?_) (fun c136 => ?_)
              · have c136 := iv_ne (X := v130.toInt) (Y := 0) c136 rfl (by decide)
                have kT6 := TRX_ok k57 (by omega)
                have k57z := IFZ.get k57z0 (by omega)
                have k57b := TMZ_b k57z
                refine pv_aload_n (M := mX7_readSum) 0 dX7_readSum_62 63 rfl rfl rfl ?_
                refine mv_get (M := mX7_readSum) (v := .ref lb) dX7_readSum_63 FX7 1 wd281 (by decide) (tl86 hT) rfl R.2.2.2.1 66 rfl ?_
                refine pv_iload_n (M := mX7_readSum) 3 dX7_readSum_66 67 rfl rfl rfl ?_
                refine pv_iconst (M := mX7_readSum) (v := 0) dX7_readSum_67 68 rfl (by decide) ?_
                have z140 : (0 : Int32).toInt = 0 := by decide
                refine pv_callv (M := mX7_readSum) (as := [.int v107, .int 0]) (st := []) (kc2 := 0) (ks2 := 0) dX7_readSum_68 wd567 YX6_emit ⟨wd568, wd569⟩ (mk_get R.2.2.2.2.2.2.1) rfl rfl (s_X6_emit_vz g hT I128 lb R.2.2.2.2.2 v107 0 (by decide) (by decide)) rfl rfl (Nat.le_of_ble_eq_true rfl) (by decide) rfl rfl 71 rfl (fun rv h1 q141 => ?_)
                obtain ⟨m142, n143, rfl, rfl, I144, K145, rm142⟩ := q141
                replace rm142 : (m142 lb 7).toInt = (m126 lb 7).toInt ∧ ((m126 lb 2).toInt < 160 → EMT lb m126 m142 v107.toInt (0 : Int32)) := by have q_ := rm142; (try rw [z140] at q_); exact q_
                have K145c := K145
                have w146 : (m142 86 3).toInt = (m126 86 3).toInt := congrArg Int32.toInt (K145 86 3 (wY_out (by omega) (by omega) (by omega)))
                have w147 : (m142 86 2).toInt = (m126 86 2).toInt := congrArg Int32.toInt (K145 86 2 (wY_out (by omega) (by omega) (by omega)))
                have w148 : (m142 86 4).toInt = (m126 86 4).toInt := congrArg Int32.toInt (K145 86 4 (wY_out (by omega) (by omega) (by omega)))
                have K145 := K129.trans (K145.sub (by first | exact wZ_wY | exact wZ_86))
                show PV _ _ _ _ _ _ _ 71 [.ref 86, .int 5, .int y14, .int v107] [] _
                have k71 := rm142.2 (by omega)
                refine iv_inc (M := mX7_readSum) (C := 1) dX7_readSum_71 74 rfl rfl (by decide) rfl rfl (by decide) (by omega) (by omega) (fun v150 ev150 => ?_)
                show PV _ _ _ _ _ _ _ 74 [.ref 86, .int 5, .int v150, .int v107] [] _
                refine pv_goto (M := mX7_readSum) (tgt := 12) dX7_readSum_74 (by decide) ?_
                refine pv_fg (lo2 := [.ref 86, .int 5, .int v150, pv_U]) ⟨Or.inr rfl, ⟨Or.inr rfl, ⟨Or.inr rfl, ⟨Or.inl rfl, trivial⟩⟩⟩⟩ ?_
                have kb3 : (m142 86 3).toInt = (m126 86 3).toInt := by omega
                have kbs : SU (tC m) 1 (m 86 3).toInt = LSu (tC m) 1 (m142 86 3).toInt := by rw [kgs, LSu_su kTX (by omega) kS, kT6.1]; congr 1; omega
                have kbt : isT (tC m (m142 86 3).toInt) = false := by rw [kb3]; exact kT6.2
                have kbz : SMZ (tC m) 1 lb m m142 (m 86 3).toInt (m142 86 3).toInt := by rw [kb3]; exact SMZ_s kgz kTX (by omega) kS kgt ks52 k57z k71 (by omega) (by unfold isO; omega) kT6.2
                exact ih21 v150 m142 n143 (by first | omega | assumption | exact (iv_rng _).2 | exact (iv_rng _).1 | decide) (by first | omega | assumption | exact (iv_rng _).2 | exact (iv_rng _).1 | decide) (by first | omega | assumption | (show (m142 86 3).toInt ≤ (m142 86 2).toInt; omega) | decide) (by first | omega | assumption | (show (m142 86 2).toInt = (m 86 2).toInt; omega) | decide) (by first | omega | assumption | (show (m142 lb 7).toInt = (m lb 7).toInt; omega) | decide) (by first | omega | assumption | (show (m 86 3).toInt + 1 + 2 * v150.toInt ≤ (m142 86 3).toInt; omega) | decide) kbs kbt kbz I144 K145 (by omega)
              · have c136 := iv_eq (X := v130.toInt) (Y := 0) c136 rfl (by decide)
                refine pv_iconst (M := mX7_readSum) (v := 0) dX7_readSum_60 61 rfl (by decide) ?_
                have z155 : (0 : Int32).toInt = 0 := by decide
                exact pv_iret (M := mX7_readSum) dX7_readSum_61 rfl rfl ⟨_, _, _, rfl, rfl, I128, K129, by decide, by decide, ⟨by omega, by omega, by omega, Or.inr ⟨by decide, by rw [kgs, LSu_su kTX (by omega) kS]; exact TRX_fl k57 (by omega)⟩, by omega, IFZ.no (by first | decide | omega)⟩⟩
    have z156 : (0 : Int32).toInt = 0 := by decide
    exact lp20 (((160 - 0) : Int).toNat + 1) 0 m4 n5 (by first | omega | assumption | exact (iv_rng _).2 | exact (iv_rng _).1 | decide) (by first | omega | assumption | exact (iv_rng _).2 | exact (iv_rng _).1 | decide) (by first | omega | assumption | (show (m4 86 3).toInt ≤ (m4 86 2).toInt; omega) | decide) (by first | omega | assumption | (show (m4 86 2).toInt = (m 86 2).toInt; omega) | decide) (by first | omega | assumption | (show (m4 lb 7).toInt = (m lb 7).toInt; omega) | decide) (by first | omega | assumption | (show (m 86 3).toInt + 1 + 2 * 0 ≤ (m4 86 3).toInt; omega) | decide) (TRX_ok k5 (by omega)).1 (TRX_ok k5 (by omega)).2 (SMZ_0 k5z) I6 K7 (by omega)
  · have c12 := iv_eq (X := v8.toInt) (Y := 0) c12 rfl (by decide)
    refine pv_iconst (M := mX7_readSum) (v := 0) dX7_readSum_8 9 rfl (by decide) ?_
    have z157 : (0 : Int32).toInt = 0 := by decide
    exact pv_iret (M := mX7_readSum) dX7_readSum_9 rfl rfl ⟨_, _, _, rfl, rfl, I6, K7, by decide, by decide, ⟨by omega, by omega, by omega, Or.inr ⟨by decide, TRX_fl k5 (by omega)⟩, by omega, IFZ.no (by first | decide | omega)⟩⟩

set_option maxHeartbeats 2000000 in
set_option maxRecDepth 20000 in
theorem s_X7_readFactor_v4z (g : pv_G) {T : List mv_T} {m : Nat → Nat → Int32} {n : Nat → Nat → Int64} {r : Nat → Value} {la lb : Nat} (hT : TX T) (I : IV BB m) (R : RX T r la lb) (hp0 : (m 86 3).toInt ≤ (m 86 2).toInt) (hp1 : TBC m) (hp2 : (m lb 2).toInt ≤ (m 86 3).toInt) : PM g mX7_readFactor yX7_readFactor (sqI T BB (wZ lb) r m 0 1 (fun m' v => (m 86 3).toInt ≤ (m' 86 3).toInt ∧ (m' 86 3).toInt ≤ (m' 86 2).toInt ∧ (m' 86 2).toInt = (m 86 2).toInt ∧ (RSX (FA (tC m) 2 (m 86 3).toInt) v.toInt (m' 86 3).toInt (m' 86 4).toInt) ∧ (m' lb 7).toInt = (m lb 7).toInt ∧ IFZ v.toInt (CDS lb m m' 5 (FAD (tC m) 2 (m 86 3).toInt) ((m' 86 3).toInt - (m 86 3).toInt)))) 11 0 0 [.ref 86, .int 4] (mk T m n r) := by
  have Kp : fr (wZ lb) m m := fr.rf
  have R0 := R
  have zR := R.2.2.2.2.1.1
  have zR2 := R.2.2.2.2.2.1
  have z124 : 0 ≤ (m 86 3).toInt ∧ (m 86 3).toInt ≤ 160 := I 86 3
  have z125 : 0 ≤ (m 86 2).toInt ∧ (m 86 2).toInt ≤ 160 := I 86 2
  refine PM.of 1 (lo := [.ref 86, .int 4, pv_U]) rfl (by decide) rfl rfl (Nat.le_of_ble_eq_true rfl) ?_
  refine pv_aload_n (M := mX7_readFactor) 0 dX7_readFactor_0 1 rfl rfl rfl ?_
  refine pv_callv (M := mX7_readFactor) (as := []) (st := []) (kc2 := 0) (ks2 := 0) dX7_readFactor_1 wd527 YX7_peek ⟨wd529, wd2⟩ (mk_get (tl86 hT)) rfl rfl (s_X7_peek_vx g hT I R) rfl rfl (Nat.le_of_ble_eq_true rfl) (by decide) rfl rfl 4 rfl (fun rv h1 q1 => ?_)
  obtain ⟨v2, rfl, rfl, pv2, qv2, rv2⟩ := q1
  replace rv2 : v2.toInt = tC m (m 86 3).toInt ∧ (v2.toInt = -1 ∨ (m 86 3).toInt < (m 86 2).toInt) := rv2
  show PV _ _ _ _ _ _ _ 4 [.ref 86, .int 4, pv_U] [.int v2] _
  have k4 := rv2.1
  have k4b := rv2.2
  refine pv_bipush (M := mX7_readFactor) (v := 91) dX7_readFactor_4 6 rfl (by decide) ?_
  refine pv_icmp_ne (M := mX7_readFactor) (tgt := 42) dX7_readFactor_6 9 rfl (by decide) (fun c5 => ?_) (fun c5 => ?_)
  · have c5 := iv_ne (X := v2.toInt) (Y := 91) c5 rfl (by decide)
    have kn91 : tC m (m 86 3).toInt ≠ 91 := by omega
    refine pv_aload_n (M := mX7_readFactor) 0 dX7_readFactor_42 43 rfl rfl rfl ?_
    refine pv_callv (M := mX7_readFactor) (as := []) (st := []) (kc2 := 0) (ks2 := 0) dX7_readFactor_43 wd559 YX7_digitAhead ⟨wd561, wd9⟩ (mk_get (tl86 hT)) rfl rfl (s_X7_digitAhead_vx g hT I R) rfl rfl (Nat.le_of_ble_eq_true rfl) (by decide) rfl rfl 46 rfl (fun rv h1 q7 => ?_)
    obtain ⟨v8, rfl, rfl, pv8, qv8, rv8⟩ := q7
    replace rv8 : (v8 = 0 ∨ ((m 86 3).toInt < (m 86 2).toInt ∧ 48 ≤ (m 87 (m 86 3).toInt.toNat).toInt ∧ (m 87 (m 86 3).toInt.toNat).toInt ≤ 57)) ∧ ((v8.toInt = 1 ∧ dig (tC m (m 86 3).toInt) = true) ∨ (v8.toInt = 0 ∧ dig (tC m (m 86 3).toInt) = false)) := rv8
    show PV _ _ _ _ _ _ _ 46 [.ref 86, .int 4, pv_U] [.int v8] _
    have k46 := rv8.2
    refine pv_if_eq (M := mX7_readFactor) (tgt := 54) dX7_readFactor_46 49 rfl (by decide) (fun c10 => ?_) (fun c10 => ?_)
    · have c10 := iv_eq (X := v8.toInt) (Y := 0) c10 rfl (by decide)
      have kdn := (k46.resolve_left (fun q => by have q1 := q.1; omega)).2
      refine pv_aload_n (M := mX7_readFactor) 0 dX7_readFactor_54 55 rfl rfl rfl ?_
      refine pv_callv (M := mX7_readFactor) (as := []) (st := []) (kc2 := 0) (ks2 := 0) dX7_readFactor_55 wd527 YX7_peek ⟨wd529, wd2⟩ (mk_get (tl86 hT)) rfl rfl (s_X7_peek_vx g hT I R) rfl rfl (Nat.le_of_ble_eq_true rfl) (by decide) rfl rfl 58 rfl (fun rv h1 q12 => ?_)
      obtain ⟨v13, rfl, rfl, pv13, qv13, rv13⟩ := q12
      replace rv13 : v13.toInt = tC m (m 86 3).toInt ∧ (v13.toInt = -1 ∨ (m 86 3).toInt < (m 86 2).toInt) := rv13
      show PV _ _ _ _ _ _ _ 58 [.ref 86, .int 4, pv_U] [.int v13] _
      have k58 := rv13.1
      refine pv_iconst (M := mX7_readFactor) (v := (-1)) dX7_readFactor_58 59 rfl (by decide) ?_
      refine pv_icmp_ne (M := mX7_readFactor) (tgt := 66) dX7_readFactor_59 62 rfl (by decide) (fun c15 => ?_) (fun c15 => ?_)
      · have c15 := iv_ne (X := v13.toInt) (Y := (-1)) c15 rfl (by decide)
        refine pv_ldcS (M := mX7_readFactor) dX7_readFactor_66 rfl 68 rfl ?_
        refine pv_aload_n (M := mX7_readFactor) 0 dX7_readFactor_68 69 rfl rfl rfl ?_
        refine pv_callv (M := mX7_readFactor) (as := []) (st := [.retAddr (g.2.2.1 6 + 1)]) (kc2 := 0) (ks2 := 0) dX7_readFactor_69 wd527 YX7_peek ⟨wd529, wd2⟩ (mk_get (tl86 hT)) rfl rfl (s_X7_peek_vx g hT I R) rfl rfl (Nat.le_of_ble_eq_true rfl) (by decide) rfl rfl 72 rfl (fun rv h1 q16 => ?_)
        obtain ⟨v17, rfl, rfl, pv17, qv17, rv17⟩ := q16
        replace rv17 : v17.toInt = tC m (m 86 3).toInt ∧ (v17.toInt = -1 ∨ (m 86 3).toInt < (m 86 2).toInt) := rv17
        show PV _ _ _ _ _ _ _ 72 [.ref 86, .int 4, pv_U] [.int v17, .retAddr (g.2.2.1 6 + 1)] _
        have k72 := rv17.1
        have kb72 := hp1 (m 86 3).toInt
        refine iv_i2cU (M := mX7_readFactor) dX7_readFactor_72 73 rfl (fun v20 ev20 => ?_)
        have k73 := i2c_eq ev20 (by omega) (by omega)
        refine pv_callvS (M := mX7_readFactor) (as := [.int v20]) (st := []) (kc2 := 0) (ks2 := 0) dX7_readFactor_73 wd572 YJ0_indexOf_0f7a4 ⟨wd573, wd574⟩ rfl (s_J0_indexOf_0f7a4_vx g hT I v20 (by omega) (by omega)) rfl rfl (Nat.le_of_ble_eq_true rfl) (by decide) rfl rfl 76 rfl (fun rv h1 q22 => ?_)
        obtain ⟨v23, rfl, rfl, pv23, qv23, rv23⟩ := q22
        replace rv23 : v23.toInt = nix v20.toInt := rv23
        show PV _ _ _ _ _ _ _ 76 [.ref 86, .int 4, pv_U] [.int v23] _
        have k76 : v23.toInt = nix (tC m (m 86 3).toInt) := by first | (rw [show tC m (m 86 3).toInt = -1 by omega]; decide) | (rw [rv23, k73, k72])
        refine pv_istore_n (M := mX7_readFactor) 2 (lo2 := [.ref 86, .int 4, .int v23]) dX7_readFactor_76 77 rfl rfl (by decide) rfl rfl ?_
        refine pv_iload_n (M := mX7_readFactor) 2 dX7_readFactor_77 78 rfl rfl rfl ?_
        refine pv_if_ge (M := mX7_readFactor) (tgt := 87) dX7_readFactor_78 81 rfl (by decide) (fun c25 => ?_) (fun c25 => ?_)
        · have c25 := iv_le (X := 0) (Y := v23.toInt) c25 (by decide) rfl
          have k87 : (m 86 3).toInt < (m 86 2).toInt := by have := nix_b (x := tC m (m 86 3).toInt) (by omega); omega
          refine pv_aload_n (M := mX7_readFactor) 0 dX7_readFactor_87 88 rfl rfl rfl ?_
          refine mv_get (M := mX7_readFactor) (v := .ref lb) dX7_readFactor_88 FX7 1 wd281 (by decide) (tl86 hT) rfl R.2.2.2.1 91 rfl ?_
          refine pv_bipush (M := mX7_readFactor) (v := 36) dX7_readFactor_91 93 rfl (by decide) ?_
          refine pv_iload_n (M := mX7_readFactor) 2 dX7_readFactor_93 94 rfl rfl rfl ?_
          have z27 : (36 : Int32).toInt = 36 := by decide
          refine pv_callv (M := mX7_readFactor) (as := [.int 36, .int v23]) (st := []) (kc2 := 0) (ks2 := 0) dX7_readFactor_94 wd567 YX6_emit ⟨wd568, wd569⟩ (mk_get R.2.2.2.2.2.2.1) rfl rfl (s_X6_emit_vz g hT I lb R.2.2.2.2.2 36 v23 (by omega) (by omega)) rfl rfl (Nat.le_of_ble_eq_true rfl) (by decide) rfl rfl 97 rfl (fun rv h1 q28 => ?_)
          obtain ⟨m29, n30, rfl, rfl, I31, K32, rm29⟩ := q28
          replace rm29 : (m29 lb 7).toInt = (m lb 7).toInt ∧ ((m lb 2).toInt < 160 → EMT lb m m29 (36 : Int) v23) := by have q_ := rm29; (try rw [z27] at q_); exact q_
          have K32c := K32
          have w33 : (m29 86 3).toInt = (m 86 3).toInt := congrArg Int32.toInt (K32 86 3 (wY_out (by omega) (by omega) (by omega)))
          have w34 : (m29 86 2).toInt = (m 86 2).toInt := congrArg Int32.toInt (K32 86 2 (wY_out (by omega) (by omega) (by omega)))
          have w35 : (m29 86 4).toInt = (m 86 4).toInt := congrArg Int32.toInt (K32 86 4 (wY_out (by omega) (by omega) (by omega)))
          have K32 := Kp.trans (K32.sub (by first | exact wZ_wY | exact wZ_86))
          show PV _ _ _ _ _ _ _ 97 [.ref 86, .int 4, .int v23] [] _
          have klB := I lb 2
          rw [law_b2 R.2.2.2.2.2] at klB
          have klb0 : 0 ≤ (m lb 2).toInt := klB.1
          have k97 := rm29.2 (by omega)
          refine pv_aload_n (M := mX7_readFactor) 0 dX7_readFactor_97 98 rfl rfl rfl ?_
          refine pv_dup (M := mX7_readFactor) dX7_readFactor_98 99 rfl rfl ?_
          refine iv_get (M := mX7_readFactor) (l1 := 0) (l2 := 160) dX7_readFactor_99 FX7 3 wd283 (by decide) (tl86 hT) rfl I31 rfl 102 rfl (fun v40 ev40 pv40 qv40 => ?_)
          have wv40 : v40.toInt = (m29 86 3).toInt := congrArg Int32.toInt ev40
          refine pv_iconst (M := mX7_readFactor) (v := 1) dX7_readFactor_102 103 rfl (by decide) ?_
          refine iv_iadd (M := mX7_readFactor) (X := v40.toInt) (Y := 1) dX7_readFactor_103 104 rfl rfl (by decide) (by omega) (by omega) (fun v41 ev41 => ?_)
          refine iv_put (M := mX7_readFactor) (l1 := 0) (l2 := 160) dX7_readFactor_104 FX7 3 wd283 (by decide) rfl (tl86 hT) rfl rfl rfl I31 rfl (by omega) (by omega) 107 rfl (fun m42 e45 I43 => ?_)
          have K44 := K32.set e45 (by first | rfl | decide)
          have w46 : (m42 86 3).toInt = v41.toInt := by rw [e45, up2_eq]
          have w47 : (m42 86 2).toInt = (m29 86 2).toInt := by rw [e45, up2_ne (by omega)]
          have w48 : (m42 86 4).toInt = (m29 86 4).toInt := by rw [e45, up2_ne (by omega)]
          have w49 : (m42 lb 7).toInt = (m29 lb 7).toInt := by rw [e45, up2_ne (by omega)]
          have w50 : (m42 lb 2).toInt = (m29 lb 2).toInt := by rw [e45, up2_ne (by omega)]
          refine pv_iconst (M := mX7_readFactor) (v := 1) dX7_readFactor_107 108 rfl (by decide) ?_
          have z51 : (1 : Int32).toInt = 1 := by decide
          exact pv_iret (M := mX7_readFactor) dX7_readFactor_108 rfl rfl ⟨_, _, _, rfl, rfl, I43, K44, by decide, by decide, ⟨by omega, by omega, by omega, Or.inl ⟨by decide, by rw [FA_atom kn91, AT_nam kdn (nix_y (by omega)), show (m 86 3).toInt + 1 = (m42 86 3).toInt by omega]⟩, by omega, IFZ.is (by rw [FAD_at kn91, atD_nam kdn]; exact CDS.wk (CDS.post (CDS.nam (by omega) k97 (da := 1) (by omega) (by omega)) (SAML.set zR2 e45)) (by omega) (by omega))⟩⟩
        · have c25 := iv_nle (X := 0) (Y := v23.toInt) c25 (by decide) rfl
          refine pv_aload_n (M := mX7_readFactor) 0 dX7_readFactor_81 82 rfl rfl rfl ?_
          refine pv_iconst (M := mX7_readFactor) (v := 1) dX7_readFactor_82 83 rfl (by decide) ?_
          have z52 : (1 : Int32).toInt = 1 := by decide
          refine pv_callv (M := mX7_readFactor) (as := [.int 1]) (st := []) (kc2 := 0) (ks2 := 0) dX7_readFactor_83 wd531 YX7_fail ⟨wd533, wd3⟩ (mk_get (tl86 hT)) rfl rfl (s_X7_fail_vz g hT I R 1 (by decide) (by decide) (by first | omega | assumption | exact (iv_rng _).2 | exact (iv_rng _).1 | decide)) rfl rfl (Nat.le_of_ble_eq_true rfl) (by decide) rfl rfl 86 rfl (fun rv h1 q53 => ?_)
          obtain ⟨m54, n55, v58, rfl, rfl, I56, K57, pv58, qv58, rv58⟩ := q53
          replace rv58 : (m 86 3).toInt ≤ (m54 86 3).toInt ∧ (m54 86 3).toInt ≤ (m54 86 2).toInt ∧ (m54 86 2).toInt = (m 86 2).toInt ∧ (v58.toInt = 0 ∧ (m54 86 3).toInt = (m 86 3).toInt ∧ (m54 86 4).toInt = -1000 * (1 : Int) - (m 86 3).toInt) ∧ (m54 lb 7).toInt = (m lb 7).toInt := by have q_ := rv58; (try rw [z52] at q_); exact q_
          have K57c := K57
          have w59 : (m54 86 2).toInt = (m 86 2).toInt := congrArg Int32.toInt (K57 86 2 rfl)
          have K57 := Kp.trans (K57.sub (by first | exact wZ_wY | exact wZ_86))
          show PV _ _ _ _ _ _ _ 86 [.ref 86, .int 4, .int v23] [.int v58] _
          exact pv_iret (M := mX7_readFactor) dX7_readFactor_86 rfl (iv_nz (by omega) (by omega)) ⟨_, _, _, rfl, rfl, I56, K57, by omega, by omega, ⟨by omega, by omega, by omega, Or.inr ⟨by omega, FLT_of (a := 1) (p := (m 86 3).toInt) (by rw [FA_atom kn91]; exact AT_no kdn (nix_no (by omega))) (by decide) (by omega)⟩, by omega, IFZ.no (by first | decide | omega)⟩⟩
      · have c15 := iv_eq (X := v13.toInt) (Y := (-1)) c15 rfl (by decide)
        refine pv_iconst (M := mX7_readFactor) (v := (-1)) dX7_readFactor_62 63 rfl (by decide) ?_
        refine pv_goto (M := mX7_readFactor) (tgt := 76) dX7_readFactor_63 (by decide) ?_
        have k76 : (-1) = nix (tC m (m 86 3).toInt) := by first | (rw [show tC m (m 86 3).toInt = -1 by omega]; decide) | (rw [rlit, k73, k72])
        refine pv_istore_n (M := mX7_readFactor) 2 (lo2 := [.ref 86, .int 4, .int (-1)]) dX7_readFactor_76 77 rfl rfl (by decide) rfl rfl ?_
        refine pv_iload_n (M := mX7_readFactor) 2 dX7_readFactor_77 78 rfl rfl rfl ?_
        refine pv_if_ge (M := mX7_readFactor) (tgt := 87) dX7_readFactor_78 81 rfl (by decide) (fun q => absurd q (by decide)) (fun _ => ?_)
        refine pv_aload_n (M := mX7_readFactor) 0 dX7_readFactor_81 82 rfl rfl rfl ?_
        refine pv_iconst (M := mX7_readFactor) (v := 1) dX7_readFactor_82 83 rfl (by decide) ?_
        have z62 : (1 : Int32).toInt = 1 := by decide
        refine pv_callv (M := mX7_readFactor) (as := [.int 1]) (st := []) (kc2 := 0) (ks2 := 0) dX7_readFactor_83 wd531 YX7_fail ⟨wd533, wd3⟩ (mk_get (tl86 hT)) rfl rfl (s_X7_fail_vz g hT I R 1 (by decide) (by decide) (by first | omega | assumption | exact (iv_rng _).2 | exact (iv_rng _).1 | decide)) rfl rfl (Nat.le_of_ble_eq_true rfl) (by decide) rfl rfl 86 rfl (fun rv h1 q63 => ?_)
        obtain ⟨m64, n65, v68, rfl, rfl, I66, K67, pv68, qv68, rv68⟩ := q63
        replace rv68 : (m 86 3).toInt ≤ (m64 86 3).toInt ∧ (m64 86 3).toInt ≤ (m64 86 2).toInt ∧ (m64 86 2).toInt = (m 86 2).toInt ∧ (v68.toInt = 0 ∧ (m64 86 3).toInt = (m 86 3).toInt ∧ (m64 86 4).toInt = -1000 * (1 : Int) - (m 86 3).toInt) ∧ (m64 lb 7).toInt = (m lb 7).toInt := by have q_ := rv68; (try rw [z62] at q_); exact q_
        have K67c := K67
        have w69 : (m64 86 2).toInt = (m 86 2).toInt := congrArg Int32.toInt (K67 86 2 rfl)
        have K67 := Kp.trans (K67.sub (by first | exact wZ_wY | exact wZ_86))
        show PV _ _ _ _ _ _ _ 86 [.ref 86, .int 4, .int (-1)] [.int v68] _
        exact pv_iret (M := mX7_readFactor) dX7_readFactor_86 rfl (iv_nz (by omega) (by omega)) ⟨_, _, _, rfl, rfl, I66, K67, by omega, by omega, ⟨by omega, by omega, by omega, Or.inr ⟨by omega, FLT_of (a := 1) (p := (m 86 3).toInt) (by rw [FA_atom kn91]; exact AT_no kdn (nix_no (by omega))) (by decide) (by omega)⟩, by omega, IFZ.no (by first | decide | omega)⟩⟩
    · have pc10 := rv8.1.resolve_left c10
      have c10 := iv_ne (X := v8.toInt) (Y := 0) c10 rfl (by decide)
      have kd := (k46.resolve_right (fun q => by have q1 := q.1; omega)).2
      refine pv_aload_n (M := mX7_readFactor) 0 dX7_readFactor_49 50 rfl rfl rfl ?_
      refine pv_callv (M := mX7_readFactor) (as := []) (st := []) (kc2 := 0) (ks2 := 0) dX7_readFactor_50 wd563 YX7_readNumber ⟨wd565, wd10⟩ (mk_get (tl86 hT)) rfl rfl (s_X7_readNumber_vz g hT I R (by first | omega | assumption | exact (iv_rng _).2 | exact (iv_rng _).1 | decide) (by first | omega | assumption | exact (iv_rng _).2 | exact (iv_rng _).1 | decide)) rfl rfl (Nat.le_of_ble_eq_true rfl) (by decide) rfl rfl 53 rfl (fun rv h1 q71 => ?_)
      obtain ⟨m72, n73, v76, rfl, rfl, I74, K75, pv76, qv76, rv76⟩ := q71
      replace rv76 : (m 86 3).toInt ≤ (m72 86 3).toInt ∧ (m72 86 3).toInt ≤ (m72 86 2).toInt ∧ (m72 86 2).toInt = (m 86 2).toInt ∧ (RSX (nd (tC m) 5 (m 86 3).toInt) v76.toInt (m72 86 3).toInt (m72 86 4).toInt) ∧ (m72 lb 7).toInt = (m lb 7).toInt ∧ IFZ v76.toInt (CDS lb m m72 1 (cD (Int32.ofInt (ndv (tC m) 5 (m 86 3).toInt 0))) 1) := rv76
      have K75c := K75
      have K75 := Kp.trans (K75.sub (fun _ _ q => q))
      show PV _ _ _ _ _ _ _ 53 [.ref 86, .int 4, pv_U] [.int v76] _
      have k53 := rv76.2.2.2.1
      have k53z := rv76.2.2.2.2.2
      exact pv_iret (M := mX7_readFactor) dX7_readFactor_53 rfl (iv_nz (by omega) (by omega)) ⟨_, _, _, rfl, rfl, I74, K75, by omega, by omega, ⟨by omega, by omega, by omega, (by rw [FA_atom kn91, AT_num kd]; exact k53), by omega, (fun q => by have k1 := RSX_ok k53 q; have k2 := atom_le (t := tC m) (p := (m 86 3).toInt) (by rw [AT_num kd, k1]); rw [AT_num kd, k1] at k2; have k3 : (m 86 3).toInt + 1 ≤ (m72 86 3).toInt := k2; rw [FAD_at kn91, atD_num kd]; exact CDS.wk (IFZ.get k53z q) (by omega) (by omega))⟩⟩
  · have c5 := iv_eq (X := v2.toInt) (Y := 91) c5 rfl (by decide)
    have k91 : tC m (m 86 3).toInt = 91 := by omega
    refine pv_aload_n (M := mX7_readFactor) 0 dX7_readFactor_9 10 rfl rfl rfl ?_
    refine pv_iload_n (M := mX7_readFactor) 1 dX7_readFactor_10 11 rfl rfl rfl ?_
    have z80 : (4 : Int32).toInt = 4 := by decide
    refine pv_callv (M := mX7_readFactor) (as := [.int 4]) (st := []) (kc2 := 0) (ks2 := 0) dX7_readFactor_11 wd551 YX7_open ⟨wd553, wd7⟩ (mk_get (tl86 hT)) rfl rfl (s_X7_open_vz g hT I R 4 (by decide) (by decide) (by first | omega | assumption | exact (iv_rng _).2 | exact (iv_rng _).1 | decide)) rfl rfl (Nat.le_of_ble_eq_true rfl) (by decide) rfl rfl 14 rfl (fun rv h1 q81 => ?_)
    obtain ⟨m82, n83, v86, rfl, rfl, I84, K85, pv86, qv86, rv86⟩ := q81
    replace rv86 : (v86 = 0 ∨ (4 : Int) ≤ 5) ∧ (m 86 3).toInt ≤ (m82 86 3).toInt ∧ (m82 86 3).toInt ≤ (m82 86 2).toInt ∧ (m82 86 2).toInt = (m 86 2).toInt ∧ ((v86.toInt = 1 ∧ (4 : Int) ≤ 5 ∧ (m82 86 3).toInt = (m 86 3).toInt + 1) ∨ (v86.toInt = 0 ∧ 6 ≤ (4 : Int) ∧ (m82 86 4).toInt = -5000 - (m 86 3).toInt ∧ (m82 86 3).toInt = (m 86 3).toInt)) ∧ (m82 lb 7).toInt = (m lb 7).toInt := by have q_ := rv86; (try rw [z80] at q_); exact q_
    have K85c := K85
    have w87 : (m82 86 2).toInt = (m 86 2).toInt := congrArg Int32.toInt (K85 86 2 rfl)
    have K85 := Kp.trans (K85.sub (by first | exact wZ_wY | exact wZ_86))
    show PV _ _ _ _ _ _ _ 14 [.ref 86, .int 4, pv_U] [.int v86] _
    refine pv_if_eq (M := mX7_readFactor) (tgt := 40) dX7_readFactor_14 17 rfl (by decide) (fun c88 => ?_) (fun c88 => ?_)
    · have c88 := iv_eq (X := v86.toInt) (Y := 0) c88 rfl (by decide)
      refine pv_iconst (M := mX7_readFactor) (v := 0) dX7_readFactor_40 41 rfl (by decide) ?_
      have z89 : (0 : Int32).toInt = 0 := by decide
      exact pv_iret (M := mX7_readFactor) dX7_readFactor_41 rfl rfl ⟨_, _, _, rfl, rfl, I84, K85, by decide, by decide, ⟨by omega, by omega, by omega, (by first | exact Or.inr ⟨by decide, FX_deep k91 (by omega)⟩ | exact Or.inr ⟨by decide, FX_cn k91 k27 (fun z => by omega) (by omega)⟩ | exact Or.inl ⟨by decide, FX_co k91 k27 (by omega) (by omega)⟩ | exact Or.inr ⟨by decide, FX_sum k91 (RSX_fl k24 (by omega))⟩ | (exfalso; omega)), by omega, (by first | exact IFZ.is (by rw [FAD_opn k91]; exact CDS.wk (CDS.post (CDS.pre ks17 (IFZ.get k24z (by omega)) (Int.le_refl _)) ks33) (by omega) (by omega)) | exact IFZ.no (by first | decide | omega))⟩⟩
    · have pc88 := rv86.1.resolve_left c88
      have c88 := iv_ne (X := v86.toInt) (Y := 0) c88 rfl (by decide)
      have kt17 : tC m82 = tC m := tC_fz zR2 K85
      have kp17 : (m82 86 3).toInt = (m 86 3).toInt + 1 := by omega
      have ks17 : SAML lb m m82 := SAML.fz zR2 K85c
      have kl17 : (m82 lb 2).toInt = (m lb 2).toInt := congrArg Int32.toInt ks17.1
      refine pv_aload_n (M := mX7_readFactor) 0 dX7_readFactor_17 18 rfl rfl rfl ?_
      refine pv_iload_n (M := mX7_readFactor) 1 dX7_readFactor_18 19 rfl rfl rfl ?_
      refine pv_iconst (M := mX7_readFactor) (v := 1) dX7_readFactor_19 20 rfl (by decide) ?_
      refine pv_iadd (M := mX7_readFactor) (v := 5) dX7_readFactor_20 21 rfl (by decide) ?_
      have z95 : (5 : Int32).toInt = 5 := by decide
      refine pv_callv (M := mX7_readFactor) (as := [.int 5]) (st := []) (kc2 := 0) (ks2 := 0) dX7_readFactor_21 wd539 YX7_readSum ⟨wd541, wd4⟩ (mk_get (tl86 hT)) rfl rfl (s_X7_readSum_v5z g hT I84 R (by first | omega | assumption | exact (iv_rng _).2 | exact (iv_rng _).1 | decide) (TBC_eq hp1 kt17) (by first | omega | assumption | exact (iv_rng _).2 | exact (iv_rng _).1 | decide)) rfl rfl (Nat.le_of_ble_eq_true rfl) (by decide) rfl rfl 24 rfl (fun rv h1 q96 => ?_)
      obtain ⟨m97, n98, v101, rfl, rfl, I99, K100, pv101, qv101, rv101⟩ := q96
      replace rv101 : (m82 86 3).toInt ≤ (m97 86 3).toInt ∧ (m97 86 3).toInt ≤ (m97 86 2).toInt ∧ (m97 86 2).toInt = (m82 86 2).toInt ∧ (RSX (SU (tC m82) 1 (m82 86 3).toInt) v101.toInt (m97 86 3).toInt (m97 86 4).toInt) ∧ (m97 lb 7).toInt = (m82 lb 7).toInt ∧ IFZ v101.toInt (CDS lb m82 m97 5 (SUD (tC m82) 1 (m82 86 3).toInt) ((m97 86 3).toInt - (m82 86 3).toInt)) := by have q_ := rv101; (try rw [z95] at q_); exact q_
      have K100c := K100
      have K100 := K85.trans (K100.sub (fun _ _ q => q))
      show PV _ _ _ _ _ _ _ 24 [.ref 86, .int 4, pv_U] [.int v101] _
      have k24 := rv101.2.2.2.1
      rw [kt17, kp17] at k24
      have k24z := rv101.2.2.2.2.2
      rw [kt17, kp17] at k24z
      refine pv_if_eq (M := mX7_readFactor) (tgt := 40) dX7_readFactor_24 27 rfl (by decide) (fun c106 => ?_) (fun c106 => ?_)
      · have c106 := iv_eq (X := v101.toInt) (Y := 0) c106 rfl (by decide)
        refine pv_iconst (M := mX7_readFactor) (v := 0) dX7_readFactor_40 41 rfl (by decide) ?_
        have z107 : (0 : Int32).toInt = 0 := by decide
        exact pv_iret (M := mX7_readFactor) dX7_readFactor_41 rfl rfl ⟨_, _, _, rfl, rfl, I99, K100, by decide, by decide, ⟨by omega, by omega, by omega, (by first | exact Or.inr ⟨by decide, FX_deep k91 (by omega)⟩ | exact Or.inr ⟨by decide, FX_cn k91 k27 (fun z => by omega) (by omega)⟩ | exact Or.inl ⟨by decide, FX_co k91 k27 (by omega) (by omega)⟩ | exact Or.inr ⟨by decide, FX_sum k91 (RSX_fl k24 (by omega))⟩ | (exfalso; omega)), by omega, (by first | exact IFZ.is (by rw [FAD_opn k91]; exact CDS.wk (CDS.post (CDS.pre ks17 (IFZ.get k24z (by omega)) (Int.le_refl _)) ks33) (by omega) (by omega)) | exact IFZ.no (by first | decide | omega))⟩⟩
      · have c106 := iv_ne (X := v101.toInt) (Y := 0) c106 rfl (by decide)
        have k27 := RSX_ok k24 (by omega)
        have kt27 : tC m97 = tC m := tC_fz zR2 K100
        refine pv_aload_n (M := mX7_readFactor) 0 dX7_readFactor_27 28 rfl rfl rfl ?_
        refine pv_bipush (M := mX7_readFactor) (v := 93) dX7_readFactor_28 30 rfl (by decide) ?_
        have z110 : (93 : Int32).toInt = 93 := by decide
        refine pv_callv (M := mX7_readFactor) (as := [.int 93]) (st := []) (kc2 := 0) (ks2 := 0) dX7_readFactor_30 wd555 YX7_pass ⟨wd557, wd8⟩ (mk_get (tl86 hT)) rfl rfl (s_X7_pass_vz g hT I99 R 93 (by decide) (by decide) (by first | omega | assumption | exact (iv_rng _).2 | exact (iv_rng _).1 | decide)) rfl rfl (Nat.le_of_ble_eq_true rfl) (by decide) rfl rfl 33 rfl (fun rv h1 q111 => ?_)
        obtain ⟨m112, n113, v116, rfl, rfl, I114, K115, pv116, qv116, rv116⟩ := q111
        replace rv116 : (m97 86 3).toInt ≤ (m112 86 3).toInt ∧ (m112 86 3).toInt ≤ (m112 86 2).toInt ∧ (m112 86 2).toInt = (m97 86 2).toInt ∧ ((v116.toInt = 1 ∧ tC m97 (m97 86 3).toInt = (93 : Int) ∧ (m112 86 3).toInt = (m97 86 3).toInt + 1) ∨ (v116.toInt = 0 ∧ tC m97 (m97 86 3).toInt ≠ (93 : Int) ∧ (m112 86 4).toInt = -1000 - (m97 86 3).toInt ∧ (m112 86 3).toInt = (m97 86 3).toInt)) ∧ (m112 lb 7).toInt = (m97 lb 7).toInt := by have q_ := rv116; (try rw [z110] at q_); exact q_
        have K115c := K115
        have w117 : (m112 86 2).toInt = (m97 86 2).toInt := congrArg Int32.toInt (K115 86 2 rfl)
        have K115 := K100.trans (K115.sub (by first | exact wZ_wY | exact wZ_86))
        show PV _ _ _ _ _ _ _ 33 [.ref 86, .int 4, pv_U] [.int v116] _
        have k33 := rv116.2.2.2.1
        rw [kt27] at k33
        have ks33 : SAML lb m97 m112 := SAML.fz zR2 K115c
        refine pv_if_eq (M := mX7_readFactor) (tgt := 40) dX7_readFactor_33 36 rfl (by decide) (fun c121 => ?_) (fun c121 => ?_)
        · have c121 := iv_eq (X := v116.toInt) (Y := 0) c121 rfl (by decide)
          refine pv_iconst (M := mX7_readFactor) (v := 0) dX7_readFactor_40 41 rfl (by decide) ?_
          have z122 : (0 : Int32).toInt = 0 := by decide
          exact pv_iret (M := mX7_readFactor) dX7_readFactor_41 rfl rfl ⟨_, _, _, rfl, rfl, I114, K115, by decide, by decide, ⟨by omega, by omega, by omega, (by first | exact Or.inr ⟨by decide, FX_deep k91 (by omega)⟩ | exact Or.inr ⟨by decide, FX_cn k91 k27 (fun z => by omega) (by omega)⟩ | exact Or.inl ⟨by decide, FX_co k91 k27 (by omega) (by omega)⟩ | exact Or.inr ⟨by decide, FX_sum k91 (RSX_fl k24 (by omega))⟩ | (exfalso; omega)), by omega, (by first | exact IFZ.is (by rw [FAD_opn k91]; exact CDS.wk (CDS.post (CDS.pre ks17 (IFZ.get k24z (by omega)) (Int.le_refl _)) ks33) (by omega) (by omega)) | exact IFZ.no (by first | decide | omega))⟩⟩
        · have c121 := iv_ne (X := v116.toInt) (Y := 0) c121 rfl (by decide)
          refine pv_iconst (M := mX7_readFactor) (v := 1) dX7_readFactor_36 37 rfl (by decide) ?_
          refine pv_goto (M := mX7_readFactor) (tgt := 41) dX7_readFactor_37 (by decide) ?_
          have z123 : (1 : Int32).toInt = 1 := by decide
          exact pv_iret (M := mX7_readFactor) dX7_readFactor_41 rfl rfl ⟨_, _, _, rfl, rfl, I114, K115, by decide, by decide, ⟨by omega, by omega, by omega, (by first | exact Or.inr ⟨by decide, FX_deep k91 (by omega)⟩ | exact Or.inr ⟨by decide, FX_cn k91 k27 (fun z => by omega) (by omega)⟩ | exact Or.inl ⟨by decide, FX_co k91 k27 (by omega) (by omega)⟩ | exact Or.inr ⟨by decide, FX_sum k91 (RSX_fl k24 (by omega))⟩ | (exfalso; omega)), by omega, (by first | exact IFZ.is (by rw [FAD_opn k91]; exact CDS.wk (CDS.post (CDS.pre ks17 (IFZ.get k24z (by omega)) (Int.le_refl _)) ks33) (by omega) (by omega)) | exact IFZ.no (by first | decide | omega))⟩⟩

set_option maxHeartbeats 2000000 in
set_option maxRecDepth 20000 in
theorem s_X7_readTerm_v4z (g : pv_G) {T : List mv_T} {m : Nat → Nat → Int32} {n : Nat → Nat → Int64} {r : Nat → Value} {la lb : Nat} (hT : TX T) (I : IV BB m) (R : RX T r la lb) (hp0 : (m 86 3).toInt ≤ (m 86 2).toInt) (hp1 : TBC m) (hp2 : (m lb 2).toInt ≤ (m 86 3).toInt) : PM g mX7_readTerm yX7_readTerm (sqI T BB (wZ lb) r m 0 1 (fun m' v => (m 86 3).toInt ≤ (m' 86 3).toInt ∧ (m' 86 3).toInt ≤ (m' 86 2).toInt ∧ (m' 86 2).toInt = (m 86 2).toInt ∧ ((v.toInt = 0 ∨ (m 86 3).toInt + 1 ≤ (m' 86 3).toInt) ∧ TRX (SU (tC m) 2 (m 86 3).toInt) (LSu (tC m) 2) (fun a => isT (tC m a) = false) v.toInt (m' 86 3).toInt (m' 86 4).toInt) ∧ (m' lb 7).toInt = (m lb 7).toInt ∧ IFZ v.toInt (TMZ (tC m) 2 lb m m' (m 86 3).toInt (m' 86 3).toInt))) 12 0 0 [.ref 86, .int 4] (mk T m n r) := by
  have Kp : fr (wZ lb) m m := fr.rf
  have R0 := R
  have zR := R.2.2.2.2.1.1
  have zR2 := R.2.2.2.2.2.1
  have z99 : 0 ≤ (m 86 3).toInt ∧ (m 86 3).toInt ≤ 160 := I 86 3
  have z100 : 0 ≤ (m 86 2).toInt ∧ (m 86 2).toInt ≤ 160 := I 86 2
  refine PM.of 2 (lo := [.ref 86, .int 4, pv_U, pv_U]) rfl (by decide) rfl rfl (Nat.le_of_ble_eq_true rfl) ?_
  have kTX := TXT_C I
  refine pv_aload_n (M := mX7_readTerm) 0 dX7_readTerm_0 1 rfl rfl rfl ?_
  refine pv_iload_n (M := mX7_readTerm) 1 dX7_readTerm_1 2 rfl rfl rfl ?_
  have z2 : (4 : Int32).toInt = 4 := by decide
  refine pv_callv (M := mX7_readTerm) (as := [.int 4]) (st := []) (kc2 := 0) (ks2 := 0) dX7_readTerm_2 wd547 YX7_readFactor ⟨wd549, wd6⟩ (mk_get (tl86 hT)) rfl rfl (s_X7_readFactor_v4z g hT I R (by first | omega | assumption | exact (iv_rng _).2 | exact (iv_rng _).1 | decide) hp1 (by first | omega | assumption | exact (iv_rng _).2 | exact (iv_rng _).1 | decide)) rfl rfl (Nat.le_of_ble_eq_true rfl) (by decide) rfl rfl 5 rfl (fun rv h1 q3 => ?_)
  obtain ⟨m4, n5, v8, rfl, rfl, I6, K7, pv8, qv8, rv8⟩ := q3
  replace rv8 : (m 86 3).toInt ≤ (m4 86 3).toInt ∧ (m4 86 3).toInt ≤ (m4 86 2).toInt ∧ (m4 86 2).toInt = (m 86 2).toInt ∧ (RSX (FA (tC m) 2 (m 86 3).toInt) v8.toInt (m4 86 3).toInt (m4 86 4).toInt) ∧ (m4 lb 7).toInt = (m lb 7).toInt ∧ IFZ v8.toInt (CDS lb m m4 5 (FAD (tC m) 2 (m 86 3).toInt) ((m4 86 3).toInt - (m 86 3).toInt)) := by have q_ := rv8; (try rw [z2] at q_); exact q_
  have K7c := K7
  have K7 := Kp.trans (K7.sub (fun _ _ q => q))
  show PV _ _ _ _ _ _ _ 5 [.ref 86, .int 4, pv_U, pv_U] [.int v8] _
  have k5 := rv8.2.2.2.1
  have k5z0 := rv8.2.2.2.2.2
  refine pv_if_ne (M := mX7_readTerm) (tgt := 10) dX7_readTerm_5 8 rfl (by decide) (fun c11 => ?_) (fun c11 => ?_)
  · have c11 := iv_ne (X := v8.toInt) (Y := 0) c11 rfl (by decide)
    have kF0 := RSX_ok k5 (by omega)
    have kF1 := FA_le 2 (m 86 3).toInt (by rw [kF0])
    rw [kF0] at kF1
    have k5z := IFZ.get k5z0 (by omega)
    refine pv_iconst (M := mX7_readTerm) (v := 0) dX7_readTerm_10 11 rfl (by decide) ?_
    refine pv_istore_n (M := mX7_readTerm) 2 (lo2 := [.ref 86, .int 4, .int 0, pv_U]) dX7_readTerm_11 12 rfl rfl (by decide) rfl rfl ?_
    have lp22 : ∀ (fuel21 : Nat) (y16 : Int32) (m17 : Nat → Nat → Int32) (n18 : Nat → Nat → Int64), (0 ≤ y16.toInt) → (y16.toInt ≤ 160) → ((m17 86 3).toInt ≤ (m17 86 2).toInt) → ((m17 86 2).toInt = (m 86 2).toInt) → ((m17 lb 7).toInt = (m lb 7).toInt) → ((m 86 3).toInt + 1 + 2 * y16.toInt ≤ (m17 86 3).toInt) → (SU (tC m) 2 (m 86 3).toInt = LSu (tC m) 2 (m17 86 3).toInt) → (TMZ (tC m) 2 lb m m17 (m 86 3).toInt (m17 86 3).toInt) → IV BB m17 → fr (wZ lb) m m17 → ((160 - y16.toInt) : Int).toNat < fuel21 → PV none g mX7_readTerm (sqI T BB (wZ lb) r m 0 1 (fun m' v => (m 86 3).toInt ≤ (m' 86 3).toInt ∧ (m' 86 3).toInt ≤ (m' 86 2).toInt ∧ (m' 86 2).toInt = (m 86 2).toInt ∧ ((v.toInt = 0 ∨ (m 86 3).toInt + 1 ≤ (m' 86 3).toInt) ∧ TRX (SU (tC m) 2 (m 86 3).toInt) (LSu (tC m) 2) (fun a => isT (tC m a) = false) v.toInt (m' 86 3).toInt (m' 86 4).toInt) ∧ (m' lb 7).toInt = (m lb 7).toInt ∧ IFZ v.toInt (TMZ (tC m) 2 lb m m' (m 86 3).toInt (m' 86 3).toInt))) 12 0 0 12 [.ref 86, .int 4, .int y16, pv_U] [] (mk T m17 n18 r) := by
      intro fuel21
      induction fuel21 with
      | zero => intro y16 m17 n18 b24 b25 b26 b27 b28 b29 b30 b31 I19 K20 z32; omega
      | succ fuel21 ih23 =>
        intro y16 m17 n18 b24 b25 b26 b27 b28 b29 b30 b31 I19 K20 z32
        have z33 : 0 ≤ (m17 86 3).toInt ∧ (m17 86 3).toInt ≤ 160 := I19 86 3
        have z34 : 0 ≤ (m17 86 2).toInt ∧ (m17 86 2).toInt ≤ 160 := I19 86 2
        have kgs := (show SU (tC m) 2 (m 86 3).toInt = LSu (tC m) 2 (m17 86 3).toInt by assumption)
        have kt12 : tC m17 = tC m := tC_fz zR2 K20
        have kgz := (show TMZ (tC m) 2 lb m m17 (m 86 3).toInt (m17 86 3).toInt by assumption)
        have kgl := TMZ_b kgz
        refine pv_iload_n (M := mX7_readTerm) 2 dX7_readTerm_12 13 rfl rfl rfl ?_
        refine pv_sipush (M := mX7_readTerm) (v := 160) dX7_readTerm_13 16 rfl (by decide) ?_
        refine pv_icmp_ge (M := mX7_readTerm) (tgt := 66) dX7_readTerm_16 19 rfl (by decide) (fun c39 => ?_) (fun c39 => ?_)
        · have c39 := iv_le (X := 160) (Y := y16.toInt) c39 (by decide) rfl
          refine pv_iconst (M := mX7_readTerm) (v := 1) dX7_readTerm_66 67 rfl (by decide) ?_
          have z40 : (1 : Int32).toInt = 1 := by decide
          exact pv_iret (M := mX7_readTerm) dX7_readTerm_67 rfl rfl ⟨_, _, _, rfl, rfl, I19, K20, by decide, by decide, ⟨by omega, by omega, by omega, ⟨Or.inr (by omega), Or.inl ⟨by decide, kgs, by first | (exact (k23.resolve_left (fun q => by have q1 := q.1; omega)).2) | (exfalso; omega)⟩⟩, by omega, IFZ.is kgz⟩⟩
        · have c39 := iv_nle (X := 160) (Y := y16.toInt) c39 (by decide) rfl
          refine pv_aload_n (M := mX7_readTerm) 0 dX7_readTerm_19 20 rfl rfl rfl ?_
          refine pv_callv (M := mX7_readTerm) (as := []) (st := []) (kc2 := 0) (ks2 := 0) dX7_readTerm_20 wd654 YX7_timesAhead ⟨wd656, wd11⟩ (mk_get (tl86 hT)) rfl rfl (s_X7_timesAhead_vx g hT I19 R) rfl rfl (Nat.le_of_ble_eq_true rfl) (by decide) rfl rfl 23 rfl (fun rv h1 q41 => ?_)
          obtain ⟨v42, rfl, rfl, pv42, qv42, rv42⟩ := q41
          replace rv42 : (v42 = 0 ∨ (m17 86 3).toInt < (m17 86 2).toInt) ∧ ((v42.toInt = 1 ∧ isT (tC m17 (m17 86 3).toInt) = true) ∨ (v42.toInt = 0 ∧ isT (tC m17 (m17 86 3).toInt) = false)) := rv42
          show PV _ _ _ _ _ _ _ 23 [.ref 86, .int 4, .int y16, pv_U] [.int v42] _
          have k23 := rv42.2
          rw [kt12] at k23
          refine pv_if_eq (M := mX7_readTerm) (tgt := 66) dX7_readTerm_23 26 rfl (by decide) (fun c45 => ?_) (fun c45 => ?_)
          · have c45 := iv_eq (X := v42.toInt) (Y := 0) c45 rfl (by decide)
            refine pv_iconst (M := mX7_readTerm) (v := 1) dX7_readTerm_66 67 rfl (by decide) ?_
            have z46 : (1 : Int32).toInt = 1 := by decide
            exact pv_iret (M := mX7_readTerm) dX7_readTerm_67 rfl rfl ⟨_, _, _, rfl, rfl, I19, K20, by decide, by decide, ⟨by omega, by omega, by omega, ⟨Or.inr (by omega), Or.inl ⟨by decide, kgs, by first | (exact (k23.resolve_left (fun q => by have q1 := q.1; omega)).2) | (exfalso; omega)⟩⟩, by omega, IFZ.is kgz⟩⟩
          · have pc45 := rv42.1.resolve_left c45
            have c45 := iv_ne (X := v42.toInt) (Y := 0) c45 rfl (by decide)
            have kT := (k23.resolve_right (fun q => by have q1 := q.1; omega)).2
            refine pv_aload_n (M := mX7_readTerm) 0 dX7_readTerm_26 27 rfl rfl rfl ?_
            refine pv_callv (M := mX7_readTerm) (as := []) (st := []) (kc2 := 0) (ks2 := 0) dX7_readTerm_27 wd527 YX7_peek ⟨wd529, wd2⟩ (mk_get (tl86 hT)) rfl rfl (s_X7_peek_vx g hT I19 R) rfl rfl (Nat.le_of_ble_eq_true rfl) (by decide) rfl rfl 30 rfl (fun rv h1 q48 => ?_)
            obtain ⟨v49, rfl, rfl, pv49, qv49, rv49⟩ := q48
            replace rv49 : v49.toInt = tC m17 (m17 86 3).toInt ∧ (v49.toInt = -1 ∨ (m17 86 3).toInt < (m17 86 2).toInt) := rv49
            show PV _ _ _ _ _ _ _ 30 [.ref 86, .int 4, .int y16, pv_U] [.int v49] _
            have k30 : v49.toInt = tC m (m17 86 3).toInt := by rw [← kt12]; exact rv49.1
            refine pv_istore_n (M := mX7_readTerm) 3 (lo2 := [.ref 86, .int 4, .int y16, .int v49]) dX7_readTerm_30 31 rfl rfl (by decide) rfl rfl ?_
            refine pv_aload_n (M := mX7_readTerm) 0 dX7_readTerm_31 32 rfl rfl rfl ?_
            refine pv_dup (M := mX7_readTerm) dX7_readTerm_32 33 rfl rfl ?_
            refine iv_get (M := mX7_readTerm) (l1 := 0) (l2 := 160) dX7_readTerm_33 FX7 3 wd283 (by decide) (tl86 hT) rfl I19 rfl 36 rfl (fun v51 ev51 pv51 qv51 => ?_)
            have wv51 : v51.toInt = (m17 86 3).toInt := congrArg Int32.toInt ev51
            refine pv_iconst (M := mX7_readTerm) (v := 1) dX7_readTerm_36 37 rfl (by decide) ?_
            refine iv_iadd (M := mX7_readTerm) (X := v51.toInt) (Y := 1) dX7_readTerm_37 38 rfl rfl (by decide) (by omega) (by omega) (fun v52 ev52 => ?_)
            refine iv_put (M := mX7_readTerm) (l1 := 0) (l2 := 160) dX7_readTerm_38 FX7 3 wd283 (by decide) rfl (tl86 hT) rfl rfl rfl I19 rfl (by omega) (by omega) 41 rfl (fun m53 e56 I54 => ?_)
            have K55 := K20.set e56 (by first | rfl | decide)
            have w57 : (m53 86 3).toInt = v52.toInt := by rw [e56, up2_eq]
            have w58 : (m53 86 2).toInt = (m17 86 2).toInt := by rw [e56, up2_ne (by omega)]
            have w59 : (m53 86 4).toInt = (m17 86 4).toInt := by rw [e56, up2_ne (by omega)]
            have w60 : (m53 lb 7).toInt = (m17 lb 7).toInt := by rw [e56, up2_ne (by omega)]
            have w61 : (m53 lb 2).toInt = (m17 lb 2).toInt := by rw [e56, up2_ne (by omega)]
            have kt41 : tC m53 = tC m := tC_fz zR2 K55
            have kp41 : (m53 86 3).toInt = (m17 86 3).toInt + 1 := by omega
            have ks41 : SAML lb m17 m53 := SAML.set zR2 e56
            have kl41 : (m53 lb 2).toInt = (m17 lb 2).toInt := congrArg Int32.toInt ks41.1
            refine pv_aload_n (M := mX7_readTerm) 0 dX7_readTerm_41 42 rfl rfl rfl ?_
            refine pv_iload_n (M := mX7_readTerm) 1 dX7_readTerm_42 43 rfl rfl rfl ?_
            have z66 : (4 : Int32).toInt = 4 := by decide
            refine pv_callv (M := mX7_readTerm) (as := [.int 4]) (st := []) (kc2 := 0) (ks2 := 0) dX7_readTerm_43 wd547 YX7_readFactor ⟨wd549, wd6⟩ (mk_get (tl86 hT)) rfl rfl (s_X7_readFactor_v4z g hT I54 R (by first | omega | assumption | exact (iv_rng _).2 | exact (iv_rng _).1 | decide) (TBC_eq hp1 kt41) (by first | omega | assumption | exact (iv_rng _).2 | exact (iv_rng _).1 | decide)) rfl rfl (Nat.le_of_ble_eq_true rfl) (by decide) rfl rfl 46 rfl (fun rv h1 q67 => ?_)
            obtain ⟨m68, n69, v72, rfl, rfl, I70, K71, pv72, qv72, rv72⟩ := q67
            replace rv72 : (m53 86 3).toInt ≤ (m68 86 3).toInt ∧ (m68 86 3).toInt ≤ (m68 86 2).toInt ∧ (m68 86 2).toInt = (m53 86 2).toInt ∧ (RSX (FA (tC m53) 2 (m53 86 3).toInt) v72.toInt (m68 86 3).toInt (m68 86 4).toInt) ∧ (m68 lb 7).toInt = (m53 lb 7).toInt ∧ IFZ v72.toInt (CDS lb m53 m68 5 (FAD (tC m53) 2 (m53 86 3).toInt) ((m68 86 3).toInt - (m53 86 3).toInt)) := by have q_ := rv72; (try rw [z66] at q_); exact q_
            have K71c := K71
            have K71 := K55.trans (K71.sub (fun _ _ q => q))
            show PV _ _ _ _ _ _ _ 46 [.ref 86, .int 4, .int y16, .int v49] [.int v72] _
            have k46 := rv72.2.2.2.1
            rw [kt41, kp41] at k46
            have k46z0 := rv72.2.2.2.2.2
            rw [kt41, kp41] at k46z0
            refine pv_if_ne (M := mX7_readTerm) (tgt := 51) dX7_readTerm_46 49 rfl (by decide) (fun c77 => ?_) (fun c77 => ?_)
            · have c77 := iv_ne (X := v72.toInt) (Y := 0) c77 rfl (by decide)
              have kF4 := RSX_ok k46 (by omega)
              have kF5 := FA_le 2 ((m17 86 3).toInt + 1) (by rw [kF4])
              rw [kF4] at kF5
              have k46z := IFZ.get k46z0 (by omega)
              have k46b := CDS_b k46z
              refine pv_aload_n (M := mX7_readTerm) 0 dX7_readTerm_51 52 rfl rfl rfl ?_
              refine mv_get (M := mX7_readTerm) (v := .ref lb) dX7_readTerm_52 FX7 1 wd281 (by decide) (tl86 hT) rfl R.2.2.2.1 55 rfl ?_
              refine pv_iload_n (M := mX7_readTerm) 3 dX7_readTerm_55 56 rfl rfl rfl ?_
              refine pv_iconst (M := mX7_readTerm) (v := 0) dX7_readTerm_56 57 rfl (by decide) ?_
              have z83 : (0 : Int32).toInt = 0 := by decide
              refine pv_callv (M := mX7_readTerm) (as := [.int v49, .int 0]) (st := []) (kc2 := 0) (ks2 := 0) dX7_readTerm_57 wd567 YX6_emit ⟨wd568, wd569⟩ (mk_get R.2.2.2.2.2.2.1) rfl rfl (s_X6_emit_vz g hT I70 lb R.2.2.2.2.2 v49 0 (by decide) (by decide)) rfl rfl (Nat.le_of_ble_eq_true rfl) (by decide) rfl rfl 60 rfl (fun rv h1 q84 => ?_)
              obtain ⟨m85, n86, rfl, rfl, I87, K88, rm85⟩ := q84
              replace rm85 : (m85 lb 7).toInt = (m68 lb 7).toInt ∧ ((m68 lb 2).toInt < 160 → EMT lb m68 m85 v49.toInt (0 : Int32)) := by have q_ := rm85; (try rw [z83] at q_); exact q_
              have K88c := K88
              have w89 : (m85 86 3).toInt = (m68 86 3).toInt := congrArg Int32.toInt (K88 86 3 (wY_out (by omega) (by omega) (by omega)))
              have w90 : (m85 86 2).toInt = (m68 86 2).toInt := congrArg Int32.toInt (K88 86 2 (wY_out (by omega) (by omega) (by omega)))
              have w91 : (m85 86 4).toInt = (m68 86 4).toInt := congrArg Int32.toInt (K88 86 4 (wY_out (by omega) (by omega) (by omega)))
              have K88 := K71.trans (K88.sub (by first | exact wZ_wY | exact wZ_86))
              show PV _ _ _ _ _ _ _ 60 [.ref 86, .int 4, .int y16, .int v49] [] _
              have k60 := rm85.2 (by omega)
              refine iv_inc (M := mX7_readTerm) (C := 1) dX7_readTerm_60 63 rfl rfl (by decide) rfl rfl (by decide) (by omega) (by omega) (fun v93 ev93 => ?_)
              show PV _ _ _ _ _ _ _ 63 [.ref 86, .int 4, .int v93, .int v49] [] _
              refine pv_goto (M := mX7_readTerm) (tgt := 12) dX7_readTerm_63 (by decide) ?_
              refine pv_fg (lo2 := [.ref 86, .int 4, .int v93, pv_U]) ⟨Or.inr rfl, ⟨Or.inr rfl, ⟨Or.inr rfl, ⟨Or.inl rfl, trivial⟩⟩⟩⟩ ?_
              have kbs : SU (tC m) 2 (m 86 3).toInt = LSu (tC m) 2 (m85 86 3).toInt := by rw [kgs, LSu_ok kTX (by omega) (isT_S kT) kF4]; congr 1; omega
              have kbz : TMZ (tC m) 2 lb m m85 (m 86 3).toInt (m85 86 3).toInt := TMZ_s kgz kTX (by omega) kT (by rw [kF4]; congr 1; omega) ks41 k46z k60 (by omega) (by omega)
              exact ih23 v93 m85 n86 (by first | omega | assumption | exact (iv_rng _).2 | exact (iv_rng _).1 | decide) (by first | omega | assumption | exact (iv_rng _).2 | exact (iv_rng _).1 | decide) (by first | omega | assumption | (show (m85 86 3).toInt ≤ (m85 86 2).toInt; omega) | decide) (by first | omega | assumption | (show (m85 86 2).toInt = (m 86 2).toInt; omega) | decide) (by first | omega | assumption | (show (m85 lb 7).toInt = (m lb 7).toInt; omega) | decide) (by first | omega | assumption | (show (m 86 3).toInt + 1 + 2 * v93.toInt ≤ (m85 86 3).toInt; omega) | decide) kbs kbz I87 K88 (by omega)
            · have c77 := iv_eq (X := v72.toInt) (Y := 0) c77 rfl (by decide)
              refine pv_iconst (M := mX7_readTerm) (v := 0) dX7_readTerm_49 50 rfl (by decide) ?_
              have z96 : (0 : Int32).toInt = 0 := by decide
              exact pv_iret (M := mX7_readTerm) dX7_readTerm_50 rfl rfl ⟨_, _, _, rfl, rfl, I70, K71, by decide, by decide, ⟨by omega, by omega, by omega, ⟨Or.inl (by decide), Or.inr ⟨by decide, by rw [kgs]; exact LSu_fl kTX (by omega) (isT_S kT) (RSX_fl k46 (by omega))⟩⟩, by omega, IFZ.no (by first | decide | omega)⟩⟩
    have z97 : (0 : Int32).toInt = 0 := by decide
    exact lp22 (((160 - 0) : Int).toNat + 1) 0 m4 n5 (by first | omega | assumption | exact (iv_rng _).2 | exact (iv_rng _).1 | decide) (by first | omega | assumption | exact (iv_rng _).2 | exact (iv_rng _).1 | decide) (by first | omega | assumption | (show (m4 86 3).toInt ≤ (m4 86 2).toInt; omega) | decide) (by first | omega | assumption | (show (m4 86 2).toInt = (m 86 2).toInt; omega) | decide) (by first | omega | assumption | (show (m4 lb 7).toInt = (m lb 7).toInt; omega) | decide) (by first | omega | assumption | (show (m 86 3).toInt + 1 + 2 * 0 ≤ (m4 86 3).toInt; omega) | decide) (SU_ok kF0) (TMZ_0 k5z kF0) I6 K7 (by omega)
  · have c11 := iv_eq (X := v8.toInt) (Y := 0) c11 rfl (by decide)
    refine pv_iconst (M := mX7_readTerm) (v := 0) dX7_readTerm_8 9 rfl (by decide) ?_
    have z98 : (0 : Int32).toInt = 0 := by decide
    exact pv_iret (M := mX7_readTerm) dX7_readTerm_9 rfl rfl ⟨_, _, _, rfl, rfl, I6, K7, by decide, by decide, ⟨by omega, by omega, by omega, ⟨Or.inl (by decide), Or.inr ⟨by decide, SU_fl (RSX_fl k5 (by omega))⟩⟩, by omega, IFZ.no (by first | decide | omega)⟩⟩

set_option maxHeartbeats 2000000 in
set_option maxRecDepth 20000 in
theorem s_X7_readSum_v4z (g : pv_G) {T : List mv_T} {m : Nat → Nat → Int32} {n : Nat → Nat → Int64} {r : Nat → Value} {la lb : Nat} (hT : TX T) (I : IV BB m) (R : RX T r la lb) (hp0 : (m 86 3).toInt ≤ (m 86 2).toInt) (hp1 : TBC m) (hp2 : (m lb 2).toInt ≤ (m 86 3).toInt) : PM g mX7_readSum yX7_readSum (sqI T BB (wZ lb) r m 0 1 (fun m' v => (m 86 3).toInt ≤ (m' 86 3).toInt ∧ (m' 86 3).toInt ≤ (m' 86 2).toInt ∧ (m' 86 2).toInt = (m 86 2).toInt ∧ (RSX (SU (tC m) 2 (m 86 3).toInt) v.toInt (m' 86 3).toInt (m' 86 4).toInt) ∧ (m' lb 7).toInt = (m lb 7).toInt ∧ IFZ v.toInt (CDS lb m m' 7 (SUD (tC m) 2 (m 86 3).toInt) ((m' 86 3).toInt - (m 86 3).toInt)))) 13 0 0 [.ref 86, .int 4] (mk T m n r) := by
  have Kp : fr (wZ lb) m m := fr.rf
  have R0 := R
  have zR := R.2.2.2.2.1.1
  have zR2 := R.2.2.2.2.2.1
  have z158 : 0 ≤ (m 86 3).toInt ∧ (m 86 3).toInt ≤ 160 := I 86 3
  have z159 : 0 ≤ (m 86 2).toInt ∧ (m 86 2).toInt ≤ 160 := I 86 2
  refine PM.of 2 (lo := [.ref 86, .int 4, pv_U, pv_U]) rfl (by decide) rfl rfl (Nat.le_of_ble_eq_true rfl) ?_
  have kTX := TXT_C I
  refine pv_aload_n (M := mX7_readSum) 0 dX7_readSum_0 1 rfl rfl rfl ?_
  refine pv_iload_n (M := mX7_readSum) 1 dX7_readSum_1 2 rfl rfl rfl ?_
  have z2 : (4 : Int32).toInt = 4 := by decide
  refine pv_callv (M := mX7_readSum) (as := [.int 4]) (st := []) (kc2 := 0) (ks2 := 0) dX7_readSum_2 wd543 YX7_readTerm ⟨wd545, wd5⟩ (mk_get (tl86 hT)) rfl rfl (s_X7_readTerm_v4z g hT I R (by first | omega | assumption | exact (iv_rng _).2 | exact (iv_rng _).1 | decide) hp1 (by first | omega | assumption | exact (iv_rng _).2 | exact (iv_rng _).1 | decide)) rfl rfl (Nat.le_of_ble_eq_true rfl) (by decide) rfl rfl 5 rfl (fun rv h1 q3 => ?_)
  obtain ⟨m4, n5, v8, rfl, rfl, I6, K7, pv8, qv8, rv8⟩ := q3
  replace rv8 : (m 86 3).toInt ≤ (m4 86 3).toInt ∧ (m4 86 3).toInt ≤ (m4 86 2).toInt ∧ (m4 86 2).toInt = (m 86 2).toInt ∧ ((v8.toInt = 0 ∨ (m 86 3).toInt + 1 ≤ (m4 86 3).toInt) ∧ TRX (SU (tC m) 2 (m 86 3).toInt) (LSu (tC m) 2) (fun a => isT (tC m a) = false) v8.toInt (m4 86 3).toInt (m4 86 4).toInt) ∧ (m4 lb 7).toInt = (m lb 7).toInt ∧ IFZ v8.toInt (TMZ (tC m) 2 lb m m4 (m 86 3).toInt (m4 86 3).toInt) := by have q_ := rv8; (try rw [z2] at q_); exact q_
  have K7c := K7
  have K7 := Kp.trans (K7.sub (fun _ _ q => q))
  show PV _ _ _ _ _ _ _ 5 [.ref 86, .int 4, pv_U, pv_U] [.int v8] _
  have k5 := rv8.2.2.2.1.2
  have k5p := rv8.2.2.2.1.1
  have k5z0 := rv8.2.2.2.2.2
  refine pv_if_ne (M := mX7_readSum) (tgt := 10) dX7_readSum_5 8 rfl (by decide) (fun c12 => ?_) (fun c12 => ?_)
  · have c12 := iv_ne (X := v8.toInt) (Y := 0) c12 rfl (by decide)
    have k5z := IFZ.get k5z0 (by omega)
    refine pv_iconst (M := mX7_readSum) (v := 0) dX7_readSum_10 11 rfl (by decide) ?_
    refine pv_istore_n (M := mX7_readSum) 2 (lo2 := [.ref 86, .int 4, .int 0, pv_U]) dX7_readSum_11 12 rfl rfl (by decide) rfl rfl ?_
    have lp20 : ∀ (fuel19 : Nat) (y14 : Int32) (m15 : Nat → Nat → Int32) (n16 : Nat → Nat → Int64), (0 ≤ y14.toInt) → (y14.toInt ≤ 160) → ((m15 86 3).toInt ≤ (m15 86 2).toInt) → ((m15 86 2).toInt = (m 86 2).toInt) → ((m15 lb 7).toInt = (m lb 7).toInt) → ((m 86 3).toInt + 1 + 2 * y14.toInt ≤ (m15 86 3).toInt) → (SU (tC m) 2 (m 86 3).toInt = LSu (tC m) 2 (m15 86 3).toInt) → (isT (tC m (m15 86 3).toInt) = false) → (SMZ (tC m) 2 lb m m15 (m 86 3).toInt (m15 86 3).toInt) → IV BB m15 → fr (wZ lb) m m15 → ((160 - y14.toInt) : Int).toNat < fuel19 → PV none g mX7_readSum (sqI T BB (wZ lb) r m 0 1 (fun m' v => (m 86 3).toInt ≤ (m' 86 3).toInt ∧ (m' 86 3).toInt ≤ (m' 86 2).toInt ∧ (m' 86 2).toInt = (m 86 2).toInt ∧ (RSX (SU (tC m) 2 (m 86 3).toInt) v.toInt (m' 86 3).toInt (m' 86 4).toInt) ∧ (m' lb 7).toInt = (m lb 7).toInt ∧ IFZ v.toInt (CDS lb m m' 7 (SUD (tC m) 2 (m 86 3).toInt) ((m' 86 3).toInt - (m 86 3).toInt)))) 13 0 0 12 [.ref 86, .int 4, .int y14, pv_U] [] (mk T m15 n16 r) := by
      intro fuel19
      induction fuel19 with
      | zero => intro y14 m15 n16 b22 b23 b24 b25 b26 b27 b28 b29 b30 I17 K18 z31; omega
      | succ fuel19 ih21 =>
        intro y14 m15 n16 b22 b23 b24 b25 b26 b27 b28 b29 b30 I17 K18 z31
        have z32 : 0 ≤ (m15 86 3).toInt ∧ (m15 86 3).toInt ≤ 160 := I17 86 3
        have z33 : 0 ≤ (m15 86 2).toInt ∧ (m15 86 2).toInt ≤ 160 := I17 86 2
        have kgs := (show SU (tC m) 2 (m 86 3).toInt = LSu (tC m) 2 (m15 86 3).toInt by assumption)
        have kgt := (show isT (tC m (m15 86 3).toInt) = false by assumption)
        have kt12 : tC m15 = tC m := tC_fz zR2 K18
        have kgz := (show SMZ (tC m) 2 lb m m15 (m 86 3).toInt (m15 86 3).toInt by assumption)
        have kgl := SMZ_b kgz
        refine pv_iload_n (M := mX7_readSum) 2 dX7_readSum_12 13 rfl rfl rfl ?_
        refine pv_sipush (M := mX7_readSum) (v := 160) dX7_readSum_13 16 rfl (by decide) ?_
        refine pv_icmp_ge (M := mX7_readSum) (tgt := 77) dX7_readSum_16 19 rfl (by decide) (fun c39 => ?_) (fun c39 => ?_)
        · have c39 := iv_le (X := 160) (Y := y14.toInt) c39 (by decide) rfl
          refine pv_iconst (M := mX7_readSum) (v := 1) dX7_readSum_77 78 rfl (by decide) ?_
          have z40 : (1 : Int32).toInt = 1 := by decide
          exact pv_iret (M := mX7_readSum) dX7_readSum_78 rfl rfl ⟨_, _, _, rfl, rfl, I17, K18, by decide, by decide, ⟨by omega, by omega, by omega, (by first | exact Or.inl ⟨by decide, by rw [kgs]; exact LSu_no (isS_n kgt (by omega) (by omega))⟩ | (exfalso; omega)), by omega, (by first | exact IFZ.is (SMZ_e kgz (isS_n kgt (by omega) (by omega))) | exact IFZ.no (by omega))⟩⟩
        · have c39 := iv_nle (X := 160) (Y := y14.toInt) c39 (by decide) rfl
          refine pv_aload_n (M := mX7_readSum) 0 dX7_readSum_19 20 rfl rfl rfl ?_
          refine pv_callv (M := mX7_readSum) (as := []) (st := []) (kc2 := 0) (ks2 := 0) dX7_readSum_20 wd527 YX7_peek ⟨wd529, wd2⟩ (mk_get (tl86 hT)) rfl rfl (s_X7_peek_vx g hT I17 R) rfl rfl (Nat.le_of_ble_eq_true rfl) (by decide) rfl rfl 23 rfl (fun rv h1 q41 => ?_)
          obtain ⟨v42, rfl, rfl, pv42, qv42, rv42⟩ := q41
          replace rv42 : v42.toInt = tC m15 (m15 86 3).toInt ∧ (v42.toInt = -1 ∨ (m15 86 3).toInt < (m15 86 2).toInt) := rv42
          show PV _ _ _ _ _ _ _ 23 [.ref 86, .int 4, .int y14, pv_U] [.int v42] _
          have k23 := rv42.1
          have k23b := rv42.2
          rw [kt12] at k23
          refine pv_bipush (M := mX7_readSum) (v := 43) dX7_readSum_23 25 rfl (by decide) ?_
          refine pv_icmp_eq (M := mX7_readSum) (tgt := 37) dX7_readSum_25 28 rfl (by decide) (fun c46 => ?_) (fun c46 => ?_)
          · have c46 := iv_eq (X := v42.toInt) (Y := 43) c46 rfl (by decide)
            have kS : isS (tC m (m15 86 3).toInt) = true := isS_y (by omega)
            refine pv_aload_n (M := mX7_readSum) 0 dX7_readSum_37 38 rfl rfl rfl ?_
            refine pv_callv (M := mX7_readSum) (as := []) (st := []) (kc2 := 0) (ks2 := 0) dX7_readSum_38 wd527 YX7_peek ⟨wd529, wd2⟩ (mk_get (tl86 hT)) rfl rfl (s_X7_peek_vx g hT I17 R) rfl rfl (Nat.le_of_ble_eq_true rfl) (by decide) rfl rfl 41 rfl (fun rv h1 q48 => ?_)
            obtain ⟨v49, rfl, rfl, pv49, qv49, rv49⟩ := q48
            replace rv49 : v49.toInt = tC m15 (m15 86 3).toInt ∧ (v49.toInt = -1 ∨ (m15 86 3).toInt < (m15 86 2).toInt) := rv49
            show PV _ _ _ _ _ _ _ 41 [.ref 86, .int 4, .int y14, pv_U] [.int v49] _
            have k41 : v49.toInt = tC m (m15 86 3).toInt := by rw [← kt12]; exact rv49.1
            refine pv_istore_n (M := mX7_readSum) 3 (lo2 := [.ref 86, .int 4, .int y14, .int v49]) dX7_readSum_41 42 rfl rfl (by decide) rfl rfl ?_
            refine pv_aload_n (M := mX7_readSum) 0 dX7_readSum_42 43 rfl rfl rfl ?_
            refine pv_dup (M := mX7_readSum) dX7_readSum_43 44 rfl rfl ?_
            refine iv_get (M := mX7_readSum) (l1 := 0) (l2 := 160) dX7_readSum_44 FX7 3 wd283 (by decide) (tl86 hT) rfl I17 rfl 47 rfl (fun v51 ev51 pv51 qv51 => ?_)
            have wv51 : v51.toInt = (m15 86 3).toInt := congrArg Int32.toInt ev51
            refine pv_iconst (M := mX7_readSum) (v := 1) dX7_readSum_47 48 rfl (by decide) ?_
            refine iv_iadd (M := mX7_readSum) (X := v51.toInt) (Y := 1) dX7_readSum_48 49 rfl rfl (by decide) (by omega) (by omega) (fun v52 ev52 => ?_)
            refine iv_put (M := mX7_readSum) (l1 := 0) (l2 := 160) dX7_readSum_49 FX7 3 wd283 (by decide) rfl (tl86 hT) rfl rfl rfl I17 rfl (by omega) (by omega) 52 rfl (fun m53 e56 I54 => ?_)
            have K55 := K18.set e56 (by first | rfl | decide)
            have w57 : (m53 86 3).toInt = v52.toInt := by rw [e56, up2_eq]
            have w58 : (m53 86 2).toInt = (m15 86 2).toInt := by rw [e56, up2_ne (by omega)]
            have w59 : (m53 86 4).toInt = (m15 86 4).toInt := by rw [e56, up2_ne (by omega)]
            have w60 : (m53 lb 7).toInt = (m15 lb 7).toInt := by rw [e56, up2_ne (by omega)]
            have w61 : (m53 lb 2).toInt = (m15 lb 2).toInt := by rw [e56, up2_ne (by omega)]
            have kt52 : tC m53 = tC m := tC_fz zR2 K55
            have kp52 : (m53 86 3).toInt = (m15 86 3).toInt + 1 := by omega
            have ks52 : SAML lb m15 m53 := SAML.set zR2 e56
            have kl52 : (m53 lb 2).toInt = (m15 lb 2).toInt := congrArg Int32.toInt ks52.1
            refine pv_aload_n (M := mX7_readSum) 0 dX7_readSum_52 53 rfl rfl rfl ?_
            refine pv_iload_n (M := mX7_readSum) 1 dX7_readSum_53 54 rfl rfl rfl ?_
            have z66 : (4 : Int32).toInt = 4 := by decide
            refine pv_callv (M := mX7_readSum) (as := [.int 4]) (st := []) (kc2 := 0) (ks2 := 0) dX7_readSum_54 wd543 YX7_readTerm ⟨wd545, wd5⟩ (mk_get (tl86 hT)) rfl rfl (s_X7_readTerm_v4z g hT I54 R (by first | omega | assumption | exact (iv_rng _).2 | exact (iv_rng _).1 | decide) (TBC_eq hp1 kt52) (by first | omega | assumption | exact (iv_rng _).2 | exact (iv_rng _).1 | decide)) rfl rfl (Nat.le_of_ble_eq_true rfl) (by decide) rfl rfl 57 rfl (fun rv h1 q67 => ?_)
            obtain ⟨m68, n69, v72, rfl, rfl, I70, K71, pv72, qv72, rv72⟩ := q67
            replace rv72 : (m53 86 3).toInt ≤ (m68 86 3).toInt ∧ (m68 86 3).toInt ≤ (m68 86 2).toInt ∧ (m68 86 2).toInt = (m53 86 2).toInt ∧ ((v72.toInt = 0 ∨ (m53 86 3).toInt + 1 ≤ (m68 86 3).toInt) ∧ TRX (SU (tC m53) 2 (m53 86 3).toInt) (LSu (tC m53) 2) (fun a => isT (tC m53 a) = false) v72.toInt (m68 86 3).toInt (m68 86 4).toInt) ∧ (m68 lb 7).toInt = (m53 lb 7).toInt ∧ IFZ v72.toInt (TMZ (tC m53) 2 lb m53 m68 (m53 86 3).toInt (m68 86 3).toInt) := by have q_ := rv72; (try rw [z66] at q_); exact q_
            have K71c := K71
            have K71 := K55.trans (K71.sub (fun _ _ q => q))
            show PV _ _ _ _ _ _ _ 57 [.ref 86, .int 4, .int y14, .int v49] [.int v72] _
            have k57 := rv72.2.2.2.1.2
            have k57p := rv72.2.2.2.1.1
            rw [kt52, kp52] at k57
            have k57z0 := rv72.2.2.2.2.2
            rw [kt52, kp52] at k57z0
            refine pv_if_ne (M := mX7_readSum) (tgt := 62) dX7_readSum_57 60 rfl (by decide) (fun c78 => ?_) (fun c78 => ?_)
            · have c78 := iv_ne (X := v72.toInt) (Y := 0) c78 rfl (by decide)
              have kT6 := TRX_ok k57 (by omega)
              have k57z := IFZ.get k57z0 (by omega)
              have k57b := TMZ_b k57z
              refine pv_aload_n (M := mX7_readSum) 0 dX7_readSum_62 63 rfl rfl rfl ?_
              refine mv_get (M := mX7_readSum) (v := .ref lb) dX7_readSum_63 FX7 1 wd281 (by decide) (tl86 hT) rfl R.2.2.2.1 66 rfl ?_
              refine pv_iload_n (M := mX7_readSum) 3 dX7_readSum_66 67 rfl rfl rfl ?_
              refine pv_iconst (M := mX7_readSum) (v := 0) dX7_readSum_67 68 rfl (by decide) ?_
              have z82 : (0 : Int32).toInt = 0 := by decide
              refine pv_callv (M := mX7_readSum) (as := [.int v49, .int 0]) (st := []) (kc2 := 0) (ks2 := 0) dX7_readSum_68 wd567 YX6_emit ⟨wd568, wd569⟩ (mk_get R.2.2.2.2.2.2.1) rfl rfl (s_X6_emit_vz g hT I70 lb R.2.2.2.2.2 v49 0 (by decide) (by decide)) rfl rfl (Nat.le_of_ble_eq_true rfl) (by decide) rfl rfl 71 rfl (fun rv h1 q83 => ?_)
              obtain ⟨m84, n85, rfl, rfl, I86, K87, rm84⟩ := q83
              replace rm84 : (m84 lb 7).toInt = (m68 lb 7).toInt ∧ ((m68 lb 2).toInt < 160 → EMT lb m68 m84 v49.toInt (0 : Int32)) := by have q_ := rm84; (try rw [z82] at q_); exact q_
              have K87c := K87
              have w88 : (m84 86 3).toInt = (m68 86 3).toInt := congrArg Int32.toInt (K87 86 3 (wY_out (by omega) (by omega) (by omega)))
              have w89 : (m84 86 2).toInt = (m68 86 2).toInt := congrArg Int32.toInt (K87 86 2 (wY_out (by omega) (by omega) (by omega)))
              have w90 : (m84 86 4).toInt = (m68 86 4).toInt := congrArg Int32.toInt (K87 86 4 (wY_out (by omega) (by omega) (by omega)))
              have K87 := K71.trans (K87.sub (by first | exact wZ_wY | exact wZ_86))
              show PV _ _ _ _ _ _ _ 71 [.ref 86, .int 4, .int y14, .int v49] [] _
              have k71 := rm84.2 (by omega)
              refine iv_inc (M := mX7_readSum) (C := 1) dX7_readSum_71 74 rfl rfl (by decide) rfl rfl (by decide) (by omega) (by omega) (fun v92 ev92 => ?_)
              show PV _ _ _ _ _ _ _ 74 [.ref 86, .int 4, .int v92, .int v49] [] _
              refine pv_goto (M := mX7_readSum) (tgt := 12) dX7_readSum_74 (by decide) ?_
              refine pv_fg (lo2 := [.ref 86, .int 4, .int v92, pv_U]) ⟨Or.inr rfl, ⟨Or.inr rfl, ⟨Or.inr rfl, ⟨Or.inl rfl, trivial⟩⟩⟩⟩ ?_
              have kb3 : (m84 86 3).toInt = (m68 86 3).toInt := by omega
              have kbs : SU (tC m) 2 (m 86 3).toInt = LSu (tC m) 2 (m84 86 3).toInt := by rw [kgs, LSu_su kTX (by omega) kS, kT6.1]; congr 1; omega
              have kbt : isT (tC m (m84 86 3).toInt) = false := by rw [kb3]; exact kT6.2
              have kbz : SMZ (tC m) 2 lb m m84 (m 86 3).toInt (m84 86 3).toInt := by rw [kb3]; exact SMZ_s kgz kTX (by omega) kS kgt ks52 k57z k71 (by omega) (by unfold isO; omega) kT6.2
              exact ih21 v92 m84 n85 (by first | omega | assumption | exact (iv_rng _).2 | exact (iv_rng _).1 | decide) (by first | omega | assumption | exact (iv_rng _).2 | exact (iv_rng _).1 | decide) (by first | omega | assumption | (show (m84 86 3).toInt ≤ (m84 86 2).toInt; omega) | decide) (by first | omega | assumption | (show (m84 86 2).toInt = (m 86 2).toInt; omega) | decide) (by first | omega | assumption | (show (m84 lb 7).toInt = (m lb 7).toInt; omega) | decide) (by first | omega | assumption | (show (m 86 3).toInt + 1 + 2 * v92.toInt ≤ (m84 86 3).toInt; omega) | decide) kbs kbt kbz I86 K87 (by omega)
            · have c78 := iv_eq (X := v72.toInt) (Y := 0) c78 rfl (by decide)
              refine pv_iconst (M := mX7_readSum) (v := 0) dX7_readSum_60 61 rfl (by decide) ?_
              have z97 : (0 : Int32).toInt = 0 := by decide
              exact pv_iret (M := mX7_readSum) dX7_readSum_61 rfl rfl ⟨_, _, _, rfl, rfl, I70, K71, by decide, by decide, ⟨by omega, by omega, by omega, Or.inr ⟨by decide, by rw [kgs, LSu_su kTX (by omega) kS]; exact TRX_fl k57 (by omega)⟩, by omega, IFZ.no (by first | decide | omega)⟩⟩
          · have c46 := iv_ne (X := v42.toInt) (Y := 43) c46 rfl (by decide)
            refine pv_aload_n (M := mX7_readSum) 0 dX7_readSum_28 29 rfl rfl rfl ?_
            refine pv_callv (M := mX7_readSum) (as := []) (st := []) (kc2 := 0) (ks2 := 0) dX7_readSum_29 wd527 YX7_peek ⟨wd529, wd2⟩ (mk_get (tl86 hT)) rfl rfl (s_X7_peek_vx g hT I17 R) rfl rfl (Nat.le_of_ble_eq_true rfl) (by decide) rfl rfl 32 rfl (fun rv h1 q98 => ?_)
            obtain ⟨v99, rfl, rfl, pv99, qv99, rv99⟩ := q98
            replace rv99 : v99.toInt = tC m15 (m15 86 3).toInt ∧ (v99.toInt = -1 ∨ (m15 86 3).toInt < (m15 86 2).toInt) := rv99
            show PV _ _ _ _ _ _ _ 32 [.ref 86, .int 4, .int y14, pv_U] [.int v99] _
            have k32 := rv99.1
            have k32b := rv99.2
            rw [kt12] at k32
            refine pv_bipush (M := mX7_readSum) (v := 45) dX7_readSum_32 34 rfl (by decide) ?_
            refine pv_icmp_ne (M := mX7_readSum) (tgt := 77) dX7_readSum_34 37 rfl (by decide) (fun c103 => ?_) (fun c103 => ?_)
            · have c103 := iv_ne (X := v99.toInt) (Y := 45) c103 rfl (by decide)
              refine pv_iconst (M := mX7_readSum) (v := 1) dX7_readSum_77 78 rfl (by decide) ?_
              have z104 : (1 : Int32).toInt = 1 := by decide
              exact pv_iret (M := mX7_readSum) dX7_readSum_78 rfl rfl ⟨_, _, _, rfl, rfl, I17, K18, by decide, by decide, ⟨by omega, by omega, by omega, (by first | exact Or.inl ⟨by decide, by rw [kgs]; exact LSu_no (isS_n kgt (by omega) (by omega))⟩ | (exfalso; omega)), by omega, (by first | exact IFZ.is (SMZ_e kgz (isS_n kgt (by omega) (by omega))) | exact IFZ.no (by omega))⟩⟩
            · have c103 := iv_eq (X := v99.toInt) (Y := 45) c103 rfl (by decide)
              have kS : isS (tC m (m15 86 3).toInt) = true := isS_y (by omega)
              refine pv_aload_n (M := mX7_readSum) 0 dX7_readSum_37 38 rfl rfl rfl ?_
              refine pv_callv (M := mX7_readSum) (as := []) (st := []) (kc2 := 0) (ks2 := 0) dX7_readSum_38 wd527 YX7_peek ⟨wd529, wd2⟩ (mk_get (tl86 hT)) rfl rfl (s_X7_peek_vx g hT I17 R) rfl rfl (Nat.le_of_ble_eq_true rfl) (by decide) rfl rfl 41 rfl (fun rv h1 q106 => ?_)
              obtain ⟨v107, rfl, rfl, pv107, qv107, rv107⟩ := q106
              replace rv107 : v107.toInt = tC m15 (m15 86 3).toInt ∧ (v107.toInt = -1 ∨ (m15 86 3).toInt < (m15 86 2).toInt) := rv107
              show PV _ _ _ _ _ _ _ 41 [.ref 86, .int 4, .int y14, pv_U] [.int v107] _
              have k41 : v107.toInt = tC m (m15 86 3).toInt := by rw [← kt12]; exact rv107.1
              refine pv_istore_n (M := mX7_readSum) 3 (lo2 := [.ref 86, .int 4, .int y14, .int v107]) dX7_readSum_41 42 rfl rfl (by decide) rfl rfl ?_
              refine pv_aload_n (M := mX7_readSum) 0 dX7_readSum_42 43 rfl rfl rfl ?_
              refine pv_dup (M := mX7_readSum) dX7_readSum_43 44 rfl rfl ?_
              refine iv_get (M := mX7_readSum) (l1 := 0) (l2 := 160) dX7_readSum_44 FX7 3 wd283 (by decide) (tl86 hT) rfl I17 rfl 47 rfl (fun v109 ev109 pv109 qv109 => ?_)
              have wv109 : v109.toInt = (m15 86 3).toInt := congrArg Int32.toInt ev109
              refine pv_iconst (M := mX7_readSum) (v := 1) dX7_readSum_47 48 rfl (by decide) ?_
              refine iv_iadd (M := mX7_readSum) (X := v109.toInt) (Y := 1) dX7_readSum_48 49 rfl rfl (by decide) (by omega) (by omega) (fun v110 ev110 => ?_)
              refine iv_put (M := mX7_readSum) (l1 := 0) (l2 := 160) dX7_readSum_49 FX7 3 wd283 (by decide) rfl (tl86 hT) rfl rfl rfl I17 rfl (by omega) (by omega) 52 rfl (fun m111 e114 I112 => ?_)
              have K113 := K18.set e114 (by first | rfl | decide)
              have w115 : (m111 86 3).toInt = v110.toInt := by rw [e114, up2_eq]
              have w116 : (m111 86 2).toInt = (m15 86 2).toInt := by rw [e114, up2_ne (by omega)]
              have w117 : (m111 86 4).toInt = (m15 86 4).toInt := by rw [e114, up2_ne (by omega)]
              have w118 : (m111 lb 7).toInt = (m15 lb 7).toInt := by rw [e114, up2_ne (by omega)]
              have w119 : (m111 lb 2).toInt = (m15 lb 2).toInt := by rw [e114, up2_ne (by omega)]
              have kt52 : tC m111 = tC m := tC_fz zR2 K113
              have kp52 : (m111 86 3).toInt = (m15 86 3).toInt + 1 := by omega
              have ks52 : SAML lb m15 m111 := SAML.set zR2 e114
              have kl52 : (m111 lb 2).toInt = (m15 lb 2).toInt := congrArg Int32.toInt ks52.1
              refine pv_aload_n (M := mX7_readSum) 0 dX7_readSum_52 53 rfl rfl rfl ?_
              refine pv_iload_n (M := mX7_readSum) 1 dX7_readSum_53 54 rfl rfl rfl ?_
              have z124 : (4 : Int32).toInt = 4 := by decide
              refine pv_callv (M := mX7_readSum) (as := [.int 4]) (st := []) (kc2 := 0) (ks2 := 0) dX7_readSum_54 wd543 YX7_readTerm ⟨wd545, wd5⟩ (mk_get (tl86 hT)) rfl rfl (s_X7_readTerm_v4z g hT I112 R (by first | omega | assumption | exact (iv_rng _).2 | exact (iv_rng _).1 | decide) (TBC_eq hp1 kt52) (by first | omega | assumption | exact (iv_rng _).2 | exact (iv_rng _).1 | decide)) rfl rfl (Nat.le_of_ble_eq_true rfl) (by decide) rfl rfl 57 rfl (fun rv h1 q125 => ?_)
              obtain ⟨m126, n127, v130, rfl, rfl, I128, K129, pv130, qv130, rv130⟩ := q125
              replace rv130 : (m111 86 3).toInt ≤ (m126 86 3).toInt ∧ (m126 86 3).toInt ≤ (m126 86 2).toInt ∧ (m126 86 2).toInt = (m111 86 2).toInt ∧ ((v130.toInt = 0 ∨ (m111 86 3).toInt + 1 ≤ (m126 86 3).toInt) ∧ TRX (SU (tC m111) 2 (m111 86 3).toInt) (LSu (tC m111) 2) (fun a => isT (tC m111 a) = false) v130.toInt (m126 86 3).toInt (m126 86 4).toInt) ∧ (m126 lb 7).toInt = (m111 lb 7).toInt ∧ IFZ v130.toInt (TMZ (tC m111) 2 lb m111 m126 (m111 86 3).toInt (m126 86 3).toInt) := by have q_ := rv130; (try rw [z124] at q_); exact q_
              have K129c := K129
              have K129 := K113.trans (K129.sub (fun _ _ q => q))
              show PV _ _ _ _ _ _ _ 57 [.ref 86, .int 4, .int y14, .int v107] [.int v130] _
              have k57 := rv130.2.2.2.1.2
              have k57p := rv130.2.2.2.1.1
              rw [kt52, kp52] at k57
              have k57z0 := rv130.2.2.2.2.2
              rw [kt52, kp52] at k57z0
              refine pv_if_ne (M := mX7_readSum) (tgt := 62) dX7_readSum_57 60 rfl (by decide) (fun c136 => ?_) (fun c136 => ?_)
              · have c136 := iv_ne (X := v130.toInt) (Y := 0) c136 rfl (by decide)
                have kT6 := TRX_ok k57 (by omega)
                have k57z := IFZ.get k57z0 (by omega)
                have k57b := TMZ_b k57z
                refine pv_aload_n (M := mX7_readSum) 0 dX7_readSum_62 63 rfl rfl rfl ?_
                refine mv_get (M := mX7_readSum) (v := .ref lb) dX7_readSum_63 FX7 1 wd281 (by decide) (tl86 hT) rfl R.2.2.2.1 66 rfl ?_
                refine pv_iload_n (M := mX7_readSum) 3 dX7_readSum_66 67 rfl rfl rfl ?_
                refine pv_iconst (M := mX7_readSum) (v := 0) dX7_readSum_67 68 rfl (by decide) ?_
                have z140 : (0 : Int32).toInt = 0 := by decide
                refine pv_callv (M := mX7_readSum) (as := [.int v107, .int 0]) (st := []) (kc2 := 0) (ks2 := 0) dX7_readSum_68 wd567 YX6_emit ⟨wd568, wd569⟩ (mk_get R.2.2.2.2.2.2.1) rfl rfl (s_X6_emit_vz g hT I128 lb R.2.2.2.2.2 v107 0 (by decide) (by decide)) rfl rfl (Nat.le_of_ble_eq_true rfl) (by decide) rfl rfl 71 rfl (fun rv h1 q141 => ?_)
                obtain ⟨m142, n143, rfl, rfl, I144, K145, rm142⟩ := q141
                replace rm142 : (m142 lb 7).toInt = (m126 lb 7).toInt ∧ ((m126 lb 2).toInt < 160 → EMT lb m126 m142 v107.toInt (0 : Int32)) := by have q_ := rm142; (try rw [z140] at q_); exact q_
                have K145c := K145
                have w146 : (m142 86 3).toInt = (m126 86 3).toInt := congrArg Int32.toInt (K145 86 3 (wY_out (by omega) (by omega) (by omega)))
                have w147 : (m142 86 2).toInt = (m126 86 2).toInt := congrArg Int32.toInt (K145 86 2 (wY_out (by omega) (by omega) (by omega)))
                have w148 : (m142 86 4).toInt = (m126 86 4).toInt := congrArg Int32.toInt (K145 86 4 (wY_out (by omega) (by omega) (by omega)))
                have K145 := K129.trans (K145.sub (by first | exact wZ_wY | exact wZ_86))
                show PV _ _ _ _ _ _ _ 71 [.ref 86, .int 4, .int y14, .int v107] [] _
                have k71 := rm142.2 (by omega)
                refine iv_inc (M := mX7_readSum) (C := 1) dX7_readSum_71 74 rfl rfl (by decide) rfl rfl (by decide) (by omega) (by omega) (fun v150 ev150 => ?_)
                show PV _ _ _ _ _ _ _ 74 [.ref 86, .int 4, .int v150, .int v107] [] _
                refine pv_goto (M := mX7_readSum) (tgt := 12) dX7_readSum_74 (by decide) ?_
                refine pv_fg (lo2 := [.ref 86, .int 4, .int v150, pv_U]) ⟨Or.inr rfl, ⟨Or.inr rfl, ⟨Or.inr rfl, ⟨Or.inl rfl, trivial⟩⟩⟩⟩ ?_
                have kb3 : (m142 86 3).toInt = (m126 86 3).toInt := by omega
                have kbs : SU (tC m) 2 (m 86 3).toInt = LSu (tC m) 2 (m142 86 3).toInt := by rw [kgs, LSu_su kTX (by omega) kS, kT6.1]; congr 1; omega
                have kbt : isT (tC m (m142 86 3).toInt) = false := by rw [kb3]; exact kT6.2
                have kbz : SMZ (tC m) 2 lb m m142 (m 86 3).toInt (m142 86 3).toInt := by rw [kb3]; exact SMZ_s kgz kTX (by omega) kS kgt ks52 k57z k71 (by omega) (by unfold isO; omega) kT6.2
                exact ih21 v150 m142 n143 (by first | omega | assumption | exact (iv_rng _).2 | exact (iv_rng _).1 | decide) (by first | omega | assumption | exact (iv_rng _).2 | exact (iv_rng _).1 | decide) (by first | omega | assumption | (show (m142 86 3).toInt ≤ (m142 86 2).toInt; omega) | decide) (by first | omega | assumption | (show (m142 86 2).toInt = (m 86 2).toInt; omega) | decide) (by first | omega | assumption | (show (m142 lb 7).toInt = (m lb 7).toInt; omega) | decide) (by first | omega | assumption | (show (m 86 3).toInt + 1 + 2 * v150.toInt ≤ (m142 86 3).toInt; omega) | decide) kbs kbt kbz I144 K145 (by omega)
              · have c136 := iv_eq (X := v130.toInt) (Y := 0) c136 rfl (by decide)
                refine pv_iconst (M := mX7_readSum) (v := 0) dX7_readSum_60 61 rfl (by decide) ?_
                have z155 : (0 : Int32).toInt = 0 := by decide
                exact pv_iret (M := mX7_readSum) dX7_readSum_61 rfl rfl ⟨_, _, _, rfl, rfl, I128, K129, by decide, by decide, ⟨by omega, by omega, by omega, Or.inr ⟨by decide, by rw [kgs, LSu_su kTX (by omega) kS]; exact TRX_fl k57 (by omega)⟩, by omega, IFZ.no (by first | decide | omega)⟩⟩
    have z156 : (0 : Int32).toInt = 0 := by decide
    exact lp20 (((160 - 0) : Int).toNat + 1) 0 m4 n5 (by first | omega | assumption | exact (iv_rng _).2 | exact (iv_rng _).1 | decide) (by first | omega | assumption | exact (iv_rng _).2 | exact (iv_rng _).1 | decide) (by first | omega | assumption | (show (m4 86 3).toInt ≤ (m4 86 2).toInt; omega) | decide) (by first | omega | assumption | (show (m4 86 2).toInt = (m 86 2).toInt; omega) | decide) (by first | omega | assumption | (show (m4 lb 7).toInt = (m lb 7).toInt; omega) | decide) (by first | omega | assumption | (show (m 86 3).toInt + 1 + 2 * 0 ≤ (m4 86 3).toInt; omega) | decide) (TRX_ok k5 (by omega)).1 (TRX_ok k5 (by omega)).2 (SMZ_0 k5z) I6 K7 (by omega)
  · have c12 := iv_eq (X := v8.toInt) (Y := 0) c12 rfl (by decide)
    refine pv_iconst (M := mX7_readSum) (v := 0) dX7_readSum_8 9 rfl (by decide) ?_
    have z157 : (0 : Int32).toInt = 0 := by decide
    exact pv_iret (M := mX7_readSum) dX7_readSum_9 rfl rfl ⟨_, _, _, rfl, rfl, I6, K7, by decide, by decide, ⟨by omega, by omega, by omega, Or.inr ⟨by decide, TRX_fl k5 (by omega)⟩, by omega, IFZ.no (by first | decide | omega)⟩⟩

set_option maxHeartbeats 2000000 in
set_option maxRecDepth 20000 in
theorem s_X7_readFactor_v3z (g : pv_G) {T : List mv_T} {m : Nat → Nat → Int32} {n : Nat → Nat → Int64} {r : Nat → Value} {la lb : Nat} (hT : TX T) (I : IV BB m) (R : RX T r la lb) (hp0 : (m 86 3).toInt ≤ (m 86 2).toInt) (hp1 : TBC m) (hp2 : (m lb 2).toInt ≤ (m 86 3).toInt) : PM g mX7_readFactor yX7_readFactor (sqI T BB (wZ lb) r m 0 1 (fun m' v => (m 86 3).toInt ≤ (m' 86 3).toInt ∧ (m' 86 3).toInt ≤ (m' 86 2).toInt ∧ (m' 86 2).toInt = (m 86 2).toInt ∧ (RSX (FA (tC m) 3 (m 86 3).toInt) v.toInt (m' 86 3).toInt (m' 86 4).toInt) ∧ (m' lb 7).toInt = (m lb 7).toInt ∧ IFZ v.toInt (CDS lb m m' 7 (FAD (tC m) 3 (m 86 3).toInt) ((m' 86 3).toInt - (m 86 3).toInt)))) 14 0 0 [.ref 86, .int 3] (mk T m n r) := by
  have Kp : fr (wZ lb) m m := fr.rf
  have R0 := R
  have zR := R.2.2.2.2.1.1
  have zR2 := R.2.2.2.2.2.1
  have z124 : 0 ≤ (m 86 3).toInt ∧ (m 86 3).toInt ≤ 160 := I 86 3
  have z125 : 0 ≤ (m 86 2).toInt ∧ (m 86 2).toInt ≤ 160 := I 86 2
  refine PM.of 1 (lo := [.ref 86, .int 3, pv_U]) rfl (by decide) rfl rfl (Nat.le_of_ble_eq_true rfl) ?_
  refine pv_aload_n (M := mX7_readFactor) 0 dX7_readFactor_0 1 rfl rfl rfl ?_
  refine pv_callv (M := mX7_readFactor) (as := []) (st := []) (kc2 := 0) (ks2 := 0) dX7_readFactor_1 wd527 YX7_peek ⟨wd529, wd2⟩ (mk_get (tl86 hT)) rfl rfl (s_X7_peek_vx g hT I R) rfl rfl (Nat.le_of_ble_eq_true rfl) (by decide) rfl rfl 4 rfl (fun rv h1 q1 => ?_)
  obtain ⟨v2, rfl, rfl, pv2, qv2, rv2⟩ := q1
  replace rv2 : v2.toInt = tC m (m 86 3).toInt ∧ (v2.toInt = -1 ∨ (m 86 3).toInt < (m 86 2).toInt) := rv2
  show PV _ _ _ _ _ _ _ 4 [.ref 86, .int 3, pv_U] [.int v2] _
  have k4 := rv2.1
  have k4b := rv2.2
  refine pv_bipush (M := mX7_readFactor) (v := 91) dX7_readFactor_4 6 rfl (by decide) ?_
  refine pv_icmp_ne (M := mX7_readFactor) (tgt := 42) dX7_readFactor_6 9 rfl (by decide) (fun c5 => ?_) (fun c5 => ?_)
  · have c5 := iv_ne (X := v2.toInt) (Y := 91) c5 rfl (by decide)
    have kn91 : tC m (m 86 3).toInt ≠ 91 := by omega
    refine pv_aload_n (M := mX7_readFactor) 0 dX7_readFactor_42 43 rfl rfl rfl ?_
    refine pv_callv (M := mX7_readFactor) (as := []) (st := []) (kc2 := 0) (ks2 := 0) dX7_readFactor_43 wd559 YX7_digitAhead ⟨wd561, wd9⟩ (mk_get (tl86 hT)) rfl rfl (s_X7_digitAhead_vx g hT I R) rfl rfl (Nat.le_of_ble_eq_true rfl) (by decide) rfl rfl 46 rfl (fun rv h1 q7 => ?_)
    obtain ⟨v8, rfl, rfl, pv8, qv8, rv8⟩ := q7
    replace rv8 : (v8 = 0 ∨ ((m 86 3).toInt < (m 86 2).toInt ∧ 48 ≤ (m 87 (m 86 3).toInt.toNat).toInt ∧ (m 87 (m 86 3).toInt.toNat).toInt ≤ 57)) ∧ ((v8.toInt = 1 ∧ dig (tC m (m 86 3).toInt) = true) ∨ (v8.toInt = 0 ∧ dig (tC m (m 86 3).toInt) = false)) := rv8
    show PV _ _ _ _ _ _ _ 46 [.ref 86, .int 3, pv_U] [.int v8] _
    have k46 := rv8.2
    refine pv_if_eq (M := mX7_readFactor) (tgt := 54) dX7_readFactor_46 49 rfl (by decide) (fun c10 => ?_) (fun c10 => ?_)
    · have c10 := iv_eq (X := v8.toInt) (Y := 0) c10 rfl (by decide)
      have kdn := (k46.resolve_left (fun q => by have q1 := q.1; omega)).2
      refine pv_aload_n (M := mX7_readFactor) 0 dX7_readFactor_54 55 rfl rfl rfl ?_
      refine pv_callv (M := mX7_readFactor) (as := []) (st := []) (kc2 := 0) (ks2 := 0) dX7_readFactor_55 wd527 YX7_peek ⟨wd529, wd2⟩ (mk_get (tl86 hT)) rfl rfl (s_X7_peek_vx g hT I R) rfl rfl (Nat.le_of_ble_eq_true rfl) (by decide) rfl rfl 58 rfl (fun rv h1 q12 => ?_)
      obtain ⟨v13, rfl, rfl, pv13, qv13, rv13⟩ := q12
      replace rv13 : v13.toInt = tC m (m 86 3).toInt ∧ (v13.toInt = -1 ∨ (m 86 3).toInt < (m 86 2).toInt) := rv13
      show PV _ _ _ _ _ _ _ 58 [.ref 86, .int 3, pv_U] [.int v13] _
      have k58 := rv13.1
      refine pv_iconst (M := mX7_readFactor) (v := (-1)) dX7_readFactor_58 59 rfl (by decide) ?_
      refine pv_icmp_ne (M := mX7_readFactor) (tgt := 66) dX7_readFactor_59 62 rfl (by decide) (fun c15 => ?_) (fun c15 => ?_)
      · have c15 := iv_ne (X := v13.toInt) (Y := (-1)) c15 rfl (by decide)
        refine pv_ldcS (M := mX7_readFactor) dX7_readFactor_66 rfl 68 rfl ?_
        refine pv_aload_n (M := mX7_readFactor) 0 dX7_readFactor_68 69 rfl rfl rfl ?_
        refine pv_callv (M := mX7_readFactor) (as := []) (st := [.retAddr (g.2.2.1 6 + 1)]) (kc2 := 0) (ks2 := 0) dX7_readFactor_69 wd527 YX7_peek ⟨wd529, wd2⟩ (mk_get (tl86 hT)) rfl rfl (s_X7_peek_vx g hT I R) rfl rfl (Nat.le_of_ble_eq_true rfl) (by decide) rfl rfl 72 rfl (fun rv h1 q16 => ?_)
        obtain ⟨v17, rfl, rfl, pv17, qv17, rv17⟩ := q16
        replace rv17 : v17.toInt = tC m (m 86 3).toInt ∧ (v17.toInt = -1 ∨ (m 86 3).toInt < (m 86 2).toInt) := rv17
        show PV _ _ _ _ _ _ _ 72 [.ref 86, .int 3, pv_U] [.int v17, .retAddr (g.2.2.1 6 + 1)] _
        have k72 := rv17.1
        have kb72 := hp1 (m 86 3).toInt
        refine iv_i2cU (M := mX7_readFactor) dX7_readFactor_72 73 rfl (fun v20 ev20 => ?_)
        have k73 := i2c_eq ev20 (by omega) (by omega)
        refine pv_callvS (M := mX7_readFactor) (as := [.int v20]) (st := []) (kc2 := 0) (ks2 := 0) dX7_readFactor_73 wd572 YJ0_indexOf_0f7a4 ⟨wd573, wd574⟩ rfl (s_J0_indexOf_0f7a4_vx g hT I v20 (by omega) (by omega)) rfl rfl (Nat.le_of_ble_eq_true rfl) (by decide) rfl rfl 76 rfl (fun rv h1 q22 => ?_)
        obtain ⟨v23, rfl, rfl, pv23, qv23, rv23⟩ := q22
        replace rv23 : v23.toInt = nix v20.toInt := rv23
        show PV _ _ _ _ _ _ _ 76 [.ref 86, .int 3, pv_U] [.int v23] _
        have k76 : v23.toInt = nix (tC m (m 86 3).toInt) := by first | (rw [show tC m (m 86 3).toInt = -1 by omega]; decide) | (rw [rv23, k73, k72])
        refine pv_istore_n (M := mX7_readFactor) 2 (lo2 := [.ref 86, .int 3, .int v23]) dX7_readFactor_76 77 rfl rfl (by decide) rfl rfl ?_
        refine pv_iload_n (M := mX7_readFactor) 2 dX7_readFactor_77 78 rfl rfl rfl ?_
        refine pv_if_ge (M := mX7_readFactor) (tgt := 87) dX7_readFactor_78 81 rfl (by decide) (fun c25 => ?_) (fun c25 => ?_)
        · have c25 := iv_le (X := 0) (Y := v23.toInt) c25 (by decide) rfl
          have k87 : (m 86 3).toInt < (m 86 2).toInt := by have := nix_b (x := tC m (m 86 3).toInt) (by omega); omega
          refine pv_aload_n (M := mX7_readFactor) 0 dX7_readFactor_87 88 rfl rfl rfl ?_
          refine mv_get (M := mX7_readFactor) (v := .ref lb) dX7_readFactor_88 FX7 1 wd281 (by decide) (tl86 hT) rfl R.2.2.2.1 91 rfl ?_
          refine pv_bipush (M := mX7_readFactor) (v := 36) dX7_readFactor_91 93 rfl (by decide) ?_
          refine pv_iload_n (M := mX7_readFactor) 2 dX7_readFactor_93 94 rfl rfl rfl ?_
          have z27 : (36 : Int32).toInt = 36 := by decide
          refine pv_callv (M := mX7_readFactor) (as := [.int 36, .int v23]) (st := []) (kc2 := 0) (ks2 := 0) dX7_readFactor_94 wd567 YX6_emit ⟨wd568, wd569⟩ (mk_get R.2.2.2.2.2.2.1) rfl rfl (s_X6_emit_vz g hT I lb R.2.2.2.2.2 36 v23 (by omega) (by omega)) rfl rfl (Nat.le_of_ble_eq_true rfl) (by decide) rfl rfl 97 rfl (fun rv h1 q28 => ?_)
          obtain ⟨m29, n30, rfl, rfl, I31, K32, rm29⟩ := q28
          replace rm29 : (m29 lb 7).toInt = (m lb 7).toInt ∧ ((m lb 2).toInt < 160 → EMT lb m m29 (36 : Int) v23) := by have q_ := rm29; (try rw [z27] at q_); exact q_
          have K32c := K32
          have w33 : (m29 86 3).toInt = (m 86 3).toInt := congrArg Int32.toInt (K32 86 3 (wY_out (by omega) (by omega) (by omega)))
          have w34 : (m29 86 2).toInt = (m 86 2).toInt := congrArg Int32.toInt (K32 86 2 (wY_out (by omega) (by omega) (by omega)))
          have w35 : (m29 86 4).toInt = (m 86 4).toInt := congrArg Int32.toInt (K32 86 4 (wY_out (by omega) (by omega) (by omega)))
          have K32 := Kp.trans (K32.sub (by first | exact wZ_wY | exact wZ_86))
          show PV _ _ _ _ _ _ _ 97 [.ref 86, .int 3, .int v23] [] _
          have klB := I lb 2
          rw [law_b2 R.2.2.2.2.2] at klB
          have klb0 : 0 ≤ (m lb 2).toInt := klB.1
          have k97 := rm29.2 (by omega)
          refine pv_aload_n (M := mX7_readFactor) 0 dX7_readFactor_97 98 rfl rfl rfl ?_
          refine pv_dup (M := mX7_readFactor) dX7_readFactor_98 99 rfl rfl ?_
          refine iv_get (M := mX7_readFactor) (l1 := 0) (l2 := 160) dX7_readFactor_99 FX7 3 wd283 (by decide) (tl86 hT) rfl I31 rfl 102 rfl (fun v40 ev40 pv40 qv40 => ?_)
          have wv40 : v40.toInt = (m29 86 3).toInt := congrArg Int32.toInt ev40
          refine pv_iconst (M := mX7_readFactor) (v := 1) dX7_readFactor_102 103 rfl (by decide) ?_
          refine iv_iadd (M := mX7_readFactor) (X := v40.toInt) (Y := 1) dX7_readFactor_103 104 rfl rfl (by decide) (by omega) (by omega) (fun v41 ev41 => ?_)
          refine iv_put (M := mX7_readFactor) (l1 := 0) (l2 := 160) dX7_readFactor_104 FX7 3 wd283 (by decide) rfl (tl86 hT) rfl rfl rfl I31 rfl (by omega) (by omega) 107 rfl (fun m42 e45 I43 => ?_)
          have K44 := K32.set e45 (by first | rfl | decide)
          have w46 : (m42 86 3).toInt = v41.toInt := by rw [e45, up2_eq]
          have w47 : (m42 86 2).toInt = (m29 86 2).toInt := by rw [e45, up2_ne (by omega)]
          have w48 : (m42 86 4).toInt = (m29 86 4).toInt := by rw [e45, up2_ne (by omega)]
          have w49 : (m42 lb 7).toInt = (m29 lb 7).toInt := by rw [e45, up2_ne (by omega)]
          have w50 : (m42 lb 2).toInt = (m29 lb 2).toInt := by rw [e45, up2_ne (by omega)]
          refine pv_iconst (M := mX7_readFactor) (v := 1) dX7_readFactor_107 108 rfl (by decide) ?_
          have z51 : (1 : Int32).toInt = 1 := by decide
          exact pv_iret (M := mX7_readFactor) dX7_readFactor_108 rfl rfl ⟨_, _, _, rfl, rfl, I43, K44, by decide, by decide, ⟨by omega, by omega, by omega, Or.inl ⟨by decide, by rw [FA_atom kn91, AT_nam kdn (nix_y (by omega)), show (m 86 3).toInt + 1 = (m42 86 3).toInt by omega]⟩, by omega, IFZ.is (by rw [FAD_at kn91, atD_nam kdn]; exact CDS.wk (CDS.post (CDS.nam (by omega) k97 (da := 1) (by omega) (by omega)) (SAML.set zR2 e45)) (by omega) (by omega))⟩⟩
        · have c25 := iv_nle (X := 0) (Y := v23.toInt) c25 (by decide) rfl
          refine pv_aload_n (M := mX7_readFactor) 0 dX7_readFactor_81 82 rfl rfl rfl ?_
          refine pv_iconst (M := mX7_readFactor) (v := 1) dX7_readFactor_82 83 rfl (by decide) ?_
          have z52 : (1 : Int32).toInt = 1 := by decide
          refine pv_callv (M := mX7_readFactor) (as := [.int 1]) (st := []) (kc2 := 0) (ks2 := 0) dX7_readFactor_83 wd531 YX7_fail ⟨wd533, wd3⟩ (mk_get (tl86 hT)) rfl rfl (s_X7_fail_vz g hT I R 1 (by decide) (by decide) (by first | omega | assumption | exact (iv_rng _).2 | exact (iv_rng _).1 | decide)) rfl rfl (Nat.le_of_ble_eq_true rfl) (by decide) rfl rfl 86 rfl (fun rv h1 q53 => ?_)
          obtain ⟨m54, n55, v58, rfl, rfl, I56, K57, pv58, qv58, rv58⟩ := q53
          replace rv58 : (m 86 3).toInt ≤ (m54 86 3).toInt ∧ (m54 86 3).toInt ≤ (m54 86 2).toInt ∧ (m54 86 2).toInt = (m 86 2).toInt ∧ (v58.toInt = 0 ∧ (m54 86 3).toInt = (m 86 3).toInt ∧ (m54 86 4).toInt = -1000 * (1 : Int) - (m 86 3).toInt) ∧ (m54 lb 7).toInt = (m lb 7).toInt := by have q_ := rv58; (try rw [z52] at q_); exact q_
          have K57c := K57
          have w59 : (m54 86 2).toInt = (m 86 2).toInt := congrArg Int32.toInt (K57 86 2 rfl)
          have K57 := Kp.trans (K57.sub (by first | exact wZ_wY | exact wZ_86))
          show PV _ _ _ _ _ _ _ 86 [.ref 86, .int 3, .int v23] [.int v58] _
          exact pv_iret (M := mX7_readFactor) dX7_readFactor_86 rfl (iv_nz (by omega) (by omega)) ⟨_, _, _, rfl, rfl, I56, K57, by omega, by omega, ⟨by omega, by omega, by omega, Or.inr ⟨by omega, FLT_of (a := 1) (p := (m 86 3).toInt) (by rw [FA_atom kn91]; exact AT_no kdn (nix_no (by omega))) (by decide) (by omega)⟩, by omega, IFZ.no (by first | decide | omega)⟩⟩
      · have c15 := iv_eq (X := v13.toInt) (Y := (-1)) c15 rfl (by decide)
        refine pv_iconst (M := mX7_readFactor) (v := (-1)) dX7_readFactor_62 63 rfl (by decide) ?_
        refine pv_goto (M := mX7_readFactor) (tgt := 76) dX7_readFactor_63 (by decide) ?_
        have k76 : (-1) = nix (tC m (m 86 3).toInt) := by first | (rw [show tC m (m 86 3).toInt = -1 by omega]; decide) | (rw [rlit, k73, k72])
        refine pv_istore_n (M := mX7_readFactor) 2 (lo2 := [.ref 86, .int 3, .int (-1)]) dX7_readFactor_76 77 rfl rfl (by decide) rfl rfl ?_
        refine pv_iload_n (M := mX7_readFactor) 2 dX7_readFactor_77 78 rfl rfl rfl ?_
        refine pv_if_ge (M := mX7_readFactor) (tgt := 87) dX7_readFactor_78 81 rfl (by decide) (fun q => absurd q (by decide)) (fun _ => ?_)
        refine pv_aload_n (M := mX7_readFactor) 0 dX7_readFactor_81 82 rfl rfl rfl ?_
        refine pv_iconst (M := mX7_readFactor) (v := 1) dX7_readFactor_82 83 rfl (by decide) ?_
        have z62 : (1 : Int32).toInt = 1 := by decide
        refine pv_callv (M := mX7_readFactor) (as := [.int 1]) (st := []) (kc2 := 0) (ks2 := 0) dX7_readFactor_83 wd531 YX7_fail ⟨wd533, wd3⟩ (mk_get (tl86 hT)) rfl rfl (s_X7_fail_vz g hT I R 1 (by decide) (by decide) (by first | omega | assumption | exact (iv_rng _).2 | exact (iv_rng _).1 | decide)) rfl rfl (Nat.le_of_ble_eq_true rfl) (by decide) rfl rfl 86 rfl (fun rv h1 q63 => ?_)
        obtain ⟨m64, n65, v68, rfl, rfl, I66, K67, pv68, qv68, rv68⟩ := q63
        replace rv68 : (m 86 3).toInt ≤ (m64 86 3).toInt ∧ (m64 86 3).toInt ≤ (m64 86 2).toInt ∧ (m64 86 2).toInt = (m 86 2).toInt ∧ (v68.toInt = 0 ∧ (m64 86 3).toInt = (m 86 3).toInt ∧ (m64 86 4).toInt = -1000 * (1 : Int) - (m 86 3).toInt) ∧ (m64 lb 7).toInt = (m lb 7).toInt := by have q_ := rv68; (try rw [z62] at q_); exact q_
        have K67c := K67
        have w69 : (m64 86 2).toInt = (m 86 2).toInt := congrArg Int32.toInt (K67 86 2 rfl)
        have K67 := Kp.trans (K67.sub (by first | exact wZ_wY | exact wZ_86))
        show PV _ _ _ _ _ _ _ 86 [.ref 86, .int 3, .int (-1)] [.int v68] _
        exact pv_iret (M := mX7_readFactor) dX7_readFactor_86 rfl (iv_nz (by omega) (by omega)) ⟨_, _, _, rfl, rfl, I66, K67, by omega, by omega, ⟨by omega, by omega, by omega, Or.inr ⟨by omega, FLT_of (a := 1) (p := (m 86 3).toInt) (by rw [FA_atom kn91]; exact AT_no kdn (nix_no (by omega))) (by decide) (by omega)⟩, by omega, IFZ.no (by first | decide | omega)⟩⟩
    · have pc10 := rv8.1.resolve_left c10
      have c10 := iv_ne (X := v8.toInt) (Y := 0) c10 rfl (by decide)
      have kd := (k46.resolve_right (fun q => by have q1 := q.1; omega)).2
      refine pv_aload_n (M := mX7_readFactor) 0 dX7_readFactor_49 50 rfl rfl rfl ?_
      refine pv_callv (M := mX7_readFactor) (as := []) (st := []) (kc2 := 0) (ks2 := 0) dX7_readFactor_50 wd563 YX7_readNumber ⟨wd565, wd10⟩ (mk_get (tl86 hT)) rfl rfl (s_X7_readNumber_vz g hT I R (by first | omega | assumption | exact (iv_rng _).2 | exact (iv_rng _).1 | decide) (by first | omega | assumption | exact (iv_rng _).2 | exact (iv_rng _).1 | decide)) rfl rfl (Nat.le_of_ble_eq_true rfl) (by decide) rfl rfl 53 rfl (fun rv h1 q71 => ?_)
      obtain ⟨m72, n73, v76, rfl, rfl, I74, K75, pv76, qv76, rv76⟩ := q71
      replace rv76 : (m 86 3).toInt ≤ (m72 86 3).toInt ∧ (m72 86 3).toInt ≤ (m72 86 2).toInt ∧ (m72 86 2).toInt = (m 86 2).toInt ∧ (RSX (nd (tC m) 5 (m 86 3).toInt) v76.toInt (m72 86 3).toInt (m72 86 4).toInt) ∧ (m72 lb 7).toInt = (m lb 7).toInt ∧ IFZ v76.toInt (CDS lb m m72 1 (cD (Int32.ofInt (ndv (tC m) 5 (m 86 3).toInt 0))) 1) := rv76
      have K75c := K75
      have K75 := Kp.trans (K75.sub (fun _ _ q => q))
      show PV _ _ _ _ _ _ _ 53 [.ref 86, .int 3, pv_U] [.int v76] _
      have k53 := rv76.2.2.2.1
      have k53z := rv76.2.2.2.2.2
      exact pv_iret (M := mX7_readFactor) dX7_readFactor_53 rfl (iv_nz (by omega) (by omega)) ⟨_, _, _, rfl, rfl, I74, K75, by omega, by omega, ⟨by omega, by omega, by omega, (by rw [FA_atom kn91, AT_num kd]; exact k53), by omega, (fun q => by have k1 := RSX_ok k53 q; have k2 := atom_le (t := tC m) (p := (m 86 3).toInt) (by rw [AT_num kd, k1]); rw [AT_num kd, k1] at k2; have k3 : (m 86 3).toInt + 1 ≤ (m72 86 3).toInt := k2; rw [FAD_at kn91, atD_num kd]; exact CDS.wk (IFZ.get k53z q) (by omega) (by omega))⟩⟩
  · have c5 := iv_eq (X := v2.toInt) (Y := 91) c5 rfl (by decide)
    have k91 : tC m (m 86 3).toInt = 91 := by omega
    refine pv_aload_n (M := mX7_readFactor) 0 dX7_readFactor_9 10 rfl rfl rfl ?_
    refine pv_iload_n (M := mX7_readFactor) 1 dX7_readFactor_10 11 rfl rfl rfl ?_
    have z80 : (3 : Int32).toInt = 3 := by decide
    refine pv_callv (M := mX7_readFactor) (as := [.int 3]) (st := []) (kc2 := 0) (ks2 := 0) dX7_readFactor_11 wd551 YX7_open ⟨wd553, wd7⟩ (mk_get (tl86 hT)) rfl rfl (s_X7_open_vz g hT I R 3 (by decide) (by decide) (by first | omega | assumption | exact (iv_rng _).2 | exact (iv_rng _).1 | decide)) rfl rfl (Nat.le_of_ble_eq_true rfl) (by decide) rfl rfl 14 rfl (fun rv h1 q81 => ?_)
    obtain ⟨m82, n83, v86, rfl, rfl, I84, K85, pv86, qv86, rv86⟩ := q81
    replace rv86 : (v86 = 0 ∨ (3 : Int) ≤ 5) ∧ (m 86 3).toInt ≤ (m82 86 3).toInt ∧ (m82 86 3).toInt ≤ (m82 86 2).toInt ∧ (m82 86 2).toInt = (m 86 2).toInt ∧ ((v86.toInt = 1 ∧ (3 : Int) ≤ 5 ∧ (m82 86 3).toInt = (m 86 3).toInt + 1) ∨ (v86.toInt = 0 ∧ 6 ≤ (3 : Int) ∧ (m82 86 4).toInt = -5000 - (m 86 3).toInt ∧ (m82 86 3).toInt = (m 86 3).toInt)) ∧ (m82 lb 7).toInt = (m lb 7).toInt := by have q_ := rv86; (try rw [z80] at q_); exact q_
    have K85c := K85
    have w87 : (m82 86 2).toInt = (m 86 2).toInt := congrArg Int32.toInt (K85 86 2 rfl)
    have K85 := Kp.trans (K85.sub (by first | exact wZ_wY | exact wZ_86))
    show PV _ _ _ _ _ _ _ 14 [.ref 86, .int 3, pv_U] [.int v86] _
    refine pv_if_eq (M := mX7_readFactor) (tgt := 40) dX7_readFactor_14 17 rfl (by decide) (fun c88 => ?_) (fun c88 => ?_)
    · have c88 := iv_eq (X := v86.toInt) (Y := 0) c88 rfl (by decide)
      refine pv_iconst (M := mX7_readFactor) (v := 0) dX7_readFactor_40 41 rfl (by decide) ?_
      have z89 : (0 : Int32).toInt = 0 := by decide
      exact pv_iret (M := mX7_readFactor) dX7_readFactor_41 rfl rfl ⟨_, _, _, rfl, rfl, I84, K85, by decide, by decide, ⟨by omega, by omega, by omega, (by first | exact Or.inr ⟨by decide, FX_deep k91 (by omega)⟩ | exact Or.inr ⟨by decide, FX_cn k91 k27 (fun z => by omega) (by omega)⟩ | exact Or.inl ⟨by decide, FX_co k91 k27 (by omega) (by omega)⟩ | exact Or.inr ⟨by decide, FX_sum k91 (RSX_fl k24 (by omega))⟩ | (exfalso; omega)), by omega, (by first | exact IFZ.is (by rw [FAD_opn k91]; exact CDS.wk (CDS.post (CDS.pre ks17 (IFZ.get k24z (by omega)) (Int.le_refl _)) ks33) (by omega) (by omega)) | exact IFZ.no (by first | decide | omega))⟩⟩
    · have pc88 := rv86.1.resolve_left c88
      have c88 := iv_ne (X := v86.toInt) (Y := 0) c88 rfl (by decide)
      have kt17 : tC m82 = tC m := tC_fz zR2 K85
      have kp17 : (m82 86 3).toInt = (m 86 3).toInt + 1 := by omega
      have ks17 : SAML lb m m82 := SAML.fz zR2 K85c
      have kl17 : (m82 lb 2).toInt = (m lb 2).toInt := congrArg Int32.toInt ks17.1
      refine pv_aload_n (M := mX7_readFactor) 0 dX7_readFactor_17 18 rfl rfl rfl ?_
      refine pv_iload_n (M := mX7_readFactor) 1 dX7_readFactor_18 19 rfl rfl rfl ?_
      refine pv_iconst (M := mX7_readFactor) (v := 1) dX7_readFactor_19 20 rfl (by decide) ?_
      refine pv_iadd (M := mX7_readFactor) (v := 4) dX7_readFactor_20 21 rfl (by decide) ?_
      have z95 : (4 : Int32).toInt = 4 := by decide
      refine pv_callv (M := mX7_readFactor) (as := [.int 4]) (st := []) (kc2 := 0) (ks2 := 0) dX7_readFactor_21 wd539 YX7_readSum ⟨wd541, wd4⟩ (mk_get (tl86 hT)) rfl rfl (s_X7_readSum_v4z g hT I84 R (by first | omega | assumption | exact (iv_rng _).2 | exact (iv_rng _).1 | decide) (TBC_eq hp1 kt17) (by first | omega | assumption | exact (iv_rng _).2 | exact (iv_rng _).1 | decide)) rfl rfl (Nat.le_of_ble_eq_true rfl) (by decide) rfl rfl 24 rfl (fun rv h1 q96 => ?_)
      obtain ⟨m97, n98, v101, rfl, rfl, I99, K100, pv101, qv101, rv101⟩ := q96
      replace rv101 : (m82 86 3).toInt ≤ (m97 86 3).toInt ∧ (m97 86 3).toInt ≤ (m97 86 2).toInt ∧ (m97 86 2).toInt = (m82 86 2).toInt ∧ (RSX (SU (tC m82) 2 (m82 86 3).toInt) v101.toInt (m97 86 3).toInt (m97 86 4).toInt) ∧ (m97 lb 7).toInt = (m82 lb 7).toInt ∧ IFZ v101.toInt (CDS lb m82 m97 7 (SUD (tC m82) 2 (m82 86 3).toInt) ((m97 86 3).toInt - (m82 86 3).toInt)) := by have q_ := rv101; (try rw [z95] at q_); exact q_
      have K100c := K100
      have K100 := K85.trans (K100.sub (fun _ _ q => q))
      show PV _ _ _ _ _ _ _ 24 [.ref 86, .int 3, pv_U] [.int v101] _
      have k24 := rv101.2.2.2.1
      rw [kt17, kp17] at k24
      have k24z := rv101.2.2.2.2.2
      rw [kt17, kp17] at k24z
      refine pv_if_eq (M := mX7_readFactor) (tgt := 40) dX7_readFactor_24 27 rfl (by decide) (fun c106 => ?_) (fun c106 => ?_)
      · have c106 := iv_eq (X := v101.toInt) (Y := 0) c106 rfl (by decide)
        refine pv_iconst (M := mX7_readFactor) (v := 0) dX7_readFactor_40 41 rfl (by decide) ?_
        have z107 : (0 : Int32).toInt = 0 := by decide
        exact pv_iret (M := mX7_readFactor) dX7_readFactor_41 rfl rfl ⟨_, _, _, rfl, rfl, I99, K100, by decide, by decide, ⟨by omega, by omega, by omega, (by first | exact Or.inr ⟨by decide, FX_deep k91 (by omega)⟩ | exact Or.inr ⟨by decide, FX_cn k91 k27 (fun z => by omega) (by omega)⟩ | exact Or.inl ⟨by decide, FX_co k91 k27 (by omega) (by omega)⟩ | exact Or.inr ⟨by decide, FX_sum k91 (RSX_fl k24 (by omega))⟩ | (exfalso; omega)), by omega, (by first | exact IFZ.is (by rw [FAD_opn k91]; exact CDS.wk (CDS.post (CDS.pre ks17 (IFZ.get k24z (by omega)) (Int.le_refl _)) ks33) (by omega) (by omega)) | exact IFZ.no (by first | decide | omega))⟩⟩
      · have c106 := iv_ne (X := v101.toInt) (Y := 0) c106 rfl (by decide)
        have k27 := RSX_ok k24 (by omega)
        have kt27 : tC m97 = tC m := tC_fz zR2 K100
        refine pv_aload_n (M := mX7_readFactor) 0 dX7_readFactor_27 28 rfl rfl rfl ?_
        refine pv_bipush (M := mX7_readFactor) (v := 93) dX7_readFactor_28 30 rfl (by decide) ?_
        have z110 : (93 : Int32).toInt = 93 := by decide
        refine pv_callv (M := mX7_readFactor) (as := [.int 93]) (st := []) (kc2 := 0) (ks2 := 0) dX7_readFactor_30 wd555 YX7_pass ⟨wd557, wd8⟩ (mk_get (tl86 hT)) rfl rfl (s_X7_pass_vz g hT I99 R 93 (by decide) (by decide) (by first | omega | assumption | exact (iv_rng _).2 | exact (iv_rng _).1 | decide)) rfl rfl (Nat.le_of_ble_eq_true rfl) (by decide) rfl rfl 33 rfl (fun rv h1 q111 => ?_)
        obtain ⟨m112, n113, v116, rfl, rfl, I114, K115, pv116, qv116, rv116⟩ := q111
        replace rv116 : (m97 86 3).toInt ≤ (m112 86 3).toInt ∧ (m112 86 3).toInt ≤ (m112 86 2).toInt ∧ (m112 86 2).toInt = (m97 86 2).toInt ∧ ((v116.toInt = 1 ∧ tC m97 (m97 86 3).toInt = (93 : Int) ∧ (m112 86 3).toInt = (m97 86 3).toInt + 1) ∨ (v116.toInt = 0 ∧ tC m97 (m97 86 3).toInt ≠ (93 : Int) ∧ (m112 86 4).toInt = -1000 - (m97 86 3).toInt ∧ (m112 86 3).toInt = (m97 86 3).toInt)) ∧ (m112 lb 7).toInt = (m97 lb 7).toInt := by have q_ := rv116; (try rw [z110] at q_); exact q_
        have K115c := K115
        have w117 : (m112 86 2).toInt = (m97 86 2).toInt := congrArg Int32.toInt (K115 86 2 rfl)
        have K115 := K100.trans (K115.sub (by first | exact wZ_wY | exact wZ_86))
        show PV _ _ _ _ _ _ _ 33 [.ref 86, .int 3, pv_U] [.int v116] _
        have k33 := rv116.2.2.2.1
        rw [kt27] at k33
        have ks33 : SAML lb m97 m112 := SAML.fz zR2 K115c
        refine pv_if_eq (M := mX7_readFactor) (tgt := 40) dX7_readFactor_33 36 rfl (by decide) (fun c121 => ?_) (fun c121 => ?_)
        · have c121 := iv_eq (X := v116.toInt) (Y := 0) c121 rfl (by decide)
          refine pv_iconst (M := mX7_readFactor) (v := 0) dX7_readFactor_40 41 rfl (by decide) ?_
          have z122 : (0 : Int32).toInt = 0 := by decide
          exact pv_iret (M := mX7_readFactor) dX7_readFactor_41 rfl rfl ⟨_, _, _, rfl, rfl, I114, K115, by decide, by decide, ⟨by omega, by omega, by omega, (by first | exact Or.inr ⟨by decide, FX_deep k91 (by omega)⟩ | exact Or.inr ⟨by decide, FX_cn k91 k27 (fun z => by omega) (by omega)⟩ | exact Or.inl ⟨by decide, FX_co k91 k27 (by omega) (by omega)⟩ | exact Or.inr ⟨by decide, FX_sum k91 (RSX_fl k24 (by omega))⟩ | (exfalso; omega)), by omega, (by first | exact IFZ.is (by rw [FAD_opn k91]; exact CDS.wk (CDS.post (CDS.pre ks17 (IFZ.get k24z (by omega)) (Int.le_refl _)) ks33) (by omega) (by omega)) | exact IFZ.no (by first | decide | omega))⟩⟩
        · have c121 := iv_ne (X := v116.toInt) (Y := 0) c121 rfl (by decide)
          refine pv_iconst (M := mX7_readFactor) (v := 1) dX7_readFactor_36 37 rfl (by decide) ?_
          refine pv_goto (M := mX7_readFactor) (tgt := 41) dX7_readFactor_37 (by decide) ?_
          have z123 : (1 : Int32).toInt = 1 := by decide
          exact pv_iret (M := mX7_readFactor) dX7_readFactor_41 rfl rfl ⟨_, _, _, rfl, rfl, I114, K115, by decide, by decide, ⟨by omega, by omega, by omega, (by first | exact Or.inr ⟨by decide, FX_deep k91 (by omega)⟩ | exact Or.inr ⟨by decide, FX_cn k91 k27 (fun z => by omega) (by omega)⟩ | exact Or.inl ⟨by decide, FX_co k91 k27 (by omega) (by omega)⟩ | exact Or.inr ⟨by decide, FX_sum k91 (RSX_fl k24 (by omega))⟩ | (exfalso; omega)), by omega, (by first | exact IFZ.is (by rw [FAD_opn k91]; exact CDS.wk (CDS.post (CDS.pre ks17 (IFZ.get k24z (by omega)) (Int.le_refl _)) ks33) (by omega) (by omega)) | exact IFZ.no (by first | decide | omega))⟩⟩

set_option maxHeartbeats 2000000 in
set_option maxRecDepth 20000 in
theorem s_X7_readTerm_v3z (g : pv_G) {T : List mv_T} {m : Nat → Nat → Int32} {n : Nat → Nat → Int64} {r : Nat → Value} {la lb : Nat} (hT : TX T) (I : IV BB m) (R : RX T r la lb) (hp0 : (m 86 3).toInt ≤ (m 86 2).toInt) (hp1 : TBC m) (hp2 : (m lb 2).toInt ≤ (m 86 3).toInt) : PM g mX7_readTerm yX7_readTerm (sqI T BB (wZ lb) r m 0 1 (fun m' v => (m 86 3).toInt ≤ (m' 86 3).toInt ∧ (m' 86 3).toInt ≤ (m' 86 2).toInt ∧ (m' 86 2).toInt = (m 86 2).toInt ∧ ((v.toInt = 0 ∨ (m 86 3).toInt + 1 ≤ (m' 86 3).toInt) ∧ TRX (SU (tC m) 3 (m 86 3).toInt) (LSu (tC m) 3) (fun a => isT (tC m a) = false) v.toInt (m' 86 3).toInt (m' 86 4).toInt) ∧ (m' lb 7).toInt = (m lb 7).toInt ∧ IFZ v.toInt (TMZ (tC m) 3 lb m m' (m 86 3).toInt (m' 86 3).toInt))) 15 0 0 [.ref 86, .int 3] (mk T m n r) := by
  have Kp : fr (wZ lb) m m := fr.rf
  have R0 := R
  have zR := R.2.2.2.2.1.1
  have zR2 := R.2.2.2.2.2.1
  have z99 : 0 ≤ (m 86 3).toInt ∧ (m 86 3).toInt ≤ 160 := I 86 3
  have z100 : 0 ≤ (m 86 2).toInt ∧ (m 86 2).toInt ≤ 160 := I 86 2
  refine PM.of 2 (lo := [.ref 86, .int 3, pv_U, pv_U]) rfl (by decide) rfl rfl (Nat.le_of_ble_eq_true rfl) ?_
  have kTX := TXT_C I
  refine pv_aload_n (M := mX7_readTerm) 0 dX7_readTerm_0 1 rfl rfl rfl ?_
  refine pv_iload_n (M := mX7_readTerm) 1 dX7_readTerm_1 2 rfl rfl rfl ?_
  have z2 : (3 : Int32).toInt = 3 := by decide
  refine pv_callv (M := mX7_readTerm) (as := [.int 3]) (st := []) (kc2 := 0) (ks2 := 0) dX7_readTerm_2 wd547 YX7_readFactor ⟨wd549, wd6⟩ (mk_get (tl86 hT)) rfl rfl (s_X7_readFactor_v3z g hT I R (by first | omega | assumption | exact (iv_rng _).2 | exact (iv_rng _).1 | decide) hp1 (by first | omega | assumption | exact (iv_rng _).2 | exact (iv_rng _).1 | decide)) rfl rfl (Nat.le_of_ble_eq_true rfl) (by decide) rfl rfl 5 rfl (fun rv h1 q3 => ?_)
  obtain ⟨m4, n5, v8, rfl, rfl, I6, K7, pv8, qv8, rv8⟩ := q3
  replace rv8 : (m 86 3).toInt ≤ (m4 86 3).toInt ∧ (m4 86 3).toInt ≤ (m4 86 2).toInt ∧ (m4 86 2).toInt = (m 86 2).toInt ∧ (RSX (FA (tC m) 3 (m 86 3).toInt) v8.toInt (m4 86 3).toInt (m4 86 4).toInt) ∧ (m4 lb 7).toInt = (m lb 7).toInt ∧ IFZ v8.toInt (CDS lb m m4 7 (FAD (tC m) 3 (m 86 3).toInt) ((m4 86 3).toInt - (m 86 3).toInt)) := by have q_ := rv8; (try rw [z2] at q_); exact q_
  have K7c := K7
  have K7 := Kp.trans (K7.sub (fun _ _ q => q))
  show PV _ _ _ _ _ _ _ 5 [.ref 86, .int 3, pv_U, pv_U] [.int v8] _
  have k5 := rv8.2.2.2.1
  have k5z0 := rv8.2.2.2.2.2
  refine pv_if_ne (M := mX7_readTerm) (tgt := 10) dX7_readTerm_5 8 rfl (by decide) (fun c11 => ?_) (fun c11 => ?_)
  · have c11 := iv_ne (X := v8.toInt) (Y := 0) c11 rfl (by decide)
    have kF0 := RSX_ok k5 (by omega)
    have kF1 := FA_le 3 (m 86 3).toInt (by rw [kF0])
    rw [kF0] at kF1
    have k5z := IFZ.get k5z0 (by omega)
    refine pv_iconst (M := mX7_readTerm) (v := 0) dX7_readTerm_10 11 rfl (by decide) ?_
    refine pv_istore_n (M := mX7_readTerm) 2 (lo2 := [.ref 86, .int 3, .int 0, pv_U]) dX7_readTerm_11 12 rfl rfl (by decide) rfl rfl ?_
    have lp22 : ∀ (fuel21 : Nat) (y16 : Int32) (m17 : Nat → Nat → Int32) (n18 : Nat → Nat → Int64), (0 ≤ y16.toInt) → (y16.toInt ≤ 160) → ((m17 86 3).toInt ≤ (m17 86 2).toInt) → ((m17 86 2).toInt = (m 86 2).toInt) → ((m17 lb 7).toInt = (m lb 7).toInt) → ((m 86 3).toInt + 1 + 2 * y16.toInt ≤ (m17 86 3).toInt) → (SU (tC m) 3 (m 86 3).toInt = LSu (tC m) 3 (m17 86 3).toInt) → (TMZ (tC m) 3 lb m m17 (m 86 3).toInt (m17 86 3).toInt) → IV BB m17 → fr (wZ lb) m m17 → ((160 - y16.toInt) : Int).toNat < fuel21 → PV none g mX7_readTerm (sqI T BB (wZ lb) r m 0 1 (fun m' v => (m 86 3).toInt ≤ (m' 86 3).toInt ∧ (m' 86 3).toInt ≤ (m' 86 2).toInt ∧ (m' 86 2).toInt = (m 86 2).toInt ∧ ((v.toInt = 0 ∨ (m 86 3).toInt + 1 ≤ (m' 86 3).toInt) ∧ TRX (SU (tC m) 3 (m 86 3).toInt) (LSu (tC m) 3) (fun a => isT (tC m a) = false) v.toInt (m' 86 3).toInt (m' 86 4).toInt) ∧ (m' lb 7).toInt = (m lb 7).toInt ∧ IFZ v.toInt (TMZ (tC m) 3 lb m m' (m 86 3).toInt (m' 86 3).toInt))) 15 0 0 12 [.ref 86, .int 3, .int y16, pv_U] [] (mk T m17 n18 r) := by
      intro fuel21
      induction fuel21 with
      | zero => intro y16 m17 n18 b24 b25 b26 b27 b28 b29 b30 b31 I19 K20 z32; omega
      | succ fuel21 ih23 =>
        intro y16 m17 n18 b24 b25 b26 b27 b28 b29 b30 b31 I19 K20 z32
        have z33 : 0 ≤ (m17 86 3).toInt ∧ (m17 86 3).toInt ≤ 160 := I19 86 3
        have z34 : 0 ≤ (m17 86 2).toInt ∧ (m17 86 2).toInt ≤ 160 := I19 86 2
        have kgs := (show SU (tC m) 3 (m 86 3).toInt = LSu (tC m) 3 (m17 86 3).toInt by assumption)
        have kt12 : tC m17 = tC m := tC_fz zR2 K20
        have kgz := (show TMZ (tC m) 3 lb m m17 (m 86 3).toInt (m17 86 3).toInt by assumption)
        have kgl := TMZ_b kgz
        refine pv_iload_n (M := mX7_readTerm) 2 dX7_readTerm_12 13 rfl rfl rfl ?_
        refine pv_sipush (M := mX7_readTerm) (v := 160) dX7_readTerm_13 16 rfl (by decide) ?_
        refine pv_icmp_ge (M := mX7_readTerm) (tgt := 66) dX7_readTerm_16 19 rfl (by decide) (fun c39 => ?_) (fun c39 => ?_)
        · have c39 := iv_le (X := 160) (Y := y16.toInt) c39 (by decide) rfl
          refine pv_iconst (M := mX7_readTerm) (v := 1) dX7_readTerm_66 67 rfl (by decide) ?_
          have z40 : (1 : Int32).toInt = 1 := by decide
          exact pv_iret (M := mX7_readTerm) dX7_readTerm_67 rfl rfl ⟨_, _, _, rfl, rfl, I19, K20, by decide, by decide, ⟨by omega, by omega, by omega, ⟨Or.inr (by omega), Or.inl ⟨by decide, kgs, by first | (exact (k23.resolve_left (fun q => by have q1 := q.1; omega)).2) | (exfalso; omega)⟩⟩, by omega, IFZ.is kgz⟩⟩
        · have c39 := iv_nle (X := 160) (Y := y16.toInt) c39 (by decide) rfl
          refine pv_aload_n (M := mX7_readTerm) 0 dX7_readTerm_19 20 rfl rfl rfl ?_
          refine pv_callv (M := mX7_readTerm) (as := []) (st := []) (kc2 := 0) (ks2 := 0) dX7_readTerm_20 wd654 YX7_timesAhead ⟨wd656, wd11⟩ (mk_get (tl86 hT)) rfl rfl (s_X7_timesAhead_vx g hT I19 R) rfl rfl (Nat.le_of_ble_eq_true rfl) (by decide) rfl rfl 23 rfl (fun rv h1 q41 => ?_)
          obtain ⟨v42, rfl, rfl, pv42, qv42, rv42⟩ := q41
          replace rv42 : (v42 = 0 ∨ (m17 86 3).toInt < (m17 86 2).toInt) ∧ ((v42.toInt = 1 ∧ isT (tC m17 (m17 86 3).toInt) = true) ∨ (v42.toInt = 0 ∧ isT (tC m17 (m17 86 3).toInt) = false)) := rv42
          show PV _ _ _ _ _ _ _ 23 [.ref 86, .int 3, .int y16, pv_U] [.int v42] _
          have k23 := rv42.2
          rw [kt12] at k23
          refine pv_if_eq (M := mX7_readTerm) (tgt := 66) dX7_readTerm_23 26 rfl (by decide) (fun c45 => ?_) (fun c45 => ?_)
          · have c45 := iv_eq (X := v42.toInt) (Y := 0) c45 rfl (by decide)
            refine pv_iconst (M := mX7_readTerm) (v := 1) dX7_readTerm_66 67 rfl (by decide) ?_
            have z46 : (1 : Int32).toInt = 1 := by decide
            exact pv_iret (M := mX7_readTerm) dX7_readTerm_67 rfl rfl ⟨_, _, _, rfl, rfl, I19, K20, by decide, by decide, ⟨by omega, by omega, by omega, ⟨Or.inr (by omega), Or.inl ⟨by decide, kgs, by first | (exact (k23.resolve_left (fun q => by have q1 := q.1; omega)).2) | (exfalso; omega)⟩⟩, by omega, IFZ.is kgz⟩⟩
          · have pc45 := rv42.1.resolve_left c45
            have c45 := iv_ne (X := v42.toInt) (Y := 0) c45 rfl (by decide)
            have kT := (k23.resolve_right (fun q => by have q1 := q.1; omega)).2
            refine pv_aload_n (M := mX7_readTerm) 0 dX7_readTerm_26 27 rfl rfl rfl ?_
            refine pv_callv (M := mX7_readTerm) (as := []) (st := []) (kc2 := 0) (ks2 := 0) dX7_readTerm_27 wd527 YX7_peek ⟨wd529, wd2⟩ (mk_get (tl86 hT)) rfl rfl (s_X7_peek_vx g hT I19 R) rfl rfl (Nat.le_of_ble_eq_true rfl) (by decide) rfl rfl 30 rfl (fun rv h1 q48 => ?_)
            obtain ⟨v49, rfl, rfl, pv49, qv49, rv49⟩ := q48
            replace rv49 : v49.toInt = tC m17 (m17 86 3).toInt ∧ (v49.toInt = -1 ∨ (m17 86 3).toInt < (m17 86 2).toInt) := rv49
            show PV _ _ _ _ _ _ _ 30 [.ref 86, .int 3, .int y16, pv_U] [.int v49] _
            have k30 : v49.toInt = tC m (m17 86 3).toInt := by rw [← kt12]; exact rv49.1
            refine pv_istore_n (M := mX7_readTerm) 3 (lo2 := [.ref 86, .int 3, .int y16, .int v49]) dX7_readTerm_30 31 rfl rfl (by decide) rfl rfl ?_
            refine pv_aload_n (M := mX7_readTerm) 0 dX7_readTerm_31 32 rfl rfl rfl ?_
            refine pv_dup (M := mX7_readTerm) dX7_readTerm_32 33 rfl rfl ?_
            refine iv_get (M := mX7_readTerm) (l1 := 0) (l2 := 160) dX7_readTerm_33 FX7 3 wd283 (by decide) (tl86 hT) rfl I19 rfl 36 rfl (fun v51 ev51 pv51 qv51 => ?_)
            have wv51 : v51.toInt = (m17 86 3).toInt := congrArg Int32.toInt ev51
            refine pv_iconst (M := mX7_readTerm) (v := 1) dX7_readTerm_36 37 rfl (by decide) ?_
            refine iv_iadd (M := mX7_readTerm) (X := v51.toInt) (Y := 1) dX7_readTerm_37 38 rfl rfl (by decide) (by omega) (by omega) (fun v52 ev52 => ?_)
            refine iv_put (M := mX7_readTerm) (l1 := 0) (l2 := 160) dX7_readTerm_38 FX7 3 wd283 (by decide) rfl (tl86 hT) rfl rfl rfl I19 rfl (by omega) (by omega) 41 rfl (fun m53 e56 I54 => ?_)
            have K55 := K20.set e56 (by first | rfl | decide)
            have w57 : (m53 86 3).toInt = v52.toInt := by rw [e56, up2_eq]
            have w58 : (m53 86 2).toInt = (m17 86 2).toInt := by rw [e56, up2_ne (by omega)]
            have w59 : (m53 86 4).toInt = (m17 86 4).toInt := by rw [e56, up2_ne (by omega)]
            have w60 : (m53 lb 7).toInt = (m17 lb 7).toInt := by rw [e56, up2_ne (by omega)]
            have w61 : (m53 lb 2).toInt = (m17 lb 2).toInt := by rw [e56, up2_ne (by omega)]
            have kt41 : tC m53 = tC m := tC_fz zR2 K55
            have kp41 : (m53 86 3).toInt = (m17 86 3).toInt + 1 := by omega
            have ks41 : SAML lb m17 m53 := SAML.set zR2 e56
            have kl41 : (m53 lb 2).toInt = (m17 lb 2).toInt := congrArg Int32.toInt ks41.1
            refine pv_aload_n (M := mX7_readTerm) 0 dX7_readTerm_41 42 rfl rfl rfl ?_
            refine pv_iload_n (M := mX7_readTerm) 1 dX7_readTerm_42 43 rfl rfl rfl ?_
            have z66 : (3 : Int32).toInt = 3 := by decide
            refine pv_callv (M := mX7_readTerm) (as := [.int 3]) (st := []) (kc2 := 0) (ks2 := 0) dX7_readTerm_43 wd547 YX7_readFactor ⟨wd549, wd6⟩ (mk_get (tl86 hT)) rfl rfl (s_X7_readFactor_v3z g hT I54 R (by first | omega | assumption | exact (iv_rng _).2 | exact (iv_rng _).1 | decide) (TBC_eq hp1 kt41) (by first | omega | assumption | exact (iv_rng _).2 | exact (iv_rng _).1 | decide)) rfl rfl (Nat.le_of_ble_eq_true rfl) (by decide) rfl rfl 46 rfl (fun rv h1 q67 => ?_)
            obtain ⟨m68, n69, v72, rfl, rfl, I70, K71, pv72, qv72, rv72⟩ := q67
            replace rv72 : (m53 86 3).toInt ≤ (m68 86 3).toInt ∧ (m68 86 3).toInt ≤ (m68 86 2).toInt ∧ (m68 86 2).toInt = (m53 86 2).toInt ∧ (RSX (FA (tC m53) 3 (m53 86 3).toInt) v72.toInt (m68 86 3).toInt (m68 86 4).toInt) ∧ (m68 lb 7).toInt = (m53 lb 7).toInt ∧ IFZ v72.toInt (CDS lb m53 m68 7 (FAD (tC m53) 3 (m53 86 3).toInt) ((m68 86 3).toInt - (m53 86 3).toInt)) := by have q_ := rv72; (try rw [z66] at q_); exact q_
            have K71c := K71
            have K71 := K55.trans (K71.sub (fun _ _ q => q))
            show PV _ _ _ _ _ _ _ 46 [.ref 86, .int 3, .int y16, .int v49] [.int v72] _
            have k46 := rv72.2.2.2.1
            rw [kt41, kp41] at k46
            have k46z0 := rv72.2.2.2.2.2
            rw [kt41, kp41] at k46z0
            refine pv_if_ne (M := mX7_readTerm) (tgt := 51) dX7_readTerm_46 49 rfl (by decide) (fun c77 => ?_) (fun c77 => ?_)
            · have c77 := iv_ne (X := v72.toInt) (Y := 0) c77 rfl (by decide)
              have kF4 := RSX_ok k46 (by omega)
              have kF5 := FA_le 3 ((m17 86 3).toInt + 1) (by rw [kF4])
              rw [kF4] at kF5
              have k46z := IFZ.get k46z0 (by omega)
              have k46b := CDS_b k46z
              refine pv_aload_n (M := mX7_readTerm) 0 dX7_readTerm_51 52 rfl rfl rfl ?_
              refine mv_get (M := mX7_readTerm) (v := .ref lb) dX7_readTerm_52 FX7 1 wd281 (by decide) (tl86 hT) rfl R.2.2.2.1 55 rfl ?_
              refine pv_iload_n (M := mX7_readTerm) 3 dX7_readTerm_55 56 rfl rfl rfl ?_
              refine pv_iconst (M := mX7_readTerm) (v := 0) dX7_readTerm_56 57 rfl (by decide) ?_
              have z83 : (0 : Int32).toInt = 0 := by decide
              refine pv_callv (M := mX7_readTerm) (as := [.int v49, .int 0]) (st := []) (kc2 := 0) (ks2 := 0) dX7_readTerm_57 wd567 YX6_emit ⟨wd568, wd569⟩ (mk_get R.2.2.2.2.2.2.1) rfl rfl (s_X6_emit_vz g hT I70 lb R.2.2.2.2.2 v49 0 (by decide) (by decide)) rfl rfl (Nat.le_of_ble_eq_true rfl) (by decide) rfl rfl 60 rfl (fun rv h1 q84 => ?_)
              obtain ⟨m85, n86, rfl, rfl, I87, K88, rm85⟩ := q84
              replace rm85 : (m85 lb 7).toInt = (m68 lb 7).toInt ∧ ((m68 lb 2).toInt < 160 → EMT lb m68 m85 v49.toInt (0 : Int32)) := by have q_ := rm85; (try rw [z83] at q_); exact q_
              have K88c := K88
              have w89 : (m85 86 3).toInt = (m68 86 3).toInt := congrArg Int32.toInt (K88 86 3 (wY_out (by omega) (by omega) (by omega)))
              have w90 : (m85 86 2).toInt = (m68 86 2).toInt := congrArg Int32.toInt (K88 86 2 (wY_out (by omega) (by omega) (by omega)))
              have w91 : (m85 86 4).toInt = (m68 86 4).toInt := congrArg Int32.toInt (K88 86 4 (wY_out (by omega) (by omega) (by omega)))
              have K88 := K71.trans (K88.sub (by first | exact wZ_wY | exact wZ_86))
              show PV _ _ _ _ _ _ _ 60 [.ref 86, .int 3, .int y16, .int v49] [] _
              have k60 := rm85.2 (by omega)
              refine iv_inc (M := mX7_readTerm) (C := 1) dX7_readTerm_60 63 rfl rfl (by decide) rfl rfl (by decide) (by omega) (by omega) (fun v93 ev93 => ?_)
              show PV _ _ _ _ _ _ _ 63 [.ref 86, .int 3, .int v93, .int v49] [] _
              refine pv_goto (M := mX7_readTerm) (tgt := 12) dX7_readTerm_63 (by decide) ?_
              refine pv_fg (lo2 := [.ref 86, .int 3, .int v93, pv_U]) ⟨Or.inr rfl, ⟨Or.inr rfl, ⟨Or.inr rfl, ⟨Or.inl rfl, trivial⟩⟩⟩⟩ ?_
              have kbs : SU (tC m) 3 (m 86 3).toInt = LSu (tC m) 3 (m85 86 3).toInt := by rw [kgs, LSu_ok kTX (by omega) (isT_S kT) kF4]; congr 1; omega
              have kbz : TMZ (tC m) 3 lb m m85 (m 86 3).toInt (m85 86 3).toInt := TMZ_s kgz kTX (by omega) kT (by rw [kF4]; congr 1; omega) ks41 k46z k60 (by omega) (by omega)
              exact ih23 v93 m85 n86 (by first | omega | assumption | exact (iv_rng _).2 | exact (iv_rng _).1 | decide) (by first | omega | assumption | exact (iv_rng _).2 | exact (iv_rng _).1 | decide) (by first | omega | assumption | (show (m85 86 3).toInt ≤ (m85 86 2).toInt; omega) | decide) (by first | omega | assumption | (show (m85 86 2).toInt = (m 86 2).toInt; omega) | decide) (by first | omega | assumption | (show (m85 lb 7).toInt = (m lb 7).toInt; omega) | decide) (by first | omega | assumption | (show (m 86 3).toInt + 1 + 2 * v93.toInt ≤ (m85 86 3).toInt; omega) | decide) kbs kbz I87 K88 (by omega)
            · have c77 := iv_eq (X := v72.toInt) (Y := 0) c77 rfl (by decide)
              refine pv_iconst (M := mX7_readTerm) (v := 0) dX7_readTerm_49 50 rfl (by decide) ?_
              have z96 : (0 : Int32).toInt = 0 := by decide
              exact pv_iret (M := mX7_readTerm) dX7_readTerm_50 rfl rfl ⟨_, _, _, rfl, rfl, I70, K71, by decide, by decide, ⟨by omega, by omega, by omega, ⟨Or.inl (by decide), Or.inr ⟨by decide, by rw [kgs]; exact LSu_fl kTX (by omega) (isT_S kT) (RSX_fl k46 (by omega))⟩⟩, by omega, IFZ.no (by first | decide | omega)⟩⟩
    have z97 : (0 : Int32).toInt = 0 := by decide
    exact lp22 (((160 - 0) : Int).toNat + 1) 0 m4 n5 (by first | omega | assumption | exact (iv_rng _).2 | exact (iv_rng _).1 | decide) (by first | omega | assumption | exact (iv_rng _).2 | exact (iv_rng _).1 | decide) (by first | omega | assumption | (show (m4 86 3).toInt ≤ (m4 86 2).toInt; omega) | decide) (by first | omega | assumption | (show (m4 86 2).toInt = (m 86 2).toInt; omega) | decide) (by first | omega | assumption | (show (m4 lb 7).toInt = (m lb 7).toInt; omega) | decide) (by first | omega | assumption | (show (m 86 3).toInt + 1 + 2 * 0 ≤ (m4 86 3).toInt; omega) | decide) (SU_ok kF0) (TMZ_0 k5z kF0) I6 K7 (by omega)
  · have c11 := iv_eq (X := v8.toInt) (Y := 0) c11 rfl (by decide)
    refine pv_iconst (M := mX7_readTerm) (v := 0) dX7_readTerm_8 9 rfl (by decide) ?_
    have z98 : (0 : Int32).toInt = 0 := by decide
    exact pv_iret (M := mX7_readTerm) dX7_readTerm_9 rfl rfl ⟨_, _, _, rfl, rfl, I6, K7, by decide, by decide, ⟨by omega, by omega, by omega, ⟨Or.inl (by decide), Or.inr ⟨by decide, SU_fl (RSX_fl k5 (by omega))⟩⟩, by omega, IFZ.no (by first | decide | omega)⟩⟩

set_option maxHeartbeats 2000000 in
set_option maxRecDepth 20000 in
theorem s_X7_readSum_v3z (g : pv_G) {T : List mv_T} {m : Nat → Nat → Int32} {n : Nat → Nat → Int64} {r : Nat → Value} {la lb : Nat} (hT : TX T) (I : IV BB m) (R : RX T r la lb) (hp0 : (m 86 3).toInt ≤ (m 86 2).toInt) (hp1 : TBC m) (hp2 : (m lb 2).toInt ≤ (m 86 3).toInt) : PM g mX7_readSum yX7_readSum (sqI T BB (wZ lb) r m 0 1 (fun m' v => (m 86 3).toInt ≤ (m' 86 3).toInt ∧ (m' 86 3).toInt ≤ (m' 86 2).toInt ∧ (m' 86 2).toInt = (m 86 2).toInt ∧ (RSX (SU (tC m) 3 (m 86 3).toInt) v.toInt (m' 86 3).toInt (m' 86 4).toInt) ∧ (m' lb 7).toInt = (m lb 7).toInt ∧ IFZ v.toInt (CDS lb m m' 9 (SUD (tC m) 3 (m 86 3).toInt) ((m' 86 3).toInt - (m 86 3).toInt)))) 16 0 0 [.ref 86, .int 3] (mk T m n r) := by
  have Kp : fr (wZ lb) m m := fr.rf
  have R0 := R
  have zR := R.2.2.2.2.1.1
  have zR2 := R.2.2.2.2.2.1
  have z158 : 0 ≤ (m 86 3).toInt ∧ (m 86 3).toInt ≤ 160 := I 86 3
  have z159 : 0 ≤ (m 86 2).toInt ∧ (m 86 2).toInt ≤ 160 := I 86 2
  refine PM.of 2 (lo := [.ref 86, .int 3, pv_U, pv_U]) rfl (by decide) rfl rfl (Nat.le_of_ble_eq_true rfl) ?_
  have kTX := TXT_C I
  refine pv_aload_n (M := mX7_readSum) 0 dX7_readSum_0 1 rfl rfl rfl ?_
  refine pv_iload_n (M := mX7_readSum) 1 dX7_readSum_1 2 rfl rfl rfl ?_
  have z2 : (3 : Int32).toInt = 3 := by decide
  refine pv_callv (M := mX7_readSum) (as := [.int 3]) (st := []) (kc2 := 0) (ks2 := 0) dX7_readSum_2 wd543 YX7_readTerm ⟨wd545, wd5⟩ (mk_get (tl86 hT)) rfl rfl (s_X7_readTerm_v3z g hT I R (by first | omega | assumption | exact (iv_rng _).2 | exact (iv_rng _).1 | decide) hp1 (by first | omega | assumption | exact (iv_rng _).2 | exact (iv_rng _).1 | decide)) rfl rfl (Nat.le_of_ble_eq_true rfl) (by decide) rfl rfl 5 rfl (fun rv h1 q3 => ?_)
  obtain ⟨m4, n5, v8, rfl, rfl, I6, K7, pv8, qv8, rv8⟩ := q3
  replace rv8 : (m 86 3).toInt ≤ (m4 86 3).toInt ∧ (m4 86 3).toInt ≤ (m4 86 2).toInt ∧ (m4 86 2).toInt = (m 86 2).toInt ∧ ((v8.toInt = 0 ∨ (m 86 3).toInt + 1 ≤ (m4 86 3).toInt) ∧ TRX (SU (tC m) 3 (m 86 3).toInt) (LSu (tC m) 3) (fun a => isT (tC m a) = false) v8.toInt (m4 86 3).toInt (m4 86 4).toInt) ∧ (m4 lb 7).toInt = (m lb 7).toInt ∧ IFZ v8.toInt (TMZ (tC m) 3 lb m m4 (m 86 3).toInt (m4 86 3).toInt) := by have q_ := rv8; (try rw [z2] at q_); exact q_
  have K7c := K7
  have K7 := Kp.trans (K7.sub (fun _ _ q => q))
  show PV _ _ _ _ _ _ _ 5 [.ref 86, .int 3, pv_U, pv_U] [.int v8] _
  have k5 := rv8.2.2.2.1.2
  have k5p := rv8.2.2.2.1.1
  have k5z0 := rv8.2.2.2.2.2
  refine pv_if_ne (M := mX7_readSum) (tgt := 10) dX7_readSum_5 8 rfl (by decide) (fun c12 => ?_) (fun c12 => ?_)
  · have c12 := iv_ne (X := v8.toInt) (Y := 0) c12 rfl (by decide)
    have k5z := IFZ.get k5z0 (by omega)
    refine pv_iconst (M := mX7_readSum) (v := 0) dX7_readSum_10 11 rfl (by decide) ?_
    refine pv_istore_n (M := mX7_readSum) 2 (lo2 := [.ref 86, .int 3, .int 0, pv_U]) dX7_readSum_11 12 rfl rfl (by decide) rfl rfl ?_
    have lp20 : ∀ (fuel19 : Nat) (y14 : Int32) (m15 : Nat → Nat → Int32) (n16 : Nat → Nat → Int64), (0 ≤ y14.toInt) → (y14.toInt ≤ 160) → ((m15 86 3).toInt ≤ (m15 86 2).toInt) → ((m15 86 2).toInt = (m 86 2).toInt) → ((m15 lb 7).toInt = (m lb 7).toInt) → ((m 86 3).toInt + 1 + 2 * y14.toInt ≤ (m15 86 3).toInt) → (SU (tC m) 3 (m 86 3).toInt = LSu (tC m) 3 (m15 86 3).toInt) → (isT (tC m (m15 86 3).toInt) = false) → (SMZ (tC m) 3 lb m m15 (m 86 3).toInt (m15 86 3).toInt) → IV BB m15 → fr (wZ lb) m m15 → ((160 - y14.toInt) : Int).toNat < fuel19 → PV none g mX7_readSum (sqI T BB (wZ lb) r m 0 1 (fun m' v => (m 86 3).toInt ≤ (m' 86 3).toInt ∧ (m' 86 3).toInt ≤ (m' 86 2).toInt ∧ (m' 86 2).toInt = (m 86 2).toInt ∧ (RSX (SU (tC m) 3 (m 86 3).toInt) v.toInt (m' 86 3).toInt (m' 86 4).toInt) ∧ (m' lb 7).toInt = (m lb 7).toInt ∧ IFZ v.toInt (CDS lb m m' 9 (SUD (tC m) 3 (m 86 3).toInt) ((m' 86 3).toInt - (m 86 3).toInt)))) 16 0 0 12 [.ref 86, .int 3, .int y14, pv_U] [] (mk T m15 n16 r) := by
      intro fuel19
      induction fuel19 with
      | zero => intro y14 m15 n16 b22 b23 b24 b25 b26 b27 b28 b29 b30 I17 K18 z31; omega
      | succ fuel19 ih21 =>
        intro y14 m15 n16 b22 b23 b24 b25 b26 b27 b28 b29 b30 I17 K18 z31
        have z32 : 0 ≤ (m15 86 3).toInt ∧ (m15 86 3).toInt ≤ 160 := I17 86 3
        have z33 : 0 ≤ (m15 86 2).toInt ∧ (m15 86 2).toInt ≤ 160 := I17 86 2
        have kgs := (show SU (tC m) 3 (m 86 3).toInt = LSu (tC m) 3 (m15 86 3).toInt by assumption)
        have kgt := (show isT (tC m (m15 86 3).toInt) = false by assumption)
        have kt12 : tC m15 = tC m := tC_fz zR2 K18
        have kgz := (show SMZ (tC m) 3 lb m m15 (m 86 3).toInt (m15 86 3).toInt by assumption)
        have kgl := SMZ_b kgz
        refine pv_iload_n (M := mX7_readSum) 2 dX7_readSum_12 13 rfl rfl rfl ?_
        refine pv_sipush (M := mX7_readSum) (v := 160) dX7_readSum_13 16 rfl (by decide) ?_
        refine pv_icmp_ge (M := mX7_readSum) (tgt := 77) dX7_readSum_16 19 rfl (by decide) (fun c39 => ?_) (fun c39 => ?_)
        · have c39 := iv_le (X := 160) (Y := y14.toInt) c39 (by decide) rfl
          refine pv_iconst (M := mX7_readSum) (v := 1) dX7_readSum_77 78 rfl (by decide) ?_
          have z40 : (1 : Int32).toInt = 1 := by decide
          exact pv_iret (M := mX7_readSum) dX7_readSum_78 rfl rfl ⟨_, _, _, rfl, rfl, I17, K18, by decide, by decide, ⟨by omega, by omega, by omega, (by first | exact Or.inl ⟨by decide, by rw [kgs]; exact LSu_no (isS_n kgt (by omega) (by omega))⟩ | (exfalso; omega)), by omega, (by first | exact IFZ.is (SMZ_e kgz (isS_n kgt (by omega) (by omega))) | exact IFZ.no (by omega))⟩⟩
        · have c39 := iv_nle (X := 160) (Y := y14.toInt) c39 (by decide) rfl
          refine pv_aload_n (M := mX7_readSum) 0 dX7_readSum_19 20 rfl rfl rfl ?_
          refine pv_callv (M := mX7_readSum) (as := []) (st := []) (kc2 := 0) (ks2 := 0) dX7_readSum_20 wd527 YX7_peek ⟨wd529, wd2⟩ (mk_get (tl86 hT)) rfl rfl (s_X7_peek_vx g hT I17 R) rfl rfl (Nat.le_of_ble_eq_true rfl) (by decide) rfl rfl 23 rfl (fun rv h1 q41 => ?_)
          obtain ⟨v42, rfl, rfl, pv42, qv42, rv42⟩ := q41
          replace rv42 : v42.toInt = tC m15 (m15 86 3).toInt ∧ (v42.toInt = -1 ∨ (m15 86 3).toInt < (m15 86 2).toInt) := rv42
          show PV _ _ _ _ _ _ _ 23 [.ref 86, .int 3, .int y14, pv_U] [.int v42] _
          have k23 := rv42.1
          have k23b := rv42.2
          rw [kt12] at k23
          refine pv_bipush (M := mX7_readSum) (v := 43) dX7_readSum_23 25 rfl (by decide) ?_
          refine pv_icmp_eq (M := mX7_readSum) (tgt := 37) dX7_readSum_25 28 rfl (by decide) (fun c46 => ?_) (fun c46 => ?_)
          · have c46 := iv_eq (X := v42.toInt) (Y := 43) c46 rfl (by decide)
            have kS : isS (tC m (m15 86 3).toInt) = true := isS_y (by omega)
            refine pv_aload_n (M := mX7_readSum) 0 dX7_readSum_37 38 rfl rfl rfl ?_
            refine pv_callv (M := mX7_readSum) (as := []) (st := []) (kc2 := 0) (ks2 := 0) dX7_readSum_38 wd527 YX7_peek ⟨wd529, wd2⟩ (mk_get (tl86 hT)) rfl rfl (s_X7_peek_vx g hT I17 R) rfl rfl (Nat.le_of_ble_eq_true rfl) (by decide) rfl rfl 41 rfl (fun rv h1 q48 => ?_)
            obtain ⟨v49, rfl, rfl, pv49, qv49, rv49⟩ := q48
            replace rv49 : v49.toInt = tC m15 (m15 86 3).toInt ∧ (v49.toInt = -1 ∨ (m15 86 3).toInt < (m15 86 2).toInt) := rv49
            show PV _ _ _ _ _ _ _ 41 [.ref 86, .int 3, .int y14, pv_U] [.int v49] _
            have k41 : v49.toInt = tC m (m15 86 3).toInt := by rw [← kt12]; exact rv49.1
            refine pv_istore_n (M := mX7_readSum) 3 (lo2 := [.ref 86, .int 3, .int y14, .int v49]) dX7_readSum_41 42 rfl rfl (by decide) rfl rfl ?_
            refine pv_aload_n (M := mX7_readSum) 0 dX7_readSum_42 43 rfl rfl rfl ?_
            refine pv_dup (M := mX7_readSum) dX7_readSum_43 44 rfl rfl ?_
            refine iv_get (M := mX7_readSum) (l1 := 0) (l2 := 160) dX7_readSum_44 FX7 3 wd283 (by decide) (tl86 hT) rfl I17 rfl 47 rfl (fun v51 ev51 pv51 qv51 => ?_)
            have wv51 : v51.toInt = (m15 86 3).toInt := congrArg Int32.toInt ev51
            refine pv_iconst (M := mX7_readSum) (v := 1) dX7_readSum_47 48 rfl (by decide) ?_
            refine iv_iadd (M := mX7_readSum) (X := v51.toInt) (Y := 1) dX7_readSum_48 49 rfl rfl (by decide) (by omega) (by omega) (fun v52 ev52 => ?_)
            refine iv_put (M := mX7_readSum) (l1 := 0) (l2 := 160) dX7_readSum_49 FX7 3 wd283 (by decide) rfl (tl86 hT) rfl rfl rfl I17 rfl (by omega) (by omega) 52 rfl (fun m53 e56 I54 => ?_)
            have K55 := K18.set e56 (by first | rfl | decide)
            have w57 : (m53 86 3).toInt = v52.toInt := by rw [e56, up2_eq]
            have w58 : (m53 86 2).toInt = (m15 86 2).toInt := by rw [e56, up2_ne (by omega)]
            have w59 : (m53 86 4).toInt = (m15 86 4).toInt := by rw [e56, up2_ne (by omega)]
            have w60 : (m53 lb 7).toInt = (m15 lb 7).toInt := by rw [e56, up2_ne (by omega)]
            have w61 : (m53 lb 2).toInt = (m15 lb 2).toInt := by rw [e56, up2_ne (by omega)]
            have kt52 : tC m53 = tC m := tC_fz zR2 K55
            have kp52 : (m53 86 3).toInt = (m15 86 3).toInt + 1 := by omega
            have ks52 : SAML lb m15 m53 := SAML.set zR2 e56
            have kl52 : (m53 lb 2).toInt = (m15 lb 2).toInt := congrArg Int32.toInt ks52.1
            refine pv_aload_n (M := mX7_readSum) 0 dX7_readSum_52 53 rfl rfl rfl ?_
            refine pv_iload_n (M := mX7_readSum) 1 dX7_readSum_53 54 rfl rfl rfl ?_
            have z66 : (3 : Int32).toInt = 3 := by decide
            refine pv_callv (M := mX7_readSum) (as := [.int 3]) (st := []) (kc2 := 0) (ks2 := 0) dX7_readSum_54 wd543 YX7_readTerm ⟨wd545, wd5⟩ (mk_get (tl86 hT)) rfl rfl (s_X7_readTerm_v3z g hT I54 R (by first | omega | assumption | exact (iv_rng _).2 | exact (iv_rng _).1 | decide) (TBC_eq hp1 kt52) (by first | omega | assumption | exact (iv_rng _).2 | exact (iv_rng _).1 | decide)) rfl rfl (Nat.le_of_ble_eq_true rfl) (by decide) rfl rfl 57 rfl (fun rv h1 q67 => ?_)
            obtain ⟨m68, n69, v72, rfl, rfl, I70, K71, pv72, qv72, rv72⟩ := q67
            replace rv72 : (m53 86 3).toInt ≤ (m68 86 3).toInt ∧ (m68 86 3).toInt ≤ (m68 86 2).toInt ∧ (m68 86 2).toInt = (m53 86 2).toInt ∧ ((v72.toInt = 0 ∨ (m53 86 3).toInt + 1 ≤ (m68 86 3).toInt) ∧ TRX (SU (tC m53) 3 (m53 86 3).toInt) (LSu (tC m53) 3) (fun a => isT (tC m53 a) = false) v72.toInt (m68 86 3).toInt (m68 86 4).toInt) ∧ (m68 lb 7).toInt = (m53 lb 7).toInt ∧ IFZ v72.toInt (TMZ (tC m53) 3 lb m53 m68 (m53 86 3).toInt (m68 86 3).toInt) := by have q_ := rv72; (try rw [z66] at q_); exact q_
            have K71c := K71
            have K71 := K55.trans (K71.sub (fun _ _ q => q))
            show PV _ _ _ _ _ _ _ 57 [.ref 86, .int 3, .int y14, .int v49] [.int v72] _
            have k57 := rv72.2.2.2.1.2
            have k57p := rv72.2.2.2.1.1
            rw [kt52, kp52] at k57
            have k57z0 := rv72.2.2.2.2.2
            rw [kt52, kp52] at k57z0
            refine pv_if_ne (M := mX7_readSum) (tgt := 62) dX7_readSum_57 60 rfl (by decide) (fun c78 => ?_) (fun c78 => ?_)
            · have c78 := iv_ne (X := v72.toInt) (Y := 0) c78 rfl (by decide)
              have kT6 := TRX_ok k57 (by omega)
              have k57z := IFZ.get k57z0 (by omega)
              have k57b := TMZ_b k57z
              refine pv_aload_n (M := mX7_readSum) 0 dX7_readSum_62 63 rfl rfl rfl ?_
              refine mv_get (M := mX7_readSum) (v := .ref lb) dX7_readSum_63 FX7 1 wd281 (by decide) (tl86 hT) rfl R.2.2.2.1 66 rfl ?_
              refine pv_iload_n (M := mX7_readSum) 3 dX7_readSum_66 67 rfl rfl rfl ?_
              refine pv_iconst (M := mX7_readSum) (v := 0) dX7_readSum_67 68 rfl (by decide) ?_
              have z82 : (0 : Int32).toInt = 0 := by decide
              refine pv_callv (M := mX7_readSum) (as := [.int v49, .int 0]) (st := []) (kc2 := 0) (ks2 := 0) dX7_readSum_68 wd567 YX6_emit ⟨wd568, wd569⟩ (mk_get R.2.2.2.2.2.2.1) rfl rfl (s_X6_emit_vz g hT I70 lb R.2.2.2.2.2 v49 0 (by decide) (by decide)) rfl rfl (Nat.le_of_ble_eq_true rfl) (by decide) rfl rfl 71 rfl (fun rv h1 q83 => ?_)
              obtain ⟨m84, n85, rfl, rfl, I86, K87, rm84⟩ := q83
              replace rm84 : (m84 lb 7).toInt = (m68 lb 7).toInt ∧ ((m68 lb 2).toInt < 160 → EMT lb m68 m84 v49.toInt (0 : Int32)) := by have q_ := rm84; (try rw [z82] at q_); exact q_
              have K87c := K87
              have w88 : (m84 86 3).toInt = (m68 86 3).toInt := congrArg Int32.toInt (K87 86 3 (wY_out (by omega) (by omega) (by omega)))
              have w89 : (m84 86 2).toInt = (m68 86 2).toInt := congrArg Int32.toInt (K87 86 2 (wY_out (by omega) (by omega) (by omega)))
              have w90 : (m84 86 4).toInt = (m68 86 4).toInt := congrArg Int32.toInt (K87 86 4 (wY_out (by omega) (by omega) (by omega)))
              have K87 := K71.trans (K87.sub (by first | exact wZ_wY | exact wZ_86))
              show PV _ _ _ _ _ _ _ 71 [.ref 86, .int 3, .int y14, .int v49] [] _
              have k71 := rm84.2 (by omega)
              refine iv_inc (M := mX7_readSum) (C := 1) dX7_readSum_71 74 rfl rfl (by decide) rfl rfl (by decide) (by omega) (by omega) (fun v92 ev92 => ?_)
              show PV _ _ _ _ _ _ _ 74 [.ref 86, .int 3, .int v92, .int v49] [] _
              refine pv_goto (M := mX7_readSum) (tgt := 12) dX7_readSum_74 (by decide) ?_
              refine pv_fg (lo2 := [.ref 86, .int 3, .int v92, pv_U]) ⟨Or.inr rfl, ⟨Or.inr rfl, ⟨Or.inr rfl, ⟨Or.inl rfl, trivial⟩⟩⟩⟩ ?_
              have kb3 : (m84 86 3).toInt = (m68 86 3).toInt := by omega
              have kbs : SU (tC m) 3 (m 86 3).toInt = LSu (tC m) 3 (m84 86 3).toInt := by rw [kgs, LSu_su kTX (by omega) kS, kT6.1]; congr 1; omega
              have kbt : isT (tC m (m84 86 3).toInt) = false := by rw [kb3]; exact kT6.2
              have kbz : SMZ (tC m) 3 lb m m84 (m 86 3).toInt (m84 86 3).toInt := by rw [kb3]; exact SMZ_s kgz kTX (by omega) kS kgt ks52 k57z k71 (by omega) (by unfold isO; omega) kT6.2
              exact ih21 v92 m84 n85 (by first | omega | assumption | exact (iv_rng _).2 | exact (iv_rng _).1 | decide) (by first | omega | assumption | exact (iv_rng _).2 | exact (iv_rng _).1 | decide) (by first | omega | assumption | (show (m84 86 3).toInt ≤ (m84 86 2).toInt; omega) | decide) (by first | omega | assumption | (show (m84 86 2).toInt = (m 86 2).toInt; omega) | decide) (by first | omega | assumption | (show (m84 lb 7).toInt = (m lb 7).toInt; omega) | decide) (by first | omega | assumption | (show (m 86 3).toInt + 1 + 2 * v92.toInt ≤ (m84 86 3).toInt; omega) | decide) kbs kbt kbz I86 K87 (by omega)
            · have c78 := iv_eq (X := v72.toInt) (Y := 0) c78 rfl (by decide)
              refine pv_iconst (M := mX7_readSum) (v := 0) dX7_readSum_60 61 rfl (by decide) ?_
              have z97 : (0 : Int32).toInt = 0 := by decide
              exact pv_iret (M := mX7_readSum) dX7_readSum_61 rfl rfl ⟨_, _, _, rfl, rfl, I70, K71, by decide, by decide, ⟨by omega, by omega, by omega, Or.inr ⟨by decide, by rw [kgs, LSu_su kTX (by omega) kS]; exact TRX_fl k57 (by omega)⟩, by omega, IFZ.no (by first | decide | omega)⟩⟩
          · have c46 := iv_ne (X := v42.toInt) (Y := 43) c46 rfl (by decide)
            refine pv_aload_n (M := mX7_readSum) 0 dX7_readSum_28 29 rfl rfl rfl ?_
            refine pv_callv (M := mX7_readSum) (as := []) (st := []) (kc2 := 0) (ks2 := 0) dX7_readSum_29 wd527 YX7_peek ⟨wd529, wd2⟩ (mk_get (tl86 hT)) rfl rfl (s_X7_peek_vx g hT I17 R) rfl rfl (Nat.le_of_ble_eq_true rfl) (by decide) rfl rfl 32 rfl (fun rv h1 q98 => ?_)
            obtain ⟨v99, rfl, rfl, pv99, qv99, rv99⟩ := q98
            replace rv99 : v99.toInt = tC m15 (m15 86 3).toInt ∧ (v99.toInt = -1 ∨ (m15 86 3).toInt < (m15 86 2).toInt) := rv99
            show PV _ _ _ _ _ _ _ 32 [.ref 86, .int 3, .int y14, pv_U] [.int v99] _
            have k32 := rv99.1
            have k32b := rv99.2
            rw [kt12] at k32
            refine pv_bipush (M := mX7_readSum) (v := 45) dX7_readSum_32 34 rfl (by decide) ?_
            refine pv_icmp_ne (M := mX7_readSum) (tgt := 77) dX7_readSum_34 37 rfl (by decide) (fun c103 => ?_) (fun c103 => ?_)
            · have c103 := iv_ne (X := v99.toInt) (Y := 45) c103 rfl (by decide)
              refine pv_iconst (M := mX7_readSum) (v := 1) dX7_readSum_77 78 rfl (by decide) ?_
              have z104 : (1 : Int32).toInt = 1 := by decide
              exact pv_iret (M := mX7_readSum) dX7_readSum_78 rfl rfl ⟨_, _, _, rfl, rfl, I17, K18, by decide, by decide, ⟨by omega, by omega, by omega, (by first | exact Or.inl ⟨by decide, by rw [kgs]; exact LSu_no (isS_n kgt (by omega) (by omega))⟩ | (exfalso; omega)), by omega, (by first | exact IFZ.is (SMZ_e kgz (isS_n kgt (by omega) (by omega))) | exact IFZ.no (by omega))⟩⟩
            · have c103 := iv_eq (X := v99.toInt) (Y := 45) c103 rfl (by decide)
              have kS : isS (tC m (m15 86 3).toInt) = true := isS_y (by omega)
              refine pv_aload_n (M := mX7_readSum) 0 dX7_readSum_37 38 rfl rfl rfl ?_
              refine pv_callv (M := mX7_readSum) (as := []) (st := []) (kc2 := 0) (ks2 := 0) dX7_readSum_38 wd527 YX7_peek ⟨wd529, wd2⟩ (mk_get (tl86 hT)) rfl rfl (s_X7_peek_vx g hT I17 R) rfl rfl (Nat.le_of_ble_eq_true rfl) (by decide) rfl rfl 41 rfl (fun rv h1 q106 => ?_)
              obtain ⟨v107, rfl, rfl, pv107, qv107, rv107⟩ := q106
              replace rv107 : v107.toInt = tC m15 (m15 86 3).toInt ∧ (v107.toInt = -1 ∨ (m15 86 3).toInt < (m15 86 2).toInt) := rv107
              show PV _ _ _ _ _ _ _ 41 [.ref 86, .int 3, .int y14, pv_U] [.int v107] _
              have k41 : v107.toInt = tC m (m15 86 3).toInt := by rw [← kt12]; exact rv107.1
              refine pv_istore_n (M := mX7_readSum) 3 (lo2 := [.ref 86, .int 3, .int y14, .int v107]) dX7_readSum_41 42 rfl rfl (by decide) rfl rfl ?_
              refine pv_aload_n (M := mX7_readSum) 0 dX7_readSum_42 43 rfl rfl rfl ?_
              refine pv_dup (M := mX7_readSum) dX7_readSum_43 44 rfl rfl ?_
              refine iv_get (M := mX7_readSum) (l1 := 0) (l2 := 160) dX7_readSum_44 FX7 3 wd283 (by decide) (tl86 hT) rfl I17 rfl 47 rfl (fun v109 ev109 pv109 qv109 => ?_)
              have wv109 : v109.toInt = (m15 86 3).toInt := congrArg Int32.toInt ev109
              refine pv_iconst (M := mX7_readSum) (v := 1) dX7_readSum_47 48 rfl (by decide) ?_
              refine iv_iadd (M := mX7_readSum) (X := v109.toInt) (Y := 1) dX7_readSum_48 49 rfl rfl (by decide) (by omega) (by omega) (fun v110 ev110 => ?_)
              refine iv_put (M := mX7_readSum) (l1 := 0) (l2 := 160) dX7_readSum_49 FX7 3 wd283 (by decide) rfl (tl86 hT) rfl rfl rfl I17 rfl (by omega) (by omega) 52 rfl (fun m111 e114 I112 => ?_)
              have K113 := K18.set e114 (by first | rfl | decide)
              have w115 : (m111 86 3).toInt = v110.toInt := by rw [e114, up2_eq]
              have w116 : (m111 86 2).toInt = (m15 86 2).toInt := by rw [e114, up2_ne (by omega)]
              have w117 : (m111 86 4).toInt = (m15 86 4).toInt := by rw [e114, up2_ne (by omega)]
              have w118 : (m111 lb 7).toInt = (m15 lb 7).toInt := by rw [e114, up2_ne (by omega)]
              have w119 : (m111 lb 2).toInt = (m15 lb 2).toInt := by rw [e114, up2_ne (by omega)]
              have kt52 : tC m111 = tC m := tC_fz zR2 K113
              have kp52 : (m111 86 3).toInt = (m15 86 3).toInt + 1 := by omega
              have ks52 : SAML lb m15 m111 := SAML.set zR2 e114
              have kl52 : (m111 lb 2).toInt = (m15 lb 2).toInt := congrArg Int32.toInt ks52.1
              refine pv_aload_n (M := mX7_readSum) 0 dX7_readSum_52 53 rfl rfl rfl ?_
              refine pv_iload_n (M := mX7_readSum) 1 dX7_readSum_53 54 rfl rfl rfl ?_
              have z124 : (3 : Int32).toInt = 3 := by decide
              refine pv_callv (M := mX7_readSum) (as := [.int 3]) (st := []) (kc2 := 0) (ks2 := 0) dX7_readSum_54 wd543 YX7_readTerm ⟨wd545, wd5⟩ (mk_get (tl86 hT)) rfl rfl (s_X7_readTerm_v3z g hT I112 R (by first | omega | assumption | exact (iv_rng _).2 | exact (iv_rng _).1 | decide) (TBC_eq hp1 kt52) (by first | omega | assumption | exact (iv_rng _).2 | exact (iv_rng _).1 | decide)) rfl rfl (Nat.le_of_ble_eq_true rfl) (by decide) rfl rfl 57 rfl (fun rv h1 q125 => ?_)
              obtain ⟨m126, n127, v130, rfl, rfl, I128, K129, pv130, qv130, rv130⟩ := q125
              replace rv130 : (m111 86 3).toInt ≤ (m126 86 3).toInt ∧ (m126 86 3).toInt ≤ (m126 86 2).toInt ∧ (m126 86 2).toInt = (m111 86 2).toInt ∧ ((v130.toInt = 0 ∨ (m111 86 3).toInt + 1 ≤ (m126 86 3).toInt) ∧ TRX (SU (tC m111) 3 (m111 86 3).toInt) (LSu (tC m111) 3) (fun a => isT (tC m111 a) = false) v130.toInt (m126 86 3).toInt (m126 86 4).toInt) ∧ (m126 lb 7).toInt = (m111 lb 7).toInt ∧ IFZ v130.toInt (TMZ (tC m111) 3 lb m111 m126 (m111 86 3).toInt (m126 86 3).toInt) := by have q_ := rv130; (try rw [z124] at q_); exact q_
              have K129c := K129
              have K129 := K113.trans (K129.sub (fun _ _ q => q))
              show PV _ _ _ _ _ _ _ 57 [.ref 86, .int 3, .int y14, .int v107] [.int v130] _
              have k57 := rv130.2.2.2.1.2
              have k57p := rv130.2.2.2.1.1
              rw [kt52, kp52] at k57
              have k57z0 := rv130.2.2.2.2.2
              rw [kt52, kp52] at k57z0
              refine pv_if_ne (M := mX7_readSum) (tgt := 62) dX7_readSum_57 60 rfl (by decide) (fun c136 => ?_) (fun c136 => ?_)
              · have c136 := iv_ne (X := v130.toInt) (Y := 0) c136 rfl (by decide)
                have kT6 := TRX_ok k57 (by omega)
                have k57z := IFZ.get k57z0 (by omega)
                have k57b := TMZ_b k57z
                refine pv_aload_n (M := mX7_readSum) 0 dX7_readSum_62 63 rfl rfl rfl ?_
                refine mv_get (M := mX7_readSum) (v := .ref lb) dX7_readSum_63 FX7 1 wd281 (by decide) (tl86 hT) rfl R.2.2.2.1 66 rfl ?_
                refine pv_iload_n (M := mX7_readSum) 3 dX7_readSum_66 67 rfl rfl rfl ?_
                refine pv_iconst (M := mX7_readSum) (v := 0) dX7_readSum_67 68 rfl (by decide) ?_
                have z140 : (0 : Int32).toInt = 0 := by decide
                refine pv_callv (M := mX7_readSum) (as := [.int v107, .int 0]) (st := []) (kc2 := 0) (ks2 := 0) dX7_readSum_68 wd567 YX6_emit ⟨wd568, wd569⟩ (mk_get R.2.2.2.2.2.2.1) rfl rfl (s_X6_emit_vz g hT I128 lb R.2.2.2.2.2 v107 0 (by decide) (by decide)) rfl rfl (Nat.le_of_ble_eq_true rfl) (by decide) rfl rfl 71 rfl (fun rv h1 q141 => ?_)
                obtain ⟨m142, n143, rfl, rfl, I144, K145, rm142⟩ := q141
                replace rm142 : (m142 lb 7).toInt = (m126 lb 7).toInt ∧ ((m126 lb 2).toInt < 160 → EMT lb m126 m142 v107.toInt (0 : Int32)) := by have q_ := rm142; (try rw [z140] at q_); exact q_
                have K145c := K145
                have w146 : (m142 86 3).toInt = (m126 86 3).toInt := congrArg Int32.toInt (K145 86 3 (wY_out (by omega) (by omega) (by omega)))
                have w147 : (m142 86 2).toInt = (m126 86 2).toInt := congrArg Int32.toInt (K145 86 2 (wY_out (by omega) (by omega) (by omega)))
                have w148 : (m142 86 4).toInt = (m126 86 4).toInt := congrArg Int32.toInt (K145 86 4 (wY_out (by omega) (by omega) (by omega)))
                have K145 := K129.trans (K145.sub (by first | exact wZ_wY | exact wZ_86))
                show PV _ _ _ _ _ _ _ 71 [.ref 86, .int 3, .int y14, .int v107] [] _
                have k71 := rm142.2 (by omega)
                refine iv_inc (M := mX7_readSum) (C := 1) dX7_readSum_71 74 rfl rfl (by decide) rfl rfl (by decide) (by omega) (by omega) (fun v150 ev150 => ?_)
                show PV _ _ _ _ _ _ _ 74 [.ref 86, .int 3, .int v150, .int v107] [] _
                refine pv_goto (M := mX7_readSum) (tgt := 12) dX7_readSum_74 (by decide) ?_
                refine pv_fg (lo2 := [.ref 86, .int 3, .int v150, pv_U]) ⟨Or.inr rfl, ⟨Or.inr rfl, ⟨Or.inr rfl, ⟨Or.inl rfl, trivial⟩⟩⟩⟩ ?_
                have kb3 : (m142 86 3).toInt = (m126 86 3).toInt := by omega
                have kbs : SU (tC m) 3 (m 86 3).toInt = LSu (tC m) 3 (m142 86 3).toInt := by rw [kgs, LSu_su kTX (by omega) kS, kT6.1]; congr 1; omega
                have kbt : isT (tC m (m142 86 3).toInt) = false := by rw [kb3]; exact kT6.2
                have kbz : SMZ (tC m) 3 lb m m142 (m 86 3).toInt (m142 86 3).toInt := by rw [kb3]; exact SMZ_s kgz kTX (by omega) kS kgt ks52 k57z k71 (by omega) (by unfold isO; omega) kT6.2
                exact ih21 v150 m142 n143 (by first | omega | assumption | exact (iv_rng _).2 | exact (iv_rng _).1 | decide) (by first | omega | assumption | exact (iv_rng _).2 | exact (iv_rng _).1 | decide) (by first | omega | assumption | (show (m142 86 3).toInt ≤ (m142 86 2).toInt; omega) | decide) (by first | omega | assumption | (show (m142 86 2).toInt = (m 86 2).toInt; omega) | decide) (by first | omega | assumption | (show (m142 lb 7).toInt = (m lb 7).toInt; omega) | decide) (by first | omega | assumption | (show (m 86 3).toInt + 1 + 2 * v150.toInt ≤ (m142 86 3).toInt; omega) | decide) kbs kbt kbz I144 K145 (by omega)
              · have c136 := iv_eq (X := v130.toInt) (Y := 0) c136 rfl (by decide)
                refine pv_iconst (M := mX7_readSum) (v := 0) dX7_readSum_60 61 rfl (by decide) ?_
                have z155 : (0 : Int32).toInt = 0 := by decide
                exact pv_iret (M := mX7_readSum) dX7_readSum_61 rfl rfl ⟨_, _, _, rfl, rfl, I128, K129, by decide, by decide, ⟨by omega, by omega, by omega, Or.inr ⟨by decide, by rw [kgs, LSu_su kTX (by omega) kS]; exact TRX_fl k57 (by omega)⟩, by omega, IFZ.no (by first | decide | omega)⟩⟩
    have z156 : (0 : Int32).toInt = 0 := by decide
    exact lp20 (((160 - 0) : Int).toNat + 1) 0 m4 n5 (by first | omega | assumption | exact (iv_rng _).2 | exact (iv_rng _).1 | decide) (by first | omega | assumption | exact (iv_rng _).2 | exact (iv_rng _).1 | decide) (by first | omega | assumption | (show (m4 86 3).toInt ≤ (m4 86 2).toInt; omega) | decide) (by first | omega | assumption | (show (m4 86 2).toInt = (m 86 2).toInt; omega) | decide) (by first | omega | assumption | (show (m4 lb 7).toInt = (m lb 7).toInt; omega) | decide) (by first | omega | assumption | (show (m 86 3).toInt + 1 + 2 * 0 ≤ (m4 86 3).toInt; omega) | decide) (TRX_ok k5 (by omega)).1 (TRX_ok k5 (by omega)).2 (SMZ_0 k5z) I6 K7 (by omega)
  · have c12 := iv_eq (X := v8.toInt) (Y := 0) c12 rfl (by decide)
    refine pv_iconst (M := mX7_readSum) (v := 0) dX7_readSum_8 9 rfl (by decide) ?_
    have z157 : (0 : Int32).toInt = 0 := by decide
    exact pv_iret (M := mX7_readSum) dX7_readSum_9 rfl rfl ⟨_, _, _, rfl, rfl, I6, K7, by decide, by decide, ⟨by omega, by omega, by omega, Or.inr ⟨by decide, TRX_fl k5 (by omega)⟩, by omega, IFZ.no (by first | decide | omega)⟩⟩

set_option maxHeartbeats 2000000 in
set_option maxRecDepth 20000 in
theorem s_X7_readFactor_v2z (g : pv_G) {T : List mv_T} {m : Nat → Nat → Int32} {n : Nat → Nat → Int64} {r : Nat → Value} {la lb : Nat} (hT : TX T) (I : IV BB m) (R : RX T r la lb) (hp0 : (m 86 3).toInt ≤ (m 86 2).toInt) (hp1 : TBC m) (hp2 : (m lb 2).toInt ≤ (m 86 3).toInt) : PM g mX7_readFactor yX7_readFactor (sqI T BB (wZ lb) r m 0 1 (fun m' v => (m 86 3).toInt ≤ (m' 86 3).toInt ∧ (m' 86 3).toInt ≤ (m' 86 2).toInt ∧ (m' 86 2).toInt = (m 86 2).toInt ∧ (RSX (FA (tC m) 4 (m 86 3).toInt) v.toInt (m' 86 3).toInt (m' 86 4).toInt) ∧ (m' lb 7).toInt = (m lb 7).toInt ∧ IFZ v.toInt (CDS lb m m' 9 (FAD (tC m) 4 (m 86 3).toInt) ((m' 86 3).toInt - (m 86 3).toInt)))) 17 0 0 [.ref 86, .int 2] (mk T m n r) := by
  have Kp : fr (wZ lb) m m := fr.rf
  have R0 := R
  have zR := R.2.2.2.2.1.1
  have zR2 := R.2.2.2.2.2.1
  have z124 : 0 ≤ (m 86 3).toInt ∧ (m 86 3).toInt ≤ 160 := I 86 3
  have z125 : 0 ≤ (m 86 2).toInt ∧ (m 86 2).toInt ≤ 160 := I 86 2
  refine PM.of 1 (lo := [.ref 86, .int 2, pv_U]) rfl (by decide) rfl rfl (Nat.le_of_ble_eq_true rfl) ?_
  refine pv_aload_n (M := mX7_readFactor) 0 dX7_readFactor_0 1 rfl rfl rfl ?_
  refine pv_callv (M := mX7_readFactor) (as := []) (st := []) (kc2 := 0) (ks2 := 0) dX7_readFactor_1 wd527 YX7_peek ⟨wd529, wd2⟩ (mk_get (tl86 hT)) rfl rfl (s_X7_peek_vx g hT I R) rfl rfl (Nat.le_of_ble_eq_true rfl) (by decide) rfl rfl 4 rfl (fun rv h1 q1 => ?_)
  obtain ⟨v2, rfl, rfl, pv2, qv2, rv2⟩ := q1
  replace rv2 : v2.toInt = tC m (m 86 3).toInt ∧ (v2.toInt = -1 ∨ (m 86 3).toInt < (m 86 2).toInt) := rv2
  show PV _ _ _ _ _ _ _ 4 [.ref 86, .int 2, pv_U] [.int v2] _
  have k4 := rv2.1
  have k4b := rv2.2
  refine pv_bipush (M := mX7_readFactor) (v := 91) dX7_readFactor_4 6 rfl (by decide) ?_
  refine pv_icmp_ne (M := mX7_readFactor) (tgt := 42) dX7_readFactor_6 9 rfl (by decide) (fun c5 => ?_) (fun c5 => ?_)
  · have c5 := iv_ne (X := v2.toInt) (Y := 91) c5 rfl (by decide)
    have kn91 : tC m (m 86 3).toInt ≠ 91 := by omega
    refine pv_aload_n (M := mX7_readFactor) 0 dX7_readFactor_42 43 rfl rfl rfl ?_
    refine pv_callv (M := mX7_readFactor) (as := []) (st := []) (kc2 := 0) (ks2 := 0) dX7_readFactor_43 wd559 YX7_digitAhead ⟨wd561, wd9⟩ (mk_get (tl86 hT)) rfl rfl (s_X7_digitAhead_vx g hT I R) rfl rfl (Nat.le_of_ble_eq_true rfl) (by decide) rfl rfl 46 rfl (fun rv h1 q7 => ?_)
    obtain ⟨v8, rfl, rfl, pv8, qv8, rv8⟩ := q7
    replace rv8 : (v8 = 0 ∨ ((m 86 3).toInt < (m 86 2).toInt ∧ 48 ≤ (m 87 (m 86 3).toInt.toNat).toInt ∧ (m 87 (m 86 3).toInt.toNat).toInt ≤ 57)) ∧ ((v8.toInt = 1 ∧ dig (tC m (m 86 3).toInt) = true) ∨ (v8.toInt = 0 ∧ dig (tC m (m 86 3).toInt) = false)) := rv8
    show PV _ _ _ _ _ _ _ 46 [.ref 86, .int 2, pv_U] [.int v8] _
    have k46 := rv8.2
    refine pv_if_eq (M := mX7_readFactor) (tgt := 54) dX7_readFactor_46 49 rfl (by decide) (fun c10 => ?_) (fun c10 => ?_)
    · have c10 := iv_eq (X := v8.toInt) (Y := 0) c10 rfl (by decide)
      have kdn := (k46.resolve_left (fun q => by have q1 := q.1; omega)).2
      refine pv_aload_n (M := mX7_readFactor) 0 dX7_readFactor_54 55 rfl rfl rfl ?_
      refine pv_callv (M := mX7_readFactor) (as := []) (st := []) (kc2 := 0) (ks2 := 0) dX7_readFactor_55 wd527 YX7_peek ⟨wd529, wd2⟩ (mk_get (tl86 hT)) rfl rfl (s_X7_peek_vx g hT I R) rfl rfl (Nat.le_of_ble_eq_true rfl) (by decide) rfl rfl 58 rfl (fun rv h1 q12 => ?_)
      obtain ⟨v13, rfl, rfl, pv13, qv13, rv13⟩ := q12
      replace rv13 : v13.toInt = tC m (m 86 3).toInt ∧ (v13.toInt = -1 ∨ (m 86 3).toInt < (m 86 2).toInt) := rv13
      show PV _ _ _ _ _ _ _ 58 [.ref 86, .int 2, pv_U] [.int v13] _
      have k58 := rv13.1
      refine pv_iconst (M := mX7_readFactor) (v := (-1)) dX7_readFactor_58 59 rfl (by decide) ?_
      refine pv_icmp_ne (M := mX7_readFactor) (tgt := 66) dX7_readFactor_59 62 rfl (by decide) (fun c15 => ?_) (fun c15 => ?_)
      · have c15 := iv_ne (X := v13.toInt) (Y := (-1)) c15 rfl (by decide)
        refine pv_ldcS (M := mX7_readFactor) dX7_readFactor_66 rfl 68 rfl ?_
        refine pv_aload_n (M := mX7_readFactor) 0 dX7_readFactor_68 69 rfl rfl rfl ?_
        refine pv_callv (M := mX7_readFactor) (as := []) (st := [.retAddr (g.2.2.1 6 + 1)]) (kc2 := 0) (ks2 := 0) dX7_readFactor_69 wd527 YX7_peek ⟨wd529, wd2⟩ (mk_get (tl86 hT)) rfl rfl (s_X7_peek_vx g hT I R) rfl rfl (Nat.le_of_ble_eq_true rfl) (by decide) rfl rfl 72 rfl (fun rv h1 q16 => ?_)
        obtain ⟨v17, rfl, rfl, pv17, qv17, rv17⟩ := q16
        replace rv17 : v17.toInt = tC m (m 86 3).toInt ∧ (v17.toInt = -1 ∨ (m 86 3).toInt < (m 86 2).toInt) := rv17
        show PV _ _ _ _ _ _ _ 72 [.ref 86, .int 2, pv_U] [.int v17, .retAddr (g.2.2.1 6 + 1)] _
        have k72 := rv17.1
        have kb72 := hp1 (m 86 3).toInt
        refine iv_i2cU (M := mX7_readFactor) dX7_readFactor_72 73 rfl (fun v20 ev20 => ?_)
        have k73 := i2c_eq ev20 (by omega) (by omega)
        refine pv_callvS (M := mX7_readFactor) (as := [.int v20]) (st := []) (kc2 := 0) (ks2 := 0) dX7_readFactor_73 wd572 YJ0_indexOf_0f7a4 ⟨wd573, wd574⟩ rfl (s_J0_indexOf_0f7a4_vx g hT I v20 (by omega) (by omega)) rfl rfl (Nat.le_of_ble_eq_true rfl) (by decide) rfl rfl 76 rfl (fun rv h1 q22 => ?_)
        obtain ⟨v23, rfl, rfl, pv23, qv23, rv23⟩ := q22
        replace rv23 : v23.toInt = nix v20.toInt := rv23
        show PV _ _ _ _ _ _ _ 76 [.ref 86, .int 2, pv_U] [.int v23] _
        have k76 : v23.toInt = nix (tC m (m 86 3).toInt) := by first | (rw [show tC m (m 86 3).toInt = -1 by omega]; decide) | (rw [rv23, k73, k72])
        refine pv_istore_n (M := mX7_readFactor) 2 (lo2 := [.ref 86, .int 2, .int v23]) dX7_readFactor_76 77 rfl rfl (by decide) rfl rfl ?_
        refine pv_iload_n (M := mX7_readFactor) 2 dX7_readFactor_77 78 rfl rfl rfl ?_
        refine pv_if_ge (M := mX7_readFactor) (tgt := 87) dX7_readFactor_78 81 rfl (by decide) (fun c25 => ?_) (fun c25 => ?_)
        · have c25 := iv_le (X := 0) (Y := v23.toInt) c25 (by decide) rfl
          have k87 : (m 86 3).toInt < (m 86 2).toInt := by have := nix_b (x := tC m (m 86 3).toInt) (by omega); omega
          refine pv_aload_n (M := mX7_readFactor) 0 dX7_readFactor_87 88 rfl rfl rfl ?_
          refine mv_get (M := mX7_readFactor) (v := .ref lb) dX7_readFactor_88 FX7 1 wd281 (by decide) (tl86 hT) rfl R.2.2.2.1 91 rfl ?_
          refine pv_bipush (M := mX7_readFactor) (v := 36) dX7_readFactor_91 93 rfl (by decide) ?_
          refine pv_iload_n (M := mX7_readFactor) 2 dX7_readFactor_93 94 rfl rfl rfl ?_
          have z27 : (36 : Int32).toInt = 36 := by decide
          refine pv_callv (M := mX7_readFactor) (as := [.int 36, .int v23]) (st := []) (kc2 := 0) (ks2 := 0) dX7_readFactor_94 wd567 YX6_emit ⟨wd568, wd569⟩ (mk_get R.2.2.2.2.2.2.1) rfl rfl (s_X6_emit_vz g hT I lb R.2.2.2.2.2 36 v23 (by omega) (by omega)) rfl rfl (Nat.le_of_ble_eq_true rfl) (by decide) rfl rfl 97 rfl (fun rv h1 q28 => ?_)
          obtain ⟨m29, n30, rfl, rfl, I31, K32, rm29⟩ := q28
          replace rm29 : (m29 lb 7).toInt = (m lb 7).toInt ∧ ((m lb 2).toInt < 160 → EMT lb m m29 (36 : Int) v23) := by have q_ := rm29; (try rw [z27] at q_); exact q_
          have K32c := K32
          have w33 : (m29 86 3).toInt = (m 86 3).toInt := congrArg Int32.toInt (K32 86 3 (wY_out (by omega) (by omega) (by omega)))
          have w34 : (m29 86 2).toInt = (m 86 2).toInt := congrArg Int32.toInt (K32 86 2 (wY_out (by omega) (by omega) (by omega)))
          have w35 : (m29 86 4).toInt = (m 86 4).toInt := congrArg Int32.toInt (K32 86 4 (wY_out (by omega) (by omega) (by omega)))
          have K32 := Kp.trans (K32.sub (by first | exact wZ_wY | exact wZ_86))
          show PV _ _ _ _ _ _ _ 97 [.ref 86, .int 2, .int v23] [] _
          have klB := I lb 2
          rw [law_b2 R.2.2.2.2.2] at klB
          have klb0 : 0 ≤ (m lb 2).toInt := klB.1
          have k97 := rm29.2 (by omega)
          refine pv_aload_n (M := mX7_readFactor) 0 dX7_readFactor_97 98 rfl rfl rfl ?_
          refine pv_dup (M := mX7_readFactor) dX7_readFactor_98 99 rfl rfl ?_
          refine iv_get (M := mX7_readFactor) (l1 := 0) (l2 := 160) dX7_readFactor_99 FX7 3 wd283 (by decide) (tl86 hT) rfl I31 rfl 102 rfl (fun v40 ev40 pv40 qv40 => ?_)
          have wv40 : v40.toInt = (m29 86 3).toInt := congrArg Int32.toInt ev40
          refine pv_iconst (M := mX7_readFactor) (v := 1) dX7_readFactor_102 103 rfl (by decide) ?_
          refine iv_iadd (M := mX7_readFactor) (X := v40.toInt) (Y := 1) dX7_readFactor_103 104 rfl rfl (by decide) (by omega) (by omega) (fun v41 ev41 => ?_)
          refine iv_put (M := mX7_readFactor) (l1 := 0) (l2 := 160) dX7_readFactor_104 FX7 3 wd283 (by decide) rfl (tl86 hT) rfl rfl rfl I31 rfl (by omega) (by omega) 107 rfl (fun m42 e45 I43 => ?_)
          have K44 := K32.set e45 (by first | rfl | decide)
          have w46 : (m42 86 3).toInt = v41.toInt := by rw [e45, up2_eq]
          have w47 : (m42 86 2).toInt = (m29 86 2).toInt := by rw [e45, up2_ne (by omega)]
          have w48 : (m42 86 4).toInt = (m29 86 4).toInt := by rw [e45, up2_ne (by omega)]
          have w49 : (m42 lb 7).toInt = (m29 lb 7).toInt := by rw [e45, up2_ne (by omega)]
          have w50 : (m42 lb 2).toInt = (m29 lb 2).toInt := by rw [e45, up2_ne (by omega)]
          refine pv_iconst (M := mX7_readFactor) (v := 1) dX7_readFactor_107 108 rfl (by decide) ?_
          have z51 : (1 : Int32).toInt = 1 := by decide
          exact pv_iret (M := mX7_readFactor) dX7_readFactor_108 rfl rfl ⟨_, _, _, rfl, rfl, I43, K44, by decide, by decide, ⟨by omega, by omega, by omega, Or.inl ⟨by decide, by rw [FA_atom kn91, AT_nam kdn (nix_y (by omega)), show (m 86 3).toInt + 1 = (m42 86 3).toInt by omega]⟩, by omega, IFZ.is (by rw [FAD_at kn91, atD_nam kdn]; exact CDS.wk (CDS.post (CDS.nam (by omega) k97 (da := 1) (by omega) (by omega)) (SAML.set zR2 e45)) (by omega) (by omega))⟩⟩
        · have c25 := iv_nle (X := 0) (Y := v23.toInt) c25 (by decide) rfl
          refine pv_aload_n (M := mX7_readFactor) 0 dX7_readFactor_81 82 rfl rfl rfl ?_
          refine pv_iconst (M := mX7_readFactor) (v := 1) dX7_readFactor_82 83 rfl (by decide) ?_
          have z52 : (1 : Int32).toInt = 1 := by decide
          refine pv_callv (M := mX7_readFactor) (as := [.int 1]) (st := []) (kc2 := 0) (ks2 := 0) dX7_readFactor_83 wd531 YX7_fail ⟨wd533, wd3⟩ (mk_get (tl86 hT)) rfl rfl (s_X7_fail_vz g hT I R 1 (by decide) (by decide) (by first | omega | assumption | exact (iv_rng _).2 | exact (iv_rng _).1 | decide)) rfl rfl (Nat.le_of_ble_eq_true rfl) (by decide) rfl rfl 86 rfl (fun rv h1 q53 => ?_)
          obtain ⟨m54, n55, v58, rfl, rfl, I56, K57, pv58, qv58, rv58⟩ := q53
          replace rv58 : (m 86 3).toInt ≤ (m54 86 3).toInt ∧ (m54 86 3).toInt ≤ (m54 86 2).toInt ∧ (m54 86 2).toInt = (m 86 2).toInt ∧ (v58.toInt = 0 ∧ (m54 86 3).toInt = (m 86 3).toInt ∧ (m54 86 4).toInt = -1000 * (1 : Int) - (m 86 3).toInt) ∧ (m54 lb 7).toInt = (m lb 7).toInt := by have q_ := rv58; (try rw [z52] at q_); exact q_
          have K57c := K57
          have w59 : (m54 86 2).toInt = (m 86 2).toInt := congrArg Int32.toInt (K57 86 2 rfl)
          have K57 := Kp.trans (K57.sub (by first | exact wZ_wY | exact wZ_86))
          show PV _ _ _ _ _ _ _ 86 [.ref 86, .int 2, .int v23] [.int v58] _
          exact pv_iret (M := mX7_readFactor) dX7_readFactor_86 rfl (iv_nz (by omega) (by omega)) ⟨_, _, _, rfl, rfl, I56, K57, by omega, by omega, ⟨by omega, by omega, by omega, Or.inr ⟨by omega, FLT_of (a := 1) (p := (m 86 3).toInt) (by rw [FA_atom kn91]; exact AT_no kdn (nix_no (by omega))) (by decide) (by omega)⟩, by omega, IFZ.no (by first | decide | omega)⟩⟩
      · have c15 := iv_eq (X := v13.toInt) (Y := (-1)) c15 rfl (by decide)
        refine pv_iconst (M := mX7_readFactor) (v := (-1)) dX7_readFactor_62 63 rfl (by decide) ?_
        refine pv_goto (M := mX7_readFactor) (tgt := 76) dX7_readFactor_63 (by decide) ?_
        have k76 : (-1) = nix (tC m (m 86 3).toInt) := by first | (rw [show tC m (m 86 3).toInt = -1 by omega]; decide) | (rw [rlit, k73, k72])
        refine pv_istore_n (M := mX7_readFactor) 2 (lo2 := [.ref 86, .int 2, .int (-1)]) dX7_readFactor_76 77 rfl rfl (by decide) rfl rfl ?_
        refine pv_iload_n (M := mX7_readFactor) 2 dX7_readFactor_77 78 rfl rfl rfl ?_
        refine pv_if_ge (M := mX7_readFactor) (tgt := 87) dX7_readFactor_78 81 rfl (by decide) (fun q => absurd q (by decide)) (fun _ => ?_)
        refine pv_aload_n (M := mX7_readFactor) 0 dX7_readFactor_81 82 rfl rfl rfl ?_
        refine pv_iconst (M := mX7_readFactor) (v := 1) dX7_readFactor_82 83 rfl (by decide) ?_
        have z62 : (1 : Int32).toInt = 1 := by decide
        refine pv_callv (M := mX7_readFactor) (as := [.int 1]) (st := []) (kc2 := 0) (ks2 := 0) dX7_readFactor_83 wd531 YX7_fail ⟨wd533, wd3⟩ (mk_get (tl86 hT)) rfl rfl (s_X7_fail_vz g hT I R 1 (by decide) (by decide) (by first | omega | assumption | exact (iv_rng _).2 | exact (iv_rng _).1 | decide)) rfl rfl (Nat.le_of_ble_eq_true rfl) (by decide) rfl rfl 86 rfl (fun rv h1 q63 => ?_)
        obtain ⟨m64, n65, v68, rfl, rfl, I66, K67, pv68, qv68, rv68⟩ := q63
        replace rv68 : (m 86 3).toInt ≤ (m64 86 3).toInt ∧ (m64 86 3).toInt ≤ (m64 86 2).toInt ∧ (m64 86 2).toInt = (m 86 2).toInt ∧ (v68.toInt = 0 ∧ (m64 86 3).toInt = (m 86 3).toInt ∧ (m64 86 4).toInt = -1000 * (1 : Int) - (m 86 3).toInt) ∧ (m64 lb 7).toInt = (m lb 7).toInt := by have q_ := rv68; (try rw [z62] at q_); exact q_
        have K67c := K67
        have w69 : (m64 86 2).toInt = (m 86 2).toInt := congrArg Int32.toInt (K67 86 2 rfl)
        have K67 := Kp.trans (K67.sub (by first | exact wZ_wY | exact wZ_86))
        show PV _ _ _ _ _ _ _ 86 [.ref 86, .int 2, .int (-1)] [.int v68] _
        exact pv_iret (M := mX7_readFactor) dX7_readFactor_86 rfl (iv_nz (by omega) (by omega)) ⟨_, _, _, rfl, rfl, I66, K67, by omega, by omega, ⟨by omega, by omega, by omega, Or.inr ⟨by omega, FLT_of (a := 1) (p := (m 86 3).toInt) (by rw [FA_atom kn91]; exact AT_no kdn (nix_no (by omega))) (by decide) (by omega)⟩, by omega, IFZ.no (by first | decide | omega)⟩⟩
    · have pc10 := rv8.1.resolve_left c10
      have c10 := iv_ne (X := v8.toInt) (Y := 0) c10 rfl (by decide)
      have kd := (k46.resolve_right (fun q => by have q1 := q.1; omega)).2
      refine pv_aload_n (M := mX7_readFactor) 0 dX7_readFactor_49 50 rfl rfl rfl ?_
      refine pv_callv (M := mX7_readFactor) (as := []) (st := []) (kc2 := 0) (ks2 := 0) dX7_readFactor_50 wd563 YX7_readNumber ⟨wd565, wd10⟩ (mk_get (tl86 hT)) rfl rfl (s_X7_readNumber_vz g hT I R (by first | omega | assumption | exact (iv_rng _).2 | exact (iv_rng _).1 | decide) (by first | omega | assumption | exact (iv_rng _).2 | exact (iv_rng _).1 | decide)) rfl rfl (Nat.le_of_ble_eq_true rfl) (by decide) rfl rfl 53 rfl (fun rv h1 q71 => ?_)
      obtain ⟨m72, n73, v76, rfl, rfl, I74, K75, pv76, qv76, rv76⟩ := q71
      replace rv76 : (m 86 3).toInt ≤ (m72 86 3).toInt ∧ (m72 86 3).toInt ≤ (m72 86 2).toInt ∧ (m72 86 2).toInt = (m 86 2).toInt ∧ (RSX (nd (tC m) 5 (m 86 3).toInt) v76.toInt (m72 86 3).toInt (m72 86 4).toInt) ∧ (m72 lb 7).toInt = (m lb 7).toInt ∧ IFZ v76.toInt (CDS lb m m72 1 (cD (Int32.ofInt (ndv (tC m) 5 (m 86 3).toInt 0))) 1) := rv76
      have K75c := K75
      have K75 := Kp.trans (K75.sub (fun _ _ q => q))
      show PV _ _ _ _ _ _ _ 53 [.ref 86, .int 2, pv_U] [.int v76] _
      have k53 := rv76.2.2.2.1
      have k53z := rv76.2.2.2.2.2
      exact pv_iret (M := mX7_readFactor) dX7_readFactor_53 rfl (iv_nz (by omega) (by omega)) ⟨_, _, _, rfl, rfl, I74, K75, by omega, by omega, ⟨by omega, by omega, by omega, (by rw [FA_atom kn91, AT_num kd]; exact k53), by omega, (fun q => by have k1 := RSX_ok k53 q; have k2 := atom_le (t := tC m) (p := (m 86 3).toInt) (by rw [AT_num kd, k1]); rw [AT_num kd, k1] at k2; have k3 : (m 86 3).toInt + 1 ≤ (m72 86 3).toInt := k2; rw [FAD_at kn91, atD_num kd]; exact CDS.wk (IFZ.get k53z q) (by omega) (by omega))⟩⟩
  · have c5 := iv_eq (X := v2.toInt) (Y := 91) c5 rfl (by decide)
    have k91 : tC m (m 86 3).toInt = 91 := by omega
    refine pv_aload_n (M := mX7_readFactor) 0 dX7_readFactor_9 10 rfl rfl rfl ?_
    refine pv_iload_n (M := mX7_readFactor) 1 dX7_readFactor_10 11 rfl rfl rfl ?_
    have z80 : (2 : Int32).toInt = 2 := by decide
    refine pv_callv (M := mX7_readFactor) (as := [.int 2]) (st := []) (kc2 := 0) (ks2 := 0) dX7_readFactor_11 wd551 YX7_open ⟨wd553, wd7⟩ (mk_get (tl86 hT)) rfl rfl (s_X7_open_vz g hT I R 2 (by decide) (by decide) (by first | omega | assumption | exact (iv_rng _).2 | exact (iv_rng _).1 | decide)) rfl rfl (Nat.le_of_ble_eq_true rfl) (by decide) rfl rfl 14 rfl (fun rv h1 q81 => ?_)
    obtain ⟨m82, n83, v86, rfl, rfl, I84, K85, pv86, qv86, rv86⟩ := q81
    replace rv86 : (v86 = 0 ∨ (2 : Int) ≤ 5) ∧ (m 86 3).toInt ≤ (m82 86 3).toInt ∧ (m82 86 3).toInt ≤ (m82 86 2).toInt ∧ (m82 86 2).toInt = (m 86 2).toInt ∧ ((v86.toInt = 1 ∧ (2 : Int) ≤ 5 ∧ (m82 86 3).toInt = (m 86 3).toInt + 1) ∨ (v86.toInt = 0 ∧ 6 ≤ (2 : Int) ∧ (m82 86 4).toInt = -5000 - (m 86 3).toInt ∧ (m82 86 3).toInt = (m 86 3).toInt)) ∧ (m82 lb 7).toInt = (m lb 7).toInt := by have q_ := rv86; (try rw [z80] at q_); exact q_
    have K85c := K85
    have w87 : (m82 86 2).toInt = (m 86 2).toInt := congrArg Int32.toInt (K85 86 2 rfl)
    have K85 := Kp.trans (K85.sub (by first | exact wZ_wY | exact wZ_86))
    show PV _ _ _ _ _ _ _ 14 [.ref 86, .int 2, pv_U] [.int v86] _
    refine pv_if_eq (M := mX7_readFactor) (tgt := 40) dX7_readFactor_14 17 rfl (by decide) (fun c88 => ?_) (fun c88 => ?_)
    · have c88 := iv_eq (X := v86.toInt) (Y := 0) c88 rfl (by decide)
      refine pv_iconst (M := mX7_readFactor) (v := 0) dX7_readFactor_40 41 rfl (by decide) ?_
      have z89 : (0 : Int32).toInt = 0 := by decide
      exact pv_iret (M := mX7_readFactor) dX7_readFactor_41 rfl rfl ⟨_, _, _, rfl, rfl, I84, K85, by decide, by decide, ⟨by omega, by omega, by omega, (by first | exact Or.inr ⟨by decide, FX_deep k91 (by omega)⟩ | exact Or.inr ⟨by decide, FX_cn k91 k27 (fun z => by omega) (by omega)⟩ | exact Or.inl ⟨by decide, FX_co k91 k27 (by omega) (by omega)⟩ | exact Or.inr ⟨by decide, FX_sum k91 (RSX_fl k24 (by omega))⟩ | (exfalso; omega)), by omega, (by first | exact IFZ.is (by rw [FAD_opn k91]; exact CDS.wk (CDS.post (CDS.pre ks17 (IFZ.get k24z (by omega)) (Int.le_refl _)) ks33) (by omega) (by omega)) | exact IFZ.no (by first | decide | omega))⟩⟩
    · have pc88 := rv86.1.resolve_left c88
      have c88 := iv_ne (X := v86.toInt) (Y := 0) c88 rfl (by decide)
      have kt17 : tC m82 = tC m := tC_fz zR2 K85
      have kp17 : (m82 86 3).toInt = (m 86 3).toInt + 1 := by omega
      have ks17 : SAML lb m m82 := SAML.fz zR2 K85c
      have kl17 : (m82 lb 2).toInt = (m lb 2).toInt := congrArg Int32.toInt ks17.1
      refine pv_aload_n (M := mX7_readFactor) 0 dX7_readFactor_17 18 rfl rfl rfl ?_
      refine pv_iload_n (M := mX7_readFactor) 1 dX7_readFactor_18 19 rfl rfl rfl ?_
      refine pv_iconst (M := mX7_readFactor) (v := 1) dX7_readFactor_19 20 rfl (by decide) ?_
      refine pv_iadd (M := mX7_readFactor) (v := 3) dX7_readFactor_20 21 rfl (by decide) ?_
      have z95 : (3 : Int32).toInt = 3 := by decide
      refine pv_callv (M := mX7_readFactor) (as := [.int 3]) (st := []) (kc2 := 0) (ks2 := 0) dX7_readFactor_21 wd539 YX7_readSum ⟨wd541, wd4⟩ (mk_get (tl86 hT)) rfl rfl (s_X7_readSum_v3z g hT I84 R (by first | omega | assumption | exact (iv_rng _).2 | exact (iv_rng _).1 | decide) (TBC_eq hp1 kt17) (by first | omega | assumption | exact (iv_rng _).2 | exact (iv_rng _).1 | decide)) rfl rfl (Nat.le_of_ble_eq_true rfl) (by decide) rfl rfl 24 rfl (fun rv h1 q96 => ?_)
      obtain ⟨m97, n98, v101, rfl, rfl, I99, K100, pv101, qv101, rv101⟩ := q96
      replace rv101 : (m82 86 3).toInt ≤ (m97 86 3).toInt ∧ (m97 86 3).toInt ≤ (m97 86 2).toInt ∧ (m97 86 2).toInt = (m82 86 2).toInt ∧ (RSX (SU (tC m82) 3 (m82 86 3).toInt) v101.toInt (m97 86 3).toInt (m97 86 4).toInt) ∧ (m97 lb 7).toInt = (m82 lb 7).toInt ∧ IFZ v101.toInt (CDS lb m82 m97 9 (SUD (tC m82) 3 (m82 86 3).toInt) ((m97 86 3).toInt - (m82 86 3).toInt)) := by have q_ := rv101; (try rw [z95] at q_); exact q_
      have K100c := K100
      have K100 := K85.trans (K100.sub (fun _ _ q => q))
      show PV _ _ _ _ _ _ _ 24 [.ref 86, .int 2, pv_U] [.int v101] _
      have k24 := rv101.2.2.2.1
      rw [kt17, kp17] at k24
      have k24z := rv101.2.2.2.2.2
      rw [kt17, kp17] at k24z
      refine pv_if_eq (M := mX7_readFactor) (tgt := 40) dX7_readFactor_24 27 rfl (by decide) (fun c106 => ?_) (fun c106 => ?_)
      · have c106 := iv_eq (X := v101.toInt) (Y := 0) c106 rfl (by decide)
        refine pv_iconst (M := mX7_readFactor) (v := 0) dX7_readFactor_40 41 rfl (by decide) ?_
        have z107 : (0 : Int32).toInt = 0 := by decide
        exact pv_iret (M := mX7_readFactor) dX7_readFactor_41 rfl rfl ⟨_, _, _, rfl, rfl, I99, K100, by decide, by decide, ⟨by omega, by omega, by omega, (by first | exact Or.inr ⟨by decide, FX_deep k91 (by omega)⟩ | exact Or.inr ⟨by decide, FX_cn k91 k27 (fun z => by omega) (by omega)⟩ | exact Or.inl ⟨by decide, FX_co k91 k27 (by omega) (by omega)⟩ | exact Or.inr ⟨by decide, FX_sum k91 (RSX_fl k24 (by omega))⟩ | (exfalso; omega)), by omega, (by first | exact IFZ.is (by rw [FAD_opn k91]; exact CDS.wk (CDS.post (CDS.pre ks17 (IFZ.get k24z (by omega)) (Int.le_refl _)) ks33) (by omega) (by omega)) | exact IFZ.no (by first | decide | omega))⟩⟩
      · have c106 := iv_ne (X := v101.toInt) (Y := 0) c106 rfl (by decide)
        have k27 := RSX_ok k24 (by omega)
        have kt27 : tC m97 = tC m := tC_fz zR2 K100
        refine pv_aload_n (M := mX7_readFactor) 0 dX7_readFactor_27 28 rfl rfl rfl ?_
        refine pv_bipush (M := mX7_readFactor) (v := 93) dX7_readFactor_28 30 rfl (by decide) ?_
        have z110 : (93 : Int32).toInt = 93 := by decide
        refine pv_callv (M := mX7_readFactor) (as := [.int 93]) (st := []) (kc2 := 0) (ks2 := 0) dX7_readFactor_30 wd555 YX7_pass ⟨wd557, wd8⟩ (mk_get (tl86 hT)) rfl rfl (s_X7_pass_vz g hT I99 R 93 (by decide) (by decide) (by first | omega | assumption | exact (iv_rng _).2 | exact (iv_rng _).1 | decide)) rfl rfl (Nat.le_of_ble_eq_true rfl) (by decide) rfl rfl 33 rfl (fun rv h1 q111 => ?_)
        obtain ⟨m112, n113, v116, rfl, rfl, I114, K115, pv116, qv116, rv116⟩ := q111
        replace rv116 : (m97 86 3).toInt ≤ (m112 86 3).toInt ∧ (m112 86 3).toInt ≤ (m112 86 2).toInt ∧ (m112 86 2).toInt = (m97 86 2).toInt ∧ ((v116.toInt = 1 ∧ tC m97 (m97 86 3).toInt = (93 : Int) ∧ (m112 86 3).toInt = (m97 86 3).toInt + 1) ∨ (v116.toInt = 0 ∧ tC m97 (m97 86 3).toInt ≠ (93 : Int) ∧ (m112 86 4).toInt = -1000 - (m97 86 3).toInt ∧ (m112 86 3).toInt = (m97 86 3).toInt)) ∧ (m112 lb 7).toInt = (m97 lb 7).toInt := by have q_ := rv116; (try rw [z110] at q_); exact q_
        have K115c := K115
        have w117 : (m112 86 2).toInt = (m97 86 2).toInt := congrArg Int32.toInt (K115 86 2 rfl)
        have K115 := K100.trans (K115.sub (by first | exact wZ_wY | exact wZ_86))
        show PV _ _ _ _ _ _ _ 33 [.ref 86, .int 2, pv_U] [.int v116] _
        have k33 := rv116.2.2.2.1
        rw [kt27] at k33
        have ks33 : SAML lb m97 m112 := SAML.fz zR2 K115c
        refine pv_if_eq (M := mX7_readFactor) (tgt := 40) dX7_readFactor_33 36 rfl (by decide) (fun c121 => ?_) (fun c121 => ?_)
        · have c121 := iv_eq (X := v116.toInt) (Y := 0) c121 rfl (by decide)
          refine pv_iconst (M := mX7_readFactor) (v := 0) dX7_readFactor_40 41 rfl (by decide) ?_
          have z122 : (0 : Int32).toInt = 0 := by decide
          exact pv_iret (M := mX7_readFactor) dX7_readFactor_41 rfl rfl ⟨_, _, _, rfl, rfl, I114, K115, by decide, by decide, ⟨by omega, by omega, by omega, (by first | exact Or.inr ⟨by decide, FX_deep k91 (by omega)⟩ | exact Or.inr ⟨by decide, FX_cn k91 k27 (fun z => by omega) (by omega)⟩ | exact Or.inl ⟨by decide, FX_co k91 k27 (by omega) (by omega)⟩ | exact Or.inr ⟨by decide, FX_sum k91 (RSX_fl k24 (by omega))⟩ | (exfalso; omega)), by omega, (by first | exact IFZ.is (by rw [FAD_opn k91]; exact CDS.wk (CDS.post (CDS.pre ks17 (IFZ.get k24z (by omega)) (Int.le_refl _)) ks33) (by omega) (by omega)) | exact IFZ.no (by first | decide | omega))⟩⟩
        · have c121 := iv_ne (X := v116.toInt) (Y := 0) c121 rfl (by decide)
          refine pv_iconst (M := mX7_readFactor) (v := 1) dX7_readFactor_36 37 rfl (by decide) ?_
          refine pv_goto (M := mX7_readFactor) (tgt := 41) dX7_readFactor_37 (by decide) ?_
          have z123 : (1 : Int32).toInt = 1 := by decide
          exact pv_iret (M := mX7_readFactor) dX7_readFactor_41 rfl rfl ⟨_, _, _, rfl, rfl, I114, K115, by decide, by decide, ⟨by omega, by omega, by omega, (by first | exact Or.inr ⟨by decide, FX_deep k91 (by omega)⟩ | exact Or.inr ⟨by decide, FX_cn k91 k27 (fun z => by omega) (by omega)⟩ | exact Or.inl ⟨by decide, FX_co k91 k27 (by omega) (by omega)⟩ | exact Or.inr ⟨by decide, FX_sum k91 (RSX_fl k24 (by omega))⟩ | (exfalso; omega)), by omega, (by first | exact IFZ.is (by rw [FAD_opn k91]; exact CDS.wk (CDS.post (CDS.pre ks17 (IFZ.get k24z (by omega)) (Int.le_refl _)) ks33) (by omega) (by omega)) | exact IFZ.no (by first | decide | omega))⟩⟩

set_option maxHeartbeats 2000000 in
set_option maxRecDepth 20000 in
theorem s_X7_readTerm_v2z (g : pv_G) {T : List mv_T} {m : Nat → Nat → Int32} {n : Nat → Nat → Int64} {r : Nat → Value} {la lb : Nat} (hT : TX T) (I : IV BB m) (R : RX T r la lb) (hp0 : (m 86 3).toInt ≤ (m 86 2).toInt) (hp1 : TBC m) (hp2 : (m lb 2).toInt ≤ (m 86 3).toInt) : PM g mX7_readTerm yX7_readTerm (sqI T BB (wZ lb) r m 0 1 (fun m' v => (m 86 3).toInt ≤ (m' 86 3).toInt ∧ (m' 86 3).toInt ≤ (m' 86 2).toInt ∧ (m' 86 2).toInt = (m 86 2).toInt ∧ ((v.toInt = 0 ∨ (m 86 3).toInt + 1 ≤ (m' 86 3).toInt) ∧ TRX (SU (tC m) 4 (m 86 3).toInt) (LSu (tC m) 4) (fun a => isT (tC m a) = false) v.toInt (m' 86 3).toInt (m' 86 4).toInt) ∧ (m' lb 7).toInt = (m lb 7).toInt ∧ IFZ v.toInt (TMZ (tC m) 4 lb m m' (m 86 3).toInt (m' 86 3).toInt))) 18 0 0 [.ref 86, .int 2] (mk T m n r) := by
  have Kp : fr (wZ lb) m m := fr.rf
  have R0 := R
  have zR := R.2.2.2.2.1.1
  have zR2 := R.2.2.2.2.2.1
  have z99 : 0 ≤ (m 86 3).toInt ∧ (m 86 3).toInt ≤ 160 := I 86 3
  have z100 : 0 ≤ (m 86 2).toInt ∧ (m 86 2).toInt ≤ 160 := I 86 2
  refine PM.of 2 (lo := [.ref 86, .int 2, pv_U, pv_U]) rfl (by decide) rfl rfl (Nat.le_of_ble_eq_true rfl) ?_
  have kTX := TXT_C I
  refine pv_aload_n (M := mX7_readTerm) 0 dX7_readTerm_0 1 rfl rfl rfl ?_
  refine pv_iload_n (M := mX7_readTerm) 1 dX7_readTerm_1 2 rfl rfl rfl ?_
  have z2 : (2 : Int32).toInt = 2 := by decide
  refine pv_callv (M := mX7_readTerm) (as := [.int 2]) (st := []) (kc2 := 0) (ks2 := 0) dX7_readTerm_2 wd547 YX7_readFactor ⟨wd549, wd6⟩ (mk_get (tl86 hT)) rfl rfl (s_X7_readFactor_v2z g hT I R (by first | omega | assumption | exact (iv_rng _).2 | exact (iv_rng _).1 | decide) hp1 (by first | omega | assumption | exact (iv_rng _).2 | exact (iv_rng _).1 | decide)) rfl rfl (Nat.le_of_ble_eq_true rfl) (by decide) rfl rfl 5 rfl (fun rv h1 q3 => ?_)
  obtain ⟨m4, n5, v8, rfl, rfl, I6, K7, pv8, qv8, rv8⟩ := q3
  replace rv8 : (m 86 3).toInt ≤ (m4 86 3).toInt ∧ (m4 86 3).toInt ≤ (m4 86 2).toInt ∧ (m4 86 2).toInt = (m 86 2).toInt ∧ (RSX (FA (tC m) 4 (m 86 3).toInt) v8.toInt (m4 86 3).toInt (m4 86 4).toInt) ∧ (m4 lb 7).toInt = (m lb 7).toInt ∧ IFZ v8.toInt (CDS lb m m4 9 (FAD (tC m) 4 (m 86 3).toInt) ((m4 86 3).toInt - (m 86 3).toInt)) := by have q_ := rv8; (try rw [z2] at q_); exact q_
  have K7c := K7
  have K7 := Kp.trans (K7.sub (fun _ _ q => q))
  show PV _ _ _ _ _ _ _ 5 [.ref 86, .int 2, pv_U, pv_U] [.int v8] _
  have k5 := rv8.2.2.2.1
  have k5z0 := rv8.2.2.2.2.2
  refine pv_if_ne (M := mX7_readTerm) (tgt := 10) dX7_readTerm_5 8 rfl (by decide) (fun c11 => ?_) (fun c11 => ?_)
  · have c11 := iv_ne (X := v8.toInt) (Y := 0) c11 rfl (by decide)
    have kF0 := RSX_ok k5 (by omega)
    have kF1 := FA_le 4 (m 86 3).toInt (by rw [kF0])
    rw [kF0] at kF1
    have k5z := IFZ.get k5z0 (by omega)
    refine pv_iconst (M := mX7_readTerm) (v := 0) dX7_readTerm_10 11 rfl (by decide) ?_
    refine pv_istore_n (M := mX7_readTerm) 2 (lo2 := [.ref 86, .int 2, .int 0, pv_U]) dX7_readTerm_11 12 rfl rfl (by decide) rfl rfl ?_
    have lp22 : ∀ (fuel21 : Nat) (y16 : Int32) (m17 : Nat → Nat → Int32) (n18 : Nat → Nat → Int64), (0 ≤ y16.toInt) → (y16.toInt ≤ 160) → ((m17 86 3).toInt ≤ (m17 86 2).toInt) → ((m17 86 2).toInt = (m 86 2).toInt) → ((m17 lb 7).toInt = (m lb 7).toInt) → ((m 86 3).toInt + 1 + 2 * y16.toInt ≤ (m17 86 3).toInt) → (SU (tC m) 4 (m 86 3).toInt = LSu (tC m) 4 (m17 86 3).toInt) → (TMZ (tC m) 4 lb m m17 (m 86 3).toInt (m17 86 3).toInt) → IV BB m17 → fr (wZ lb) m m17 → ((160 - y16.toInt) : Int).toNat < fuel21 → PV none g mX7_readTerm (sqI T BB (wZ lb) r m 0 1 (fun m' v => (m 86 3).toInt ≤ (m' 86 3).toInt ∧ (m' 86 3).toInt ≤ (m' 86 2).toInt ∧ (m' 86 2).toInt = (m 86 2).toInt ∧ ((v.toInt = 0 ∨ (m 86 3).toInt + 1 ≤ (m' 86 3).toInt) ∧ TRX (SU (tC m) 4 (m 86 3).toInt) (LSu (tC m) 4) (fun a => isT (tC m a) = false) v.toInt (m' 86 3).toInt (m' 86 4).toInt) ∧ (m' lb 7).toInt = (m lb 7).toInt ∧ IFZ v.toInt (TMZ (tC m) 4 lb m m' (m 86 3).toInt (m' 86 3).toInt))) 18 0 0 12 [.ref 86, .int 2, .int y16, pv_U] [] (mk T m17 n18 r) := by
      intro fuel21
      induction fuel21 with
      | zero => intro y16 m17 n18 b24 b25 b26 b27 b28 b29 b30 b31 I19 K20 z32; omega
      | succ fuel21 ih23 =>
        intro y16 m17 n18 b24 b25 b26 b27 b28 b29 b30 b31 I19 K20 z32
        have z33 : 0 ≤ (m17 86 3).toInt ∧ (m17 86 3).toInt ≤ 160 := I19 86 3
        have z34 : 0 ≤ (m17 86 2).toInt ∧ (m17 86 2).toInt ≤ 160 := I19 86 2
        have kgs := (show SU (tC m) 4 (m 86 3).toInt = LSu (tC m) 4 (m17 86 3).toInt by assumption)
        have kt12 : tC m17 = tC m := tC_fz zR2 K20
        have kgz := (show TMZ (tC m) 4 lb m m17 (m 86 3).toInt (m17 86 3).toInt by assumption)
        have kgl := TMZ_b kgz
        refine pv_iload_n (M := mX7_readTerm) 2 dX7_readTerm_12 13 rfl rfl rfl ?_
        refine pv_sipush (M := mX7_readTerm) (v := 160) dX7_readTerm_13 16 rfl (by decide) ?_
        refine pv_icmp_ge (M := mX7_readTerm) (tgt := 66) dX7_readTerm_16 19 rfl (by decide) (fun c39 => ?_) (fun c39 => ?_)
        · have c39 := iv_le (X := 160) (Y := y16.toInt) c39 (by decide) rfl
          refine pv_iconst (M := mX7_readTerm) (v := 1) dX7_readTerm_66 67 rfl (by decide) ?_
          have z40 : (1 : Int32).toInt = 1 := by decide
          exact pv_iret (M := mX7_readTerm) dX7_readTerm_67 rfl rfl ⟨_, _, _, rfl, rfl, I19, K20, by decide, by decide, ⟨by omega, by omega, by omega, ⟨Or.inr (by omega), Or.inl ⟨by decide, kgs, by first | (exact (k23.resolve_left (fun q => by have q1 := q.1; omega)).2) | (exfalso; omega)⟩⟩, by omega, IFZ.is kgz⟩⟩
        · have c39 := iv_nle (X := 160) (Y := y16.toInt) c39 (by decide) rfl
          refine pv_aload_n (M := mX7_readTerm) 0 dX7_readTerm_19 20 rfl rfl rfl ?_
          refine pv_callv (M := mX7_readTerm) (as := []) (st := []) (kc2 := 0) (ks2 := 0) dX7_readTerm_20 wd654 YX7_timesAhead ⟨wd656, wd11⟩ (mk_get (tl86 hT)) rfl rfl (s_X7_timesAhead_vx g hT I19 R) rfl rfl (Nat.le_of_ble_eq_true rfl) (by decide) rfl rfl 23 rfl (fun rv h1 q41 => ?_)
          obtain ⟨v42, rfl, rfl, pv42, qv42, rv42⟩ := q41
          replace rv42 : (v42 = 0 ∨ (m17 86 3).toInt < (m17 86 2).toInt) ∧ ((v42.toInt = 1 ∧ isT (tC m17 (m17 86 3).toInt) = true) ∨ (v42.toInt = 0 ∧ isT (tC m17 (m17 86 3).toInt) = false)) := rv42
          show PV _ _ _ _ _ _ _ 23 [.ref 86, .int 2, .int y16, pv_U] [.int v42] _
          have k23 := rv42.2
          rw [kt12] at k23
          refine pv_if_eq (M := mX7_readTerm) (tgt := 66) dX7_readTerm_23 26 rfl (by decide) (fun c45 => ?_) (fun c45 => ?_)
          · have c45 := iv_eq (X := v42.toInt) (Y := 0) c45 rfl (by decide)
            refine pv_iconst (M := mX7_readTerm) (v := 1) dX7_readTerm_66 67 rfl (by decide) ?_
            have z46 : (1 : Int32).toInt = 1 := by decide
            exact pv_iret (M := mX7_readTerm) dX7_readTerm_67 rfl rfl ⟨_, _, _, rfl, rfl, I19, K20, by decide, by decide, ⟨by omega, by omega, by omega, ⟨Or.inr (by omega), Or.inl ⟨by decide, kgs, by first | (exact (k23.resolve_left (fun q => by have q1 := q.1; omega)).2) | (exfalso; omega)⟩⟩, by omega, IFZ.is kgz⟩⟩
          · have pc45 := rv42.1.resolve_left c45
            have c45 := iv_ne (X := v42.toInt) (Y := 0) c45 rfl (by decide)
            have kT := (k23.resolve_right (fun q => by have q1 := q.1; omega)).2
            refine pv_aload_n (M := mX7_readTerm) 0 dX7_readTerm_26 27 rfl rfl rfl ?_
            refine pv_callv (M := mX7_readTerm) (as := []) (st := []) (kc2 := 0) (ks2 := 0) dX7_readTerm_27 wd527 YX7_peek ⟨wd529, wd2⟩ (mk_get (tl86 hT)) rfl rfl (s_X7_peek_vx g hT I19 R) rfl rfl (Nat.le_of_ble_eq_true rfl) (by decide) rfl rfl 30 rfl (fun rv h1 q48 => ?_)
            obtain ⟨v49, rfl, rfl, pv49, qv49, rv49⟩ := q48
            replace rv49 : v49.toInt = tC m17 (m17 86 3).toInt ∧ (v49.toInt = -1 ∨ (m17 86 3).toInt < (m17 86 2).toInt) := rv49
            show PV _ _ _ _ _ _ _ 30 [.ref 86, .int 2, .int y16, pv_U] [.int v49] _
            have k30 : v49.toInt = tC m (m17 86 3).toInt := by rw [← kt12]; exact rv49.1
            refine pv_istore_n (M := mX7_readTerm) 3 (lo2 := [.ref 86, .int 2, .int y16, .int v49]) dX7_readTerm_30 31 rfl rfl (by decide) rfl rfl ?_
            refine pv_aload_n (M := mX7_readTerm) 0 dX7_readTerm_31 32 rfl rfl rfl ?_
            refine pv_dup (M := mX7_readTerm) dX7_readTerm_32 33 rfl rfl ?_
            refine iv_get (M := mX7_readTerm) (l1 := 0) (l2 := 160) dX7_readTerm_33 FX7 3 wd283 (by decide) (tl86 hT) rfl I19 rfl 36 rfl (fun v51 ev51 pv51 qv51 => ?_)
            have wv51 : v51.toInt = (m17 86 3).toInt := congrArg Int32.toInt ev51
            refine pv_iconst (M := mX7_readTerm) (v := 1) dX7_readTerm_36 37 rfl (by decide) ?_
            refine iv_iadd (M := mX7_readTerm) (X := v51.toInt) (Y := 1) dX7_readTerm_37 38 rfl rfl (by decide) (by omega) (by omega) (fun v52 ev52 => ?_)
            refine iv_put (M := mX7_readTerm) (l1 := 0) (l2 := 160) dX7_readTerm_38 FX7 3 wd283 (by decide) rfl (tl86 hT) rfl rfl rfl I19 rfl (by omega) (by omega) 41 rfl (fun m53 e56 I54 => ?_)
            have K55 := K20.set e56 (by first | rfl | decide)
            have w57 : (m53 86 3).toInt = v52.toInt := by rw [e56, up2_eq]
            have w58 : (m53 86 2).toInt = (m17 86 2).toInt := by rw [e56, up2_ne (by omega)]
            have w59 : (m53 86 4).toInt = (m17 86 4).toInt := by rw [e56, up2_ne (by omega)]
            have w60 : (m53 lb 7).toInt = (m17 lb 7).toInt := by rw [e56, up2_ne (by omega)]
            have w61 : (m53 lb 2).toInt = (m17 lb 2).toInt := by rw [e56, up2_ne (by omega)]
            have kt41 : tC m53 = tC m := tC_fz zR2 K55
            have kp41 : (m53 86 3).toInt = (m17 86 3).toInt + 1 := by omega
            have ks41 : SAML lb m17 m53 := SAML.set zR2 e56
            have kl41 : (m53 lb 2).toInt = (m17 lb 2).toInt := congrArg Int32.toInt ks41.1
            refine pv_aload_n (M := mX7_readTerm) 0 dX7_readTerm_41 42 rfl rfl rfl ?_
            refine pv_iload_n (M := mX7_readTerm) 1 dX7_readTerm_42 43 rfl rfl rfl ?_
            have z66 : (2 : Int32).toInt = 2 := by decide
            refine pv_callv (M := mX7_readTerm) (as := [.int 2]) (st := []) (kc2 := 0) (ks2 := 0) dX7_readTerm_43 wd547 YX7_readFactor ⟨wd549, wd6⟩ (mk_get (tl86 hT)) rfl rfl (s_X7_readFactor_v2z g hT I54 R (by first | omega | assumption | exact (iv_rng _).2 | exact (iv_rng _).1 | decide) (TBC_eq hp1 kt41) (by first | omega | assumption | exact (iv_rng _).2 | exact (iv_rng _).1 | decide)) rfl rfl (Nat.le_of_ble_eq_true rfl) (by decide) rfl rfl 46 rfl (fun rv h1 q67 => ?_)
            obtain ⟨m68, n69, v72, rfl, rfl, I70, K71, pv72, qv72, rv72⟩ := q67
            replace rv72 : (m53 86 3).toInt ≤ (m68 86 3).toInt ∧ (m68 86 3).toInt ≤ (m68 86 2).toInt ∧ (m68 86 2).toInt = (m53 86 2).toInt ∧ (RSX (FA (tC m53) 4 (m53 86 3).toInt) v72.toInt (m68 86 3).toInt (m68 86 4).toInt) ∧ (m68 lb 7).toInt = (m53 lb 7).toInt ∧ IFZ v72.toInt (CDS lb m53 m68 9 (FAD (tC m53) 4 (m53 86 3).toInt) ((m68 86 3).toInt - (m53 86 3).toInt)) := by have q_ := rv72; (try rw [z66] at q_); exact q_
            have K71c := K71
            have K71 := K55.trans (K71.sub (fun _ _ q => q))
            show PV _ _ _ _ _ _ _ 46 [.ref 86, .int 2, .int y16, .int v49] [.int v72] _
            have k46 := rv72.2.2.2.1
            rw [kt41, kp41] at k46
            have k46z0 := rv72.2.2.2.2.2
            rw [kt41, kp41] at k46z0
            refine pv_if_ne (M := mX7_readTerm) (tgt := 51) dX7_readTerm_46 49 rfl (by decide) (fun c77 => ?_) (fun c77 => ?_)
            · have c77 := iv_ne (X := v72.toInt) (Y := 0) c77 rfl (by decide)
              have kF4 := RSX_ok k46 (by omega)
              have kF5 := FA_le 4 ((m17 86 3).toInt + 1) (by rw [kF4])
              rw [kF4] at kF5
              have k46z := IFZ.get k46z0 (by omega)
              have k46b := CDS_b k46z
              refine pv_aload_n (M := mX7_readTerm) 0 dX7_readTerm_51 52 rfl rfl rfl ?_
              refine mv_get (M := mX7_readTerm) (v := .ref lb) dX7_readTerm_52 FX7 1 wd281 (by decide) (tl86 hT) rfl R.2.2.2.1 55 rfl ?_
              refine pv_iload_n (M := mX7_readTerm) 3 dX7_readTerm_55 56 rfl rfl rfl ?_
              refine pv_iconst (M := mX7_readTerm) (v := 0) dX7_readTerm_56 57 rfl (by decide) ?_
              have z83 : (0 : Int32).toInt = 0 := by decide
              refine pv_callv (M := mX7_readTerm) (as := [.int v49, .int 0]) (st := []) (kc2 := 0) (ks2 := 0) dX7_readTerm_57 wd567 YX6_emit ⟨wd568, wd569⟩ (mk_get R.2.2.2.2.2.2.1) rfl rfl (s_X6_emit_vz g hT I70 lb R.2.2.2.2.2 v49 0 (by decide) (by decide)) rfl rfl (Nat.le_of_ble_eq_true rfl) (by decide) rfl rfl 60 rfl (fun rv h1 q84 => ?_)
              obtain ⟨m85, n86, rfl, rfl, I87, K88, rm85⟩ := q84
              replace rm85 : (m85 lb 7).toInt = (m68 lb 7).toInt ∧ ((m68 lb 2).toInt < 160 → EMT lb m68 m85 v49.toInt (0 : Int32)) := by have q_ := rm85; (try rw [z83] at q_); exact q_
              have K88c := K88
              have w89 : (m85 86 3).toInt = (m68 86 3).toInt := congrArg Int32.toInt (K88 86 3 (wY_out (by omega) (by omega) (by omega)))
              have w90 : (m85 86 2).toInt = (m68 86 2).toInt := congrArg Int32.toInt (K88 86 2 (wY_out (by omega) (by omega) (by omega)))
              have w91 : (m85 86 4).toInt = (m68 86 4).toInt := congrArg Int32.toInt (K88 86 4 (wY_out (by omega) (by omega) (by omega)))
              have K88 := K71.trans (K88.sub (by first | exact wZ_wY | exact wZ_86))
              show PV _ _ _ _ _ _ _ 60 [.ref 86, .int 2, .int y16, .int v49] [] _
              have k60 := rm85.2 (by omega)
              refine iv_inc (M := mX7_readTerm) (C := 1) dX7_readTerm_60 63 rfl rfl (by decide) rfl rfl (by decide) (by omega) (by omega) (fun v93 ev93 => ?_)
              show PV _ _ _ _ _ _ _ 63 [.ref 86, .int 2, .int v93, .int v49] [] _
              refine pv_goto (M := mX7_readTerm) (tgt := 12) dX7_readTerm_63 (by decide) ?_
              refine pv_fg (lo2 := [.ref 86, .int 2, .int v93, pv_U]) ⟨Or.inr rfl, ⟨Or.inr rfl, ⟨Or.inr rfl, ⟨Or.inl rfl, trivial⟩⟩⟩⟩ ?_
              have kbs : SU (tC m) 4 (m 86 3).toInt = LSu (tC m) 4 (m85 86 3).toInt := by rw [kgs, LSu_ok kTX (by omega) (isT_S kT) kF4]; congr 1; omega
              have kbz : TMZ (tC m) 4 lb m m85 (m 86 3).toInt (m85 86 3).toInt := TMZ_s kgz kTX (by omega) kT (by rw [kF4]; congr 1; omega) ks41 k46z k60 (by omega) (by omega)
              exact ih23 v93 m85 n86 (by first | omega | assumption | exact (iv_rng _).2 | exact (iv_rng _).1 | decide) (by first | omega | assumption | exact (iv_rng _).2 | exact (iv_rng _).1 | decide) (by first | omega | assumption | (show (m85 86 3).toInt ≤ (m85 86 2).toInt; omega) | decide) (by first | omega | assumption | (show (m85 86 2).toInt = (m 86 2).toInt; omega) | decide) (by first | omega | assumption | (show (m85 lb 7).toInt = (m lb 7).toInt; omega) | decide) (by first | omega | assumption | (show (m 86 3).toInt + 1 + 2 * v93.toInt ≤ (m85 86 3).toInt; omega) | decide) kbs kbz I87 K88 (by omega)
            · have c77 := iv_eq (X := v72.toInt) (Y := 0) c77 rfl (by decide)
              refine pv_iconst (M := mX7_readTerm) (v := 0) dX7_readTerm_49 50 rfl (by decide) ?_
              have z96 : (0 : Int32).toInt = 0 := by decide
              exact pv_iret (M := mX7_readTerm) dX7_readTerm_50 rfl rfl ⟨_, _, _, rfl, rfl, I70, K71, by decide, by decide, ⟨by omega, by omega, by omega, ⟨Or.inl (by decide), Or.inr ⟨by decide, by rw [kgs]; exact LSu_fl kTX (by omega) (isT_S kT) (RSX_fl k46 (by omega))⟩⟩, by omega, IFZ.no (by first | decide | omega)⟩⟩
    have z97 : (0 : Int32).toInt = 0 := by decide
    exact lp22 (((160 - 0) : Int).toNat + 1) 0 m4 n5 (by first | omega | assumption | exact (iv_rng _).2 | exact (iv_rng _).1 | decide) (by first | omega | assumption | exact (iv_rng _).2 | exact (iv_rng _).1 | decide) (by first | omega | assumption | (show (m4 86 3).toInt ≤ (m4 86 2).toInt; omega) | decide) (by first | omega | assumption | (show (m4 86 2).toInt = (m 86 2).toInt; omega) | decide) (by first | omega | assumption | (show (m4 lb 7).toInt = (m lb 7).toInt; omega) | decide) (by first | omega | assumption | (show (m 86 3).toInt + 1 + 2 * 0 ≤ (m4 86 3).toInt; omega) | decide) (SU_ok kF0) (TMZ_0 k5z kF0) I6 K7 (by omega)
  · have c11 := iv_eq (X := v8.toInt) (Y := 0) c11 rfl (by decide)
    refine pv_iconst (M := mX7_readTerm) (v := 0) dX7_readTerm_8 9 rfl (by decide) ?_
    have z98 : (0 : Int32).toInt = 0 := by decide
    exact pv_iret (M := mX7_readTerm) dX7_readTerm_9 rfl rfl ⟨_, _, _, rfl, rfl, I6, K7, by decide, by decide, ⟨by omega, by omega, by omega, ⟨Or.inl (by decide), Or.inr ⟨by decide, SU_fl (RSX_fl k5 (by omega))⟩⟩, by omega, IFZ.no (by first | decide | omega)⟩⟩

set_option maxHeartbeats 2000000 in
set_option maxRecDepth 20000 in
theorem s_X7_readSum_v2z (g : pv_G) {T : List mv_T} {m : Nat → Nat → Int32} {n : Nat → Nat → Int64} {r : Nat → Value} {la lb : Nat} (hT : TX T) (I : IV BB m) (R : RX T r la lb) (hp0 : (m 86 3).toInt ≤ (m 86 2).toInt) (hp1 : TBC m) (hp2 : (m lb 2).toInt ≤ (m 86 3).toInt) : PM g mX7_readSum yX7_readSum (sqI T BB (wZ lb) r m 0 1 (fun m' v => (m 86 3).toInt ≤ (m' 86 3).toInt ∧ (m' 86 3).toInt ≤ (m' 86 2).toInt ∧ (m' 86 2).toInt = (m 86 2).toInt ∧ (RSX (SU (tC m) 4 (m 86 3).toInt) v.toInt (m' 86 3).toInt (m' 86 4).toInt) ∧ (m' lb 7).toInt = (m lb 7).toInt ∧ IFZ v.toInt (CDS lb m m' 11 (SUD (tC m) 4 (m 86 3).toInt) ((m' 86 3).toInt - (m 86 3).toInt)))) 19 0 0 [.ref 86, .int 2] (mk T m n r) := by
  have Kp : fr (wZ lb) m m := fr.rf
  have R0 := R
  have zR := R.2.2.2.2.1.1
  have zR2 := R.2.2.2.2.2.1
  have z158 : 0 ≤ (m 86 3).toInt ∧ (m 86 3).toInt ≤ 160 := I 86 3
  have z159 : 0 ≤ (m 86 2).toInt ∧ (m 86 2).toInt ≤ 160 := I 86 2
  refine PM.of 2 (lo := [.ref 86, .int 2, pv_U, pv_U]) rfl (by decide) rfl rfl (Nat.le_of_ble_eq_true rfl) ?_
  have kTX := TXT_C I
  refine pv_aload_n (M := mX7_readSum) 0 dX7_readSum_0 1 rfl rfl rfl ?_
  refine pv_iload_n (M := mX7_readSum) 1 dX7_readSum_1 2 rfl rfl rfl ?_
  have z2 : (2 : Int32).toInt = 2 := by decide
  refine pv_callv (M := mX7_readSum) (as := [.int 2]) (st := []) (kc2 := 0) (ks2 := 0) dX7_readSum_2 wd543 YX7_readTerm ⟨wd545, wd5⟩ (mk_get (tl86 hT)) rfl rfl (s_X7_readTerm_v2z g hT I R (by first | omega | assumption | exact (iv_rng _).2 | exact (iv_rng _).1 | decide) hp1 (by first | omega | assumption | exact (iv_rng _).2 | exact (iv_rng _).1 | decide)) rfl rfl (Nat.le_of_ble_eq_true rfl) (by decide) rfl rfl 5 rfl (fun rv h1 q3 => ?_)
  obtain ⟨m4, n5, v8, rfl, rfl, I6, K7, pv8, qv8, rv8⟩ := q3
  replace rv8 : (m 86 3).toInt ≤ (m4 86 3).toInt ∧ (m4 86 3).toInt ≤ (m4 86 2).toInt ∧ (m4 86 2).toInt = (m 86 2).toInt ∧ ((v8.toInt = 0 ∨ (m 86 3).toInt + 1 ≤ (m4 86 3).toInt) ∧ TRX (SU (tC m) 4 (m 86 3).toInt) (LSu (tC m) 4) (fun a => isT (tC m a) = false) v8.toInt (m4 86 3).toInt (m4 86 4).toInt) ∧ (m4 lb 7).toInt = (m lb 7).toInt ∧ IFZ v8.toInt (TMZ (tC m) 4 lb m m4 (m 86 3).toInt (m4 86 3).toInt) := by have q_ := rv8; (try rw [z2] at q_); exact q_
  have K7c := K7
  have K7 := Kp.trans (K7.sub (fun _ _ q => q))
  show PV _ _ _ _ _ _ _ 5 [.ref 86, .int 2, pv_U, pv_U] [.int v8] _
  have k5 := rv8.2.2.2.1.2
  have k5p := rv8.2.2.2.1.1
  have k5z0 := rv8.2.2.2.2.2
  refine pv_if_ne (M := mX7_readSum) (tgt := 10) dX7_readSum_5 8 rfl (by decide) (fun c12 => ?_) (fun c12 => ?_)
  · have c12 := iv_ne (X := v8.toInt) (Y := 0) c12 rfl (by decide)
    have k5z := IFZ.get k5z0 (by omega)
    refine pv_iconst (M := mX7_readSum) (v := 0) dX7_readSum_10 11 rfl (by decide) ?_
    refine pv_istore_n (M := mX7_readSum) 2 (lo2 := [.ref 86, .int 2, .int 0, pv_U]) dX7_readSum_11 12 rfl rfl (by decide) rfl rfl ?_
    have lp20 : ∀ (fuel19 : Nat) (y14 : Int32) (m15 : Nat → Nat → Int32) (n16 : Nat → Nat → Int64), (0 ≤ y14.toInt) → (y14.toInt ≤ 160) → ((m15 86 3).toInt ≤ (m15 86 2).toInt) → ((m15 86 2).toInt = (m 86 2).toInt) → ((m15 lb 7).toInt = (m lb 7).toInt) → ((m 86 3).toInt + 1 + 2 * y14.toInt ≤ (m15 86 3).toInt) → (SU (tC m) 4 (m 86 3).toInt = LSu (tC m) 4 (m15 86 3).toInt) → (isT (tC m (m15 86 3).toInt) = false) → (SMZ (tC m) 4 lb m m15 (m 86 3).toInt (m15 86 3).toInt) → IV BB m15 → fr (wZ lb) m m15 → ((160 - y14.toInt) : Int).toNat < fuel19 → PV none g mX7_readSum (sqI T BB (wZ lb) r m 0 1 (fun m' v => (m 86 3).toInt ≤ (m' 86 3).toInt ∧ (m' 86 3).toInt ≤ (m' 86 2).toInt ∧ (m' 86 2).toInt = (m 86 2).toInt ∧ (RSX (SU (tC m) 4 (m 86 3).toInt) v.toInt (m' 86 3).toInt (m' 86 4).toInt) ∧ (m' lb 7).toInt = (m lb 7).toInt ∧ IFZ v.toInt (CDS lb m m' 11 (SUD (tC m) 4 (m 86 3).toInt) ((m' 86 3).toInt - (m 86 3).toInt)))) 19 0 0 12 [.ref 86, .int 2, .int y14, pv_U] [] (mk T m15 n16 r) := by
      intro fuel19
      induction fuel19 with
      | zero => intro y14 m15 n16 b22 b23 b24 b25 b26 b27 b28 b29 b30 I17 K18 z31; omega
      | succ fuel19 ih21 =>
        intro y14 m15 n16 b22 b23 b24 b25 b26 b27 b28 b29 b30 I17 K18 z31
        have z32 : 0 ≤ (m15 86 3).toInt ∧ (m15 86 3).toInt ≤ 160 := I17 86 3
        have z33 : 0 ≤ (m15 86 2).toInt ∧ (m15 86 2).toInt ≤ 160 := I17 86 2
        have kgs := (show SU (tC m) 4 (m 86 3).toInt = LSu (tC m) 4 (m15 86 3).toInt by assumption)
        have kgt := (show isT (tC m (m15 86 3).toInt) = false by assumption)
        have kt12 : tC m15 = tC m := tC_fz zR2 K18
        have kgz := (show SMZ (tC m) 4 lb m m15 (m 86 3).toInt (m15 86 3).toInt by assumption)
        have kgl := SMZ_b kgz
        refine pv_iload_n (M := mX7_readSum) 2 dX7_readSum_12 13 rfl rfl rfl ?_
        refine pv_sipush (M := mX7_readSum) (v := 160) dX7_readSum_13 16 rfl (by decide) ?_
        refine pv_icmp_ge (M := mX7_readSum) (tgt := 77) dX7_readSum_16 19 rfl (by decide) (fun c39 => ?_) (fun c39 => ?_)
        · have c39 := iv_le (X := 160) (Y := y14.toInt) c39 (by decide) rfl
          refine pv_iconst (M := mX7_readSum) (v := 1) dX7_readSum_77 78 rfl (by decide) ?_
          have z40 : (1 : Int32).toInt = 1 := by decide
          exact pv_iret (M := mX7_readSum) dX7_readSum_78 rfl rfl ⟨_, _, _, rfl, rfl, I17, K18, by decide, by decide, ⟨by omega, by omega, by omega, (by first | exact Or.inl ⟨by decide, by rw [kgs]; exact LSu_no (isS_n kgt (by omega) (by omega))⟩ | (exfalso; omega)), by omega, (by first | exact IFZ.is (SMZ_e kgz (isS_n kgt (by omega) (by omega))) | exact IFZ.no (by omega))⟩⟩
        · have c39 := iv_nle (X := 160) (Y := y14.toInt) c39 (by decide) rfl
          refine pv_aload_n (M := mX7_readSum) 0 dX7_readSum_19 20 rfl rfl rfl ?_
          refine pv_callv (M := mX7_readSum) (as := []) (st := []) (kc2 := 0) (ks2 := 0) dX7_readSum_20 wd527 YX7_peek ⟨wd529, wd2⟩ (mk_get (tl86 hT)) rfl rfl (s_X7_peek_vx g hT I17 R) rfl rfl (Nat.le_of_ble_eq_true rfl) (by decide) rfl rfl 23 rfl (fun rv h1 q41 => ?_)
          obtain ⟨v42, rfl, rfl, pv42, qv42, rv42⟩ := q41
          replace rv42 : v42.toInt = tC m15 (m15 86 3).toInt ∧ (v42.toInt = -1 ∨ (m15 86 3).toInt < (m15 86 2).toInt) := rv42
          show PV _ _ _ _ _ _ _ 23 [.ref 86, .int 2, .int y14, pv_U] [.int v42] _
          have k23 := rv42.1
          have k23b := rv42.2
          rw [kt12] at k23
          refine pv_bipush (M := mX7_readSum) (v := 43) dX7_readSum_23 25 rfl (by decide) ?_
          refine pv_icmp_eq (M := mX7_readSum) (tgt := 37) dX7_readSum_25 28 rfl (by decide) (fun c46 => ?_) (fun c46 => ?_)
          · have c46 := iv_eq (X := v42.toInt) (Y := 43) c46 rfl (by decide)
            have kS : isS (tC m (m15 86 3).toInt) = true := isS_y (by omega)
            refine pv_aload_n (M := mX7_readSum) 0 dX7_readSum_37 38 rfl rfl rfl ?_
            refine pv_callv (M := mX7_readSum) (as := []) (st := []) (kc2 := 0) (ks2 := 0) dX7_readSum_38 wd527 YX7_peek ⟨wd529, wd2⟩ (mk_get (tl86 hT)) rfl rfl (s_X7_peek_vx g hT I17 R) rfl rfl (Nat.le_of_ble_eq_true rfl) (by decide) rfl rfl 41 rfl (fun rv h1 q48 => ?_)
            obtain ⟨v49, rfl, rfl, pv49, qv49, rv49⟩ := q48
            replace rv49 : v49.toInt = tC m15 (m15 86 3).toInt ∧ (v49.toInt = -1 ∨ (m15 86 3).toInt < (m15 86 2).toInt) := rv49
            show PV _ _ _ _ _ _ _ 41 [.ref 86, .int 2, .int y14, pv_U] [.int v49] _
            have k41 : v49.toInt = tC m (m15 86 3).toInt := by rw [← kt12]; exact rv49.1
            refine pv_istore_n (M := mX7_readSum) 3 (lo2 := [.ref 86, .int 2, .int y14, .int v49]) dX7_readSum_41 42 rfl rfl (by decide) rfl rfl ?_
            refine pv_aload_n (M := mX7_readSum) 0 dX7_readSum_42 43 rfl rfl rfl ?_
            refine pv_dup (M := mX7_readSum) dX7_readSum_43 44 rfl rfl ?_
            refine iv_get (M := mX7_readSum) (l1 := 0) (l2 := 160) dX7_readSum_44 FX7 3 wd283 (by decide) (tl86 hT) rfl I17 rfl 47 rfl (fun v51 ev51 pv51 qv51 => ?_)
            have wv51 : v51.toInt = (m15 86 3).toInt := congrArg Int32.toInt ev51
            refine pv_iconst (M := mX7_readSum) (v := 1) dX7_readSum_47 48 rfl (by decide) ?_
            refine iv_iadd (M := mX7_readSum) (X := v51.toInt) (Y := 1) dX7_readSum_48 49 rfl rfl (by decide) (by omega) (by omega) (fun v52 ev52 => ?_)
            refine iv_put (M := mX7_readSum) (l1 := 0) (l2 := 160) dX7_readSum_49 FX7 3 wd283 (by decide) rfl (tl86 hT) rfl rfl rfl I17 rfl (by omega) (by omega) 52 rfl (fun m53 e56 I54 => ?_)
            have K55 := K18.set e56 (by first | rfl | decide)
            have w57 : (m53 86 3).toInt = v52.toInt := by rw [e56, up2_eq]
            have w58 : (m53 86 2).toInt = (m15 86 2).toInt := by rw [e56, up2_ne (by omega)]
            have w59 : (m53 86 4).toInt = (m15 86 4).toInt := by rw [e56, up2_ne (by omega)]
            have w60 : (m53 lb 7).toInt = (m15 lb 7).toInt := by rw [e56, up2_ne (by omega)]
            have w61 : (m53 lb 2).toInt = (m15 lb 2).toInt := by rw [e56, up2_ne (by omega)]
            have kt52 : tC m53 = tC m := tC_fz zR2 K55
            have kp52 : (m53 86 3).toInt = (m15 86 3).toInt + 1 := by omega
            have ks52 : SAML lb m15 m53 := SAML.set zR2 e56
            have kl52 : (m53 lb 2).toInt = (m15 lb 2).toInt := congrArg Int32.toInt ks52.1
            refine pv_aload_n (M := mX7_readSum) 0 dX7_readSum_52 53 rfl rfl rfl ?_
            refine pv_iload_n (M := mX7_readSum) 1 dX7_readSum_53 54 rfl rfl rfl ?_
            have z66 : (2 : Int32).toInt = 2 := by decide
            refine pv_callv (M := mX7_readSum) (as := [.int 2]) (st := []) (kc2 := 0) (ks2 := 0) dX7_readSum_54 wd543 YX7_readTerm ⟨wd545, wd5⟩ (mk_get (tl86 hT)) rfl rfl (s_X7_readTerm_v2z g hT I54 R (by first | omega | assumption | exact (iv_rng _).2 | exact (iv_rng _).1 | decide) (TBC_eq hp1 kt52) (by first | omega | assumption | exact (iv_rng _).2 | exact (iv_rng _).1 | decide)) rfl rfl (Nat.le_of_ble_eq_true rfl) (by decide) rfl rfl 57 rfl (fun rv h1 q67 => ?_)
            obtain ⟨m68, n69, v72, rfl, rfl, I70, K71, pv72, qv72, rv72⟩ := q67
            replace rv72 : (m53 86 3).toInt ≤ (m68 86 3).toInt ∧ (m68 86 3).toInt ≤ (m68 86 2).toInt ∧ (m68 86 2).toInt = (m53 86 2).toInt ∧ ((v72.toInt = 0 ∨ (m53 86 3).toInt + 1 ≤ (m68 86 3).toInt) ∧ TRX (SU (tC m53) 4 (m53 86 3).toInt) (LSu (tC m53) 4) (fun a => isT (tC m53 a) = false) v72.toInt (m68 86 3).toInt (m68 86 4).toInt) ∧ (m68 lb 7).toInt = (m53 lb 7).toInt ∧ IFZ v72.toInt (TMZ (tC m53) 4 lb m53 m68 (m53 86 3).toInt (m68 86 3).toInt) := by have q_ := rv72; (try rw [z66] at q_); exact q_
            have K71c := K71
            have K71 := K55.trans (K71.sub (fun _ _ q => q))
            show PV _ _ _ _ _ _ _ 57 [.ref 86, .int 2, .int y14, .int v49] [.int v72] _
            have k57 := rv72.2.2.2.1.2
            have k57p := rv72.2.2.2.1.1
            rw [kt52, kp52] at k57
            have k57z0 := rv72.2.2.2.2.2
            rw [kt52, kp52] at k57z0
            refine pv_if_ne (M := mX7_readSum) (tgt := 62) dX7_readSum_57 60 rfl (by decide) (fun c78 => ?_) (fun c78 => ?_)
            · have c78 := iv_ne (X := v72.toInt) (Y := 0) c78 rfl (by decide)
              have kT6 := TRX_ok k57 (by omega)
              have k57z := IFZ.get k57z0 (by omega)
              have k57b := TMZ_b k57z
              refine pv_aload_n (M := mX7_readSum) 0 dX7_readSum_62 63 rfl rfl rfl ?_
              refine mv_get (M := mX7_readSum) (v := .ref lb) dX7_readSum_63 FX7 1 wd281 (by decide) (tl86 hT) rfl R.2.2.2.1 66 rfl ?_
              refine pv_iload_n (M := mX7_readSum) 3 dX7_readSum_66 67 rfl rfl rfl ?_
              refine pv_iconst (M := mX7_readSum) (v := 0) dX7_readSum_67 68 rfl (by decide) ?_
              have z82 : (0 : Int32).toInt = 0 := by decide
              refine pv_callv (M := mX7_readSum) (as := [.int v49, .int 0]) (st := []) (kc2 := 0) (ks2 := 0) dX7_readSum_68 wd567 YX6_emit ⟨wd568, wd569⟩ (mk_get R.2.2.2.2.2.2.1) rfl rfl (s_X6_emit_vz g hT I70 lb R.2.2.2.2.2 v49 0 (by decide) (by decide)) rfl rfl (Nat.le_of_ble_eq_true rfl) (by decide) rfl rfl 71 rfl (fun rv h1 q83 => ?_)
              obtain ⟨m84, n85, rfl, rfl, I86, K87, rm84⟩ := q83
              replace rm84 : (m84 lb 7).toInt = (m68 lb 7).toInt ∧ ((m68 lb 2).toInt < 160 → EMT lb m68 m84 v49.toInt (0 : Int32)) := by have q_ := rm84; (try rw [z82] at q_); exact q_
              have K87c := K87
              have w88 : (m84 86 3).toInt = (m68 86 3).toInt := congrArg Int32.toInt (K87 86 3 (wY_out (by omega) (by omega) (by omega)))
              have w89 : (m84 86 2).toInt = (m68 86 2).toInt := congrArg Int32.toInt (K87 86 2 (wY_out (by omega) (by omega) (by omega)))
              have w90 : (m84 86 4).toInt = (m68 86 4).toInt := congrArg Int32.toInt (K87 86 4 (wY_out (by omega) (by omega) (by omega)))
              have K87 := K71.trans (K87.sub (by first | exact wZ_wY | exact wZ_86))
              show PV _ _ _ _ _ _ _ 71 [.ref 86, .int 2, .int y14, .int v49] [] _
              have k71 := rm84.2 (by omega)
              refine iv_inc (M := mX7_readSum) (C := 1) dX7_readSum_71 74 rfl rfl (by decide) rfl rfl (by decide) (by omega) (by omega) (fun v92 ev92 => ?_)
              show PV _ _ _ _ _ _ _ 74 [.ref 86, .int 2, .int v92, .int v49] [] _
              refine pv_goto (M := mX7_readSum) (tgt := 12) dX7_readSum_74 (by decide) ?_
              refine pv_fg (lo2 := [.ref 86, .int 2, .int v92, pv_U]) ⟨Or.inr rfl, ⟨Or.inr rfl, ⟨Or.inr rfl, ⟨Or.inl rfl, trivial⟩⟩⟩⟩ ?_
              have kb3 : (m84 86 3).toInt = (m68 86 3).toInt := by omega
              have kbs : SU (tC m) 4 (m 86 3).toInt = LSu (tC m) 4 (m84 86 3).toInt := by rw [kgs, LSu_su kTX (by omega) kS, kT6.1]; congr 1; omega
              have kbt : isT (tC m (m84 86 3).toInt) = false := by rw [kb3]; exact kT6.2
              have kbz : SMZ (tC m) 4 lb m m84 (m 86 3).toInt (m84 86 3).toInt := by rw [kb3]; exact SMZ_s kgz kTX (by omega) kS kgt ks52 k57z k71 (by omega) (by unfold isO; omega) kT6.2
              exact ih21 v92 m84 n85 (by first | omega | assumption | exact (iv_rng _).2 | exact (iv_rng _).1 | decide) (by first | omega | assumption | exact (iv_rng _).2 | exact (iv_rng _).1 | decide) (by first | omega | assumption | (show (m84 86 3).toInt ≤ (m84 86 2).toInt; omega) | decide) (by first | omega | assumption | (show (m84 86 2).toInt = (m 86 2).toInt; omega) | decide) (by first | omega | assumption | (show (m84 lb 7).toInt = (m lb 7).toInt; omega) | decide) (by first | omega | assumption | (show (m 86 3).toInt + 1 + 2 * v92.toInt ≤ (m84 86 3).toInt; omega) | decide) kbs kbt kbz I86 K87 (by omega)
            · have c78 := iv_eq (X := v72.toInt) (Y := 0) c78 rfl (by decide)
              refine pv_iconst (M := mX7_readSum) (v := 0) dX7_readSum_60 61 rfl (by decide) ?_
              have z97 : (0 : Int32).toInt = 0 := by decide
              exact pv_iret (M := mX7_readSum) dX7_readSum_61 rfl rfl ⟨_, _, _, rfl, rfl, I70, K71, by decide, by decide, ⟨by omega, by omega, by omega, Or.inr ⟨by decide, by rw [kgs, LSu_su kTX (by omega) kS]; exact TRX_fl k57 (by omega)⟩, by omega, IFZ.no (by first | decide | omega)⟩⟩
          · have c46 := iv_ne (X := v42.toInt) (Y := 43) c46 rfl (by decide)
            refine pv_aload_n (M := mX7_readSum) 0 dX7_readSum_28 29 rfl rfl rfl ?_
            refine pv_callv (M := mX7_readSum) (as := []) (st := []) (kc2 := 0) (ks2 := 0) dX7_readSum_29 wd527 YX7_peek ⟨wd529, wd2⟩ (mk_get (tl86 hT)) rfl rfl (s_X7_peek_vx g hT I17 R) rfl rfl (Nat.le_of_ble_eq_true rfl) (by decide) rfl rfl 32 rfl (fun rv h1 q98 => ?_)
            obtain ⟨v99, rfl, rfl, pv99, qv99, rv99⟩ := q98
            replace rv99 : v99.toInt = tC m15 (m15 86 3).toInt ∧ (v99.toInt = -1 ∨ (m15 86 3).toInt < (m15 86 2).toInt) := rv99
            show PV _ _ _ _ _ _ _ 32 [.ref 86, .int 2, .int y14, pv_U] [.int v99] _
            have k32 := rv99.1
            have k32b := rv99.2
            rw [kt12] at k32
            refine pv_bipush (M := mX7_readSum) (v := 45) dX7_readSum_32 34 rfl (by decide) ?_
            refine pv_icmp_ne (M := mX7_readSum) (tgt := 77) dX7_readSum_34 37 rfl (by decide) (fun c103 => ?_) (fun c103 => ?_)
            · have c103 := iv_ne (X := v99.toInt) (Y := 45) c103 rfl (by decide)
              refine pv_iconst (M := mX7_readSum) (v := 1) dX7_readSum_77 78 rfl (by decide) ?_
              have z104 : (1 : Int32).toInt = 1 := by decide
              exact pv_iret (M := mX7_readSum) dX7_readSum_78 rfl rfl ⟨_, _, _, rfl, rfl, I17, K18, by decide, by decide, ⟨by omega, by omega, by omega, (by first | exact Or.inl ⟨by decide, by rw [kgs]; exact LSu_no (isS_n kgt (by omega) (by omega))⟩ | (exfalso; omega)), by omega, (by first | exact IFZ.is (SMZ_e kgz (isS_n kgt (by omega) (by omega))) | exact IFZ.no (by omega))⟩⟩
            · have c103 := iv_eq (X := v99.toInt) (Y := 45) c103 rfl (by decide)
              have kS : isS (tC m (m15 86 3).toInt) = true := isS_y (by omega)
              refine pv_aload_n (M := mX7_readSum) 0 dX7_readSum_37 38 rfl rfl rfl ?_
              refine pv_callv (M := mX7_readSum) (as := []) (st := []) (kc2 := 0) (ks2 := 0) dX7_readSum_38 wd527 YX7_peek ⟨wd529, wd2⟩ (mk_get (tl86 hT)) rfl rfl (s_X7_peek_vx g hT I17 R) rfl rfl (Nat.le_of_ble_eq_true rfl) (by decide) rfl rfl 41 rfl (fun rv h1 q106 => ?_)
              obtain ⟨v107, rfl, rfl, pv107, qv107, rv107⟩ := q106
              replace rv107 : v107.toInt = tC m15 (m15 86 3).toInt ∧ (v107.toInt = -1 ∨ (m15 86 3).toInt < (m15 86 2).toInt) := rv107
              show PV _ _ _ _ _ _ _ 41 [.ref 86, .int 2, .int y14, pv_U] [.int v107] _
              have k41 : v107.toInt = tC m (m15 86 3).toInt := by rw [← kt12]; exact rv107.1
              refine pv_istore_n (M := mX7_readSum) 3 (lo2 := [.ref 86, .int 2, .int y14, .int v107]) dX7_readSum_41 42 rfl rfl (by decide) rfl rfl ?_
              refine pv_aload_n (M := mX7_readSum) 0 dX7_readSum_42 43 rfl rfl rfl ?_
              refine pv_dup (M := mX7_readSum) dX7_readSum_43 44 rfl rfl ?_
              refine iv_get (M := mX7_readSum) (l1 := 0) (l2 := 160) dX7_readSum_44 FX7 3 wd283 (by decide) (tl86 hT) rfl I17 rfl 47 rfl (fun v109 ev109 pv109 qv109 => ?_)
              have wv109 : v109.toInt = (m15 86 3).toInt := congrArg Int32.toInt ev109
              refine pv_iconst (M := mX7_readSum) (v := 1) dX7_readSum_47 48 rfl (by decide) ?_
              refine iv_iadd (M := mX7_readSum) (X := v109.toInt) (Y := 1) dX7_readSum_48 49 rfl rfl (by decide) (by omega) (by omega) (fun v110 ev110 => ?_)
              refine iv_put (M := mX7_readSum) (l1 := 0) (l2 := 160) dX7_readSum_49 FX7 3 wd283 (by decide) rfl (tl86 hT) rfl rfl rfl I17 rfl (by omega) (by omega) 52 rfl (fun m111 e114 I112 => ?_)
              have K113 := K18.set e114 (by first | rfl | decide)
              have w115 : (m111 86 3).toInt = v110.toInt := by rw [e114, up2_eq]
              have w116 : (m111 86 2).toInt = (m15 86 2).toInt := by rw [e114, up2_ne (by omega)]
              have w117 : (m111 86 4).toInt = (m15 86 4).toInt := by rw [e114, up2_ne (by omega)]
              have w118 : (m111 lb 7).toInt = (m15 lb 7).toInt := by rw [e114, up2_ne (by omega)]
              have w119 : (m111 lb 2).toInt = (m15 lb 2).toInt := by rw [e114, up2_ne (by omega)]
              have kt52 : tC m111 = tC m := tC_fz zR2 K113
              have kp52 : (m111 86 3).toInt = (m15 86 3).toInt + 1 := by omega
              have ks52 : SAML lb m15 m111 := SAML.set zR2 e114
              have kl52 : (m111 lb 2).toInt = (m15 lb 2).toInt := congrArg Int32.toInt ks52.1
              refine pv_aload_n (M := mX7_readSum) 0 dX7_readSum_52 53 rfl rfl rfl ?_
              refine pv_iload_n (M := mX7_readSum) 1 dX7_readSum_53 54 rfl rfl rfl ?_
              have z124 : (2 : Int32).toInt = 2 := by decide
              refine pv_callv (M := mX7_readSum) (as := [.int 2]) (st := []) (kc2 := 0) (ks2 := 0) dX7_readSum_54 wd543 YX7_readTerm ⟨wd545, wd5⟩ (mk_get (tl86 hT)) rfl rfl (s_X7_readTerm_v2z g hT I112 R (by first | omega | assumption | exact (iv_rng _).2 | exact (iv_rng _).1 | decide) (TBC_eq hp1 kt52) (by first | omega | assumption | exact (iv_rng _).2 | exact (iv_rng _).1 | decide)) rfl rfl (Nat.le_of_ble_eq_true rfl) (by decide) rfl rfl 57 rfl (fun rv h1 q125 => ?_)
              obtain ⟨m126, n127, v130, rfl, rfl, I128, K129, pv130, qv130, rv130⟩ := q125
              replace rv130 : (m111 86 3).toInt ≤ (m126 86 3).toInt ∧ (m126 86 3).toInt ≤ (m126 86 2).toInt ∧ (m126 86 2).toInt = (m111 86 2).toInt ∧ ((v130.toInt = 0 ∨ (m111 86 3).toInt + 1 ≤ (m126 86 3).toInt) ∧ TRX (SU (tC m111) 4 (m111 86 3).toInt) (LSu (tC m111) 4) (fun a => isT (tC m111 a) = false) v130.toInt (m126 86 3).toInt (m126 86 4).toInt) ∧ (m126 lb 7).toInt = (m111 lb 7).toInt ∧ IFZ v130.toInt (TMZ (tC m111) 4 lb m111 m126 (m111 86 3).toInt (m126 86 3).toInt) := by have q_ := rv130; (try rw [z124] at q_); exact q_
              have K129c := K129
              have K129 := K113.trans (K129.sub (fun _ _ q => q))
              show PV _ _ _ _ _ _ _ 57 [.ref 86, .int 2, .int y14, .int v107] [.int v130] _
              have k57 := rv130.2.2.2.1.2
              have k57p := rv130.2.2.2.1.1
              rw [kt52, kp52] at k57
              have k57z0 := rv130.2.2.2.2.2
              rw [kt52, kp52] at k57z0
              refine pv_if_ne (M := mX7_readSum) (tgt := 62) dX7_readSum_57 60 rfl (by decide) (fun c136 => ?_) (fun c136 => ?_)
              · have c136 := iv_ne (X := v130.toInt) (Y := 0) c136 rfl (by decide)
                have kT6 := TRX_ok k57 (by omega)
                have k57z := IFZ.get k57z0 (by omega)
                have k57b := TMZ_b k57z
                refine pv_aload_n (M := mX7_readSum) 0 dX7_readSum_62 63 rfl rfl rfl ?_
                refine mv_get (M := mX7_readSum) (v := .ref lb) dX7_readSum_63 FX7 1 wd281 (by decide) (tl86 hT) rfl R.2.2.2.1 66 rfl ?_
                refine pv_iload_n (M := mX7_readSum) 3 dX7_readSum_66 67 rfl rfl rfl ?_
                refine pv_iconst (M := mX7_readSum) (v := 0) dX7_readSum_67 68 rfl (by decide) ?_
                have z140 : (0 : Int32).toInt = 0 := by decide
                refine pv_callv (M := mX7_readSum) (as := [.int v107, .int 0]) (st := []) (kc2 := 0) (ks2 := 0) dX7_readSum_68 wd567 YX6_emit ⟨wd568, wd569⟩ (mk_get R.2.2.2.2.2.2.1) rfl rfl (s_X6_emit_vz g hT I128 lb R.2.2.2.2.2 v107 0 (by decide) (by decide)) rfl rfl (Nat.le_of_ble_eq_true rfl) (by decide) rfl rfl 71 rfl (fun rv h1 q141 => ?_)
                obtain ⟨m142, n143, rfl, rfl, I144, K145, rm142⟩ := q141
                replace rm142 : (m142 lb 7).toInt = (m126 lb 7).toInt ∧ ((m126 lb 2).toInt < 160 → EMT lb m126 m142 v107.toInt (0 : Int32)) := by have q_ := rm142; (try rw [z140] at q_); exact q_
                have K145c := K145
                have w146 : (m142 86 3).toInt = (m126 86 3).toInt := congrArg Int32.toInt (K145 86 3 (wY_out (by omega) (by omega) (by omega)))
                have w147 : (m142 86 2).toInt = (m126 86 2).toInt := congrArg Int32.toInt (K145 86 2 (wY_out (by omega) (by omega) (by omega)))
                have w148 : (m142 86 4).toInt = (m126 86 4).toInt := congrArg Int32.toInt (K145 86 4 (wY_out (by omega) (by omega) (by omega)))
                have K145 := K129.trans (K145.sub (by first | exact wZ_wY | exact wZ_86))
                show PV _ _ _ _ _ _ _ 71 [.ref 86, .int 2, .int y14, .int v107] [] _
                have k71 := rm142.2 (by omega)
                refine iv_inc (M := mX7_readSum) (C := 1) dX7_readSum_71 74 rfl rfl (by decide) rfl rfl (by decide) (by omega) (by omega) (fun v150 ev150 => ?_)
                show PV _ _ _ _ _ _ _ 74 [.ref 86, .int 2, .int v150, .int v107] [] _
                refine pv_goto (M := mX7_readSum) (tgt := 12) dX7_readSum_74 (by decide) ?_
                refine pv_fg (lo2 := [.ref 86, .int 2, .int v150, pv_U]) ⟨Or.inr rfl, ⟨Or.inr rfl, ⟨Or.inr rfl, ⟨Or.inl rfl, trivial⟩⟩⟩⟩ ?_
                have kb3 : (m142 86 3).toInt = (m126 86 3).toInt := by omega
                have kbs : SU (tC m) 4 (m 86 3).toInt = LSu (tC m) 4 (m142 86 3).toInt := by rw [kgs, LSu_su kTX (by omega) kS, kT6.1]; congr 1; omega
                have kbt : isT (tC m (m142 86 3).toInt) = false := by rw [kb3]; exact kT6.2
                have kbz : SMZ (tC m) 4 lb m m142 (m 86 3).toInt (m142 86 3).toInt := by rw [kb3]; exact SMZ_s kgz kTX (by omega) kS kgt ks52 k57z k71 (by omega) (by unfold isO; omega) kT6.2
                exact ih21 v150 m142 n143 (by first | omega | assumption | exact (iv_rng _).2 | exact (iv_rng _).1 | decide) (by first | omega | assumption | exact (iv_rng _).2 | exact (iv_rng _).1 | decide) (by first | omega | assumption | (show (m142 86 3).toInt ≤ (m142 86 2).toInt; omega) | decide) (by first | omega | assumption | (show (m142 86 2).toInt = (m 86 2).toInt; omega) | decide) (by first | omega | assumption | (show (m142 lb 7).toInt = (m lb 7).toInt; omega) | decide) (by first | omega | assumption | (show (m 86 3).toInt + 1 + 2 * v150.toInt ≤ (m142 86 3).toInt; omega) | decide) kbs kbt kbz I144 K145 (by omega)
              · have c136 := iv_eq (X := v130.toInt) (Y := 0) c136 rfl (by decide)
                refine pv_iconst (M := mX7_readSum) (v := 0) dX7_readSum_60 61 rfl (by decide) ?_
                have z155 : (0 : Int32).toInt = 0 := by decide
                exact pv_iret (M := mX7_readSum) dX7_readSum_61 rfl rfl ⟨_, _, _, rfl, rfl, I128, K129, by decide, by decide, ⟨by omega, by omega, by omega, Or.inr ⟨by decide, by rw [kgs, LSu_su kTX (by omega) kS]; exact TRX_fl k57 (by omega)⟩, by omega, IFZ.no (by first | decide | omega)⟩⟩
    have z156 : (0 : Int32).toInt = 0 := by decide
    exact lp20 (((160 - 0) : Int).toNat + 1) 0 m4 n5 (by first | omega | assumption | exact (iv_rng _).2 | exact (iv_rng _).1 | decide) (by first | omega | assumption | exact (iv_rng _).2 | exact (iv_rng _).1 | decide) (by first | omega | assumption | (show (m4 86 3).toInt ≤ (m4 86 2).toInt; omega) | decide) (by first | omega | assumption | (show (m4 86 2).toInt = (m 86 2).toInt; omega) | decide) (by first | omega | assumption | (show (m4 lb 7).toInt = (m lb 7).toInt; omega) | decide) (by first | omega | assumption | (show (m 86 3).toInt + 1 + 2 * 0 ≤ (m4 86 3).toInt; omega) | decide) (TRX_ok k5 (by omega)).1 (TRX_ok k5 (by omega)).2 (SMZ_0 k5z) I6 K7 (by omega)
  · have c12 := iv_eq (X := v8.toInt) (Y := 0) c12 rfl (by decide)
    refine pv_iconst (M := mX7_readSum) (v := 0) dX7_readSum_8 9 rfl (by decide) ?_
    have z157 : (0 : Int32).toInt = 0 := by decide
    exact pv_iret (M := mX7_readSum) dX7_readSum_9 rfl rfl ⟨_, _, _, rfl, rfl, I6, K7, by decide, by decide, ⟨by omega, by omega, by omega, Or.inr ⟨by decide, TRX_fl k5 (by omega)⟩, by omega, IFZ.no (by first | decide | omega)⟩⟩

set_option maxHeartbeats 2000000 in
set_option maxRecDepth 20000 in
theorem s_X7_readFactor_v1z (g : pv_G) {T : List mv_T} {m : Nat → Nat → Int32} {n : Nat → Nat → Int64} {r : Nat → Value} {la lb : Nat} (hT : TX T) (I : IV BB m) (R : RX T r la lb) (hp0 : (m 86 3).toInt ≤ (m 86 2).toInt) (hp1 : TBC m) (hp2 : (m lb 2).toInt ≤ (m 86 3).toInt) : PM g mX7_readFactor yX7_readFactor (sqI T BB (wZ lb) r m 0 1 (fun m' v => (m 86 3).toInt ≤ (m' 86 3).toInt ∧ (m' 86 3).toInt ≤ (m' 86 2).toInt ∧ (m' 86 2).toInt = (m 86 2).toInt ∧ (RSX (FA (tC m) 5 (m 86 3).toInt) v.toInt (m' 86 3).toInt (m' 86 4).toInt) ∧ (m' lb 7).toInt = (m lb 7).toInt ∧ IFZ v.toInt (CDS lb m m' 11 (FAD (tC m) 5 (m 86 3).toInt) ((m' 86 3).toInt - (m 86 3).toInt)))) 20 0 0 [.ref 86, .int 1] (mk T m n r) := by
  have Kp : fr (wZ lb) m m := fr.rf
  have R0 := R
  have zR := R.2.2.2.2.1.1
  have zR2 := R.2.2.2.2.2.1
  have z124 : 0 ≤ (m 86 3).toInt ∧ (m 86 3).toInt ≤ 160 := I 86 3
  have z125 : 0 ≤ (m 86 2).toInt ∧ (m 86 2).toInt ≤ 160 := I 86 2
  refine PM.of 1 (lo := [.ref 86, .int 1, pv_U]) rfl (by decide) rfl rfl (Nat.le_of_ble_eq_true rfl) ?_
  refine pv_aload_n (M := mX7_readFactor) 0 dX7_readFactor_0 1 rfl rfl rfl ?_
  refine pv_callv (M := mX7_readFactor) (as := []) (st := []) (kc2 := 0) (ks2 := 0) dX7_readFactor_1 wd527 YX7_peek ⟨wd529, wd2⟩ (mk_get (tl86 hT)) rfl rfl (s_X7_peek_vx g hT I R) rfl rfl (Nat.le_of_ble_eq_true rfl) (by decide) rfl rfl 4 rfl (fun rv h1 q1 => ?_)
  obtain ⟨v2, rfl, rfl, pv2, qv2, rv2⟩ := q1
  replace rv2 : v2.toInt = tC m (m 86 3).toInt ∧ (v2.toInt = -1 ∨ (m 86 3).toInt < (m 86 2).toInt) := rv2
  show PV _ _ _ _ _ _ _ 4 [.ref 86, .int 1, pv_U] [.int v2] _
  have k4 := rv2.1
  have k4b := rv2.2
  refine pv_bipush (M := mX7_readFactor) (v := 91) dX7_readFactor_4 6 rfl (by decide) ?_
  refine pv_icmp_ne (M := mX7_readFactor) (tgt := 42) dX7_readFactor_6 9 rfl (by decide) (fun c5 => ?_) (fun c5 => ?_)
  · have c5 := iv_ne (X := v2.toInt) (Y := 91) c5 rfl (by decide)
    have kn91 : tC m (m 86 3).toInt ≠ 91 := by omega
    refine pv_aload_n (M := mX7_readFactor) 0 dX7_readFactor_42 43 rfl rfl rfl ?_
    refine pv_callv (M := mX7_readFactor) (as := []) (st := []) (kc2 := 0) (ks2 := 0) dX7_readFactor_43 wd559 YX7_digitAhead ⟨wd561, wd9⟩ (mk_get (tl86 hT)) rfl rfl (s_X7_digitAhead_vx g hT I R) rfl rfl (Nat.le_of_ble_eq_true rfl) (by decide) rfl rfl 46 rfl (fun rv h1 q7 => ?_)
    obtain ⟨v8, rfl, rfl, pv8, qv8, rv8⟩ := q7
    replace rv8 : (v8 = 0 ∨ ((m 86 3).toInt < (m 86 2).toInt ∧ 48 ≤ (m 87 (m 86 3).toInt.toNat).toInt ∧ (m 87 (m 86 3).toInt.toNat).toInt ≤ 57)) ∧ ((v8.toInt = 1 ∧ dig (tC m (m 86 3).toInt) = true) ∨ (v8.toInt = 0 ∧ dig (tC m (m 86 3).toInt) = false)) := rv8
    show PV _ _ _ _ _ _ _ 46 [.ref 86, .int 1, pv_U] [.int v8] _
    have k46 := rv8.2
    refine pv_if_eq (M := mX7_readFactor) (tgt := 54) dX7_readFactor_46 49 rfl (by decide) (fun c10 => ?_) (fun c10 => ?_)
    · have c10 := iv_eq (X := v8.toInt) (Y := 0) c10 rfl (by decide)
      have kdn := (k46.resolve_left (fun q => by have q1 := q.1; omega)).2
      refine pv_aload_n (M := mX7_readFactor) 0 dX7_readFactor_54 55 rfl rfl rfl ?_
      refine pv_callv (M := mX7_readFactor) (as := []) (st := []) (kc2 := 0) (ks2 := 0) dX7_readFactor_55 wd527 YX7_peek ⟨wd529, wd2⟩ (mk_get (tl86 hT)) rfl rfl (s_X7_peek_vx g hT I R) rfl rfl (Nat.le_of_ble_eq_true rfl) (by decide) rfl rfl 58 rfl (fun rv h1 q12 => ?_)
      obtain ⟨v13, rfl, rfl, pv13, qv13, rv13⟩ := q12
      replace rv13 : v13.toInt = tC m (m 86 3).toInt ∧ (v13.toInt = -1 ∨ (m 86 3).toInt < (m 86 2).toInt) := rv13
      show PV _ _ _ _ _ _ _ 58 [.ref 86, .int 1, pv_U] [.int v13] _
      have k58 := rv13.1
      refine pv_iconst (M := mX7_readFactor) (v := (-1)) dX7_readFactor_58 59 rfl (by decide) ?_
      refine pv_icmp_ne (M := mX7_readFactor) (tgt := 66) dX7_readFactor_59 62 rfl (by decide) (fun c15 => ?_) (fun c15 => ?_)
      · have c15 := iv_ne (X := v13.toInt) (Y := (-1)) c15 rfl (by decide)
        refine pv_ldcS (M := mX7_readFactor) dX7_readFactor_66 rfl 68 rfl ?_
        refine pv_aload_n (M := mX7_readFactor) 0 dX7_readFactor_68 69 rfl rfl rfl ?_
        refine pv_callv (M := mX7_readFactor) (as := []) (st := [.retAddr (g.2.2.1 6 + 1)]) (kc2 := 0) (ks2 := 0) dX7_readFactor_69 wd527 YX7_peek ⟨wd529, wd2⟩ (mk_get (tl86 hT)) rfl rfl (s_X7_peek_vx g hT I R) rfl rfl (Nat.le_of_ble_eq_true rfl) (by decide) rfl rfl 72 rfl (fun rv h1 q16 => ?_)
        obtain ⟨v17, rfl, rfl, pv17, qv17, rv17⟩ := q16
        replace rv17 : v17.toInt = tC m (m 86 3).toInt ∧ (v17.toInt = -1 ∨ (m 86 3).toInt < (m 86 2).toInt) := rv17
        show PV _ _ _ _ _ _ _ 72 [.ref 86, .int 1, pv_U] [.int v17, .retAddr (g.2.2.1 6 + 1)] _
        have k72 := rv17.1
        have kb72 := hp1 (m 86 3).toInt
        refine iv_i2cU (M := mX7_readFactor) dX7_readFactor_72 73 rfl (fun v20 ev20 => ?_)
        have k73 := i2c_eq ev20 (by omega) (by omega)
        refine pv_callvS (M := mX7_readFactor) (as := [.int v20]) (st := []) (kc2 := 0) (ks2 := 0) dX7_readFactor_73 wd572 YJ0_indexOf_0f7a4 ⟨wd573, wd574⟩ rfl (s_J0_indexOf_0f7a4_vx g hT I v20 (by omega) (by omega)) rfl rfl (Nat.le_of_ble_eq_true rfl) (by decide) rfl rfl 76 rfl (fun rv h1 q22 => ?_)
        obtain ⟨v23, rfl, rfl, pv23, qv23, rv23⟩ := q22
        replace rv23 : v23.toInt = nix v20.toInt := rv23
        show PV _ _ _ _ _ _ _ 76 [.ref 86, .int 1, pv_U] [.int v23] _
        have k76 : v23.toInt = nix (tC m (m 86 3).toInt) := by first | (rw [show tC m (m 86 3).toInt = -1 by omega]; decide) | (rw [rv23, k73, k72])
        refine pv_istore_n (M := mX7_readFactor) 2 (lo2 := [.ref 86, .int 1, .int v23]) dX7_readFactor_76 77 rfl rfl (by decide) rfl rfl ?_
        refine pv_iload_n (M := mX7_readFactor) 2 dX7_readFactor_77 78 rfl rfl rfl ?_
        refine pv_if_ge (M := mX7_readFactor) (tgt := 87) dX7_readFactor_78 81 rfl (by decide) (fun c25 => ?_) (fun c25 => ?_)
        · have c25 := iv_le (X := 0) (Y := v23.toInt) c25 (by decide) rfl
          have k87 : (m 86 3).toInt < (m 86 2).toInt := by have := nix_b (x := tC m (m 86 3).toInt) (by omega); omega
          refine pv_aload_n (M := mX7_readFactor) 0 dX7_readFactor_87 88 rfl rfl rfl ?_
          refine mv_get (M := mX7_readFactor) (v := .ref lb) dX7_readFactor_88 FX7 1 wd281 (by decide) (tl86 hT) rfl R.2.2.2.1 91 rfl ?_
          refine pv_bipush (M := mX7_readFactor) (v := 36) dX7_readFactor_91 93 rfl (by decide) ?_
          refine pv_iload_n (M := mX7_readFactor) 2 dX7_readFactor_93 94 rfl rfl rfl ?_
          have z27 : (36 : Int32).toInt = 36 := by decide
          refine pv_callv (M := mX7_readFactor) (as := [.int 36, .int v23]) (st := []) (kc2 := 0) (ks2 := 0) dX7_readFactor_94 wd567 YX6_emit ⟨wd568, wd569⟩ (mk_get R.2.2.2.2.2.2.1) rfl rfl (s_X6_emit_vz g hT I lb R.2.2.2.2.2 36 v23 (by omega) (by omega)) rfl rfl (Nat.le_of_ble_eq_true rfl) (by decide) rfl rfl 97 rfl (fun rv h1 q28 => ?_)
          obtain ⟨m29, n30, rfl, rfl, I31, K32, rm29⟩ := q28
          replace rm29 : (m29 lb 7).toInt = (m lb 7).toInt ∧ ((m lb 2).toInt < 160 → EMT lb m m29 (36 : Int) v23) := by have q_ := rm29; (try rw [z27] at q_); exact q_
          have K32c := K32
          have w33 : (m29 86 3).toInt = (m 86 3).toInt := congrArg Int32.toInt (K32 86 3 (wY_out (by omega) (by omega) (by omega)))
          have w34 : (m29 86 2).toInt = (m 86 2).toInt := congrArg Int32.toInt (K32 86 2 (wY_out (by omega) (by omega) (by omega)))
          have w35 : (m29 86 4).toInt = (m 86 4).toInt := congrArg Int32.toInt (K32 86 4 (wY_out (by omega) (by omega) (by omega)))
          have K32 := Kp.trans (K32.sub (by first | exact wZ_wY | exact wZ_86))
          show PV _ _ _ _ _ _ _ 97 [.ref 86, .int 1, .int v23] [] _
          have klB := I lb 2
          rw [law_b2 R.2.2.2.2.2] at klB
          have klb0 : 0 ≤ (m lb 2).toInt := klB.1
          have k97 := rm29.2 (by omega)
          refine pv_aload_n (M := mX7_readFactor) 0 dX7_readFactor_97 98 rfl rfl rfl ?_
          refine pv_dup (M := mX7_readFactor) dX7_readFactor_98 99 rfl rfl ?_
          refine iv_get (M := mX7_readFactor) (l1 := 0) (l2 := 160) dX7_readFactor_99 FX7 3 wd283 (by decide) (tl86 hT) rfl I31 rfl 102 rfl (fun v40 ev40 pv40 qv40 => ?_)
          have wv40 : v40.toInt = (m29 86 3).toInt := congrArg Int32.toInt ev40
          refine pv_iconst (M := mX7_readFactor) (v := 1) dX7_readFactor_102 103 rfl (by decide) ?_
          refine iv_iadd (M := mX7_readFactor) (X := v40.toInt) (Y := 1) dX7_readFactor_103 104 rfl rfl (by decide) (by omega) (by omega) (fun v41 ev41 => ?_)
          refine iv_put (M := mX7_readFactor) (l1 := 0) (l2 := 160) dX7_readFactor_104 FX7 3 wd283 (by decide) rfl (tl86 hT) rfl rfl rfl I31 rfl (by omega) (by omega) 107 rfl (fun m42 e45 I43 => ?_)
          have K44 := K32.set e45 (by first | rfl | decide)
          have w46 : (m42 86 3).toInt = v41.toInt := by rw [e45, up2_eq]
          have w47 : (m42 86 2).toInt = (m29 86 2).toInt := by rw [e45, up2_ne (by omega)]
          have w48 : (m42 86 4).toInt = (m29 86 4).toInt := by rw [e45, up2_ne (by omega)]
          have w49 : (m42 lb 7).toInt = (m29 lb 7).toInt := by rw [e45, up2_ne (by omega)]
          have w50 : (m42 lb 2).toInt = (m29 lb 2).toInt := by rw [e45, up2_ne (by omega)]
          refine pv_iconst (M := mX7_readFactor) (v := 1) dX7_readFactor_107 108 rfl (by decide) ?_
          have z51 : (1 : Int32).toInt = 1 := by decide
          exact pv_iret (M := mX7_readFactor) dX7_readFactor_108 rfl rfl ⟨_, _, _, rfl, rfl, I43, K44, by decide, by decide, ⟨by omega, by omega, by omega, Or.inl ⟨by decide, by rw [FA_atom kn91, AT_nam kdn (nix_y (by omega)), show (m 86 3).toInt + 1 = (m42 86 3).toInt by omega]⟩, by omega, IFZ.is (by rw [FAD_at kn91, atD_nam kdn]; exact CDS.wk (CDS.post (CDS.nam (by omega) k97 (da := 1) (by omega) (by omega)) (SAML.set zR2 e45)) (by omega) (by omega))⟩⟩
        · have c25 := iv_nle (X := 0) (Y := v23.toInt) c25 (by decide) rfl
          refine pv_aload_n (M := mX7_readFactor) 0 dX7_readFactor_81 82 rfl rfl rfl ?_
          refine pv_iconst (M := mX7_readFactor) (v := 1) dX7_readFactor_82 83 rfl (by decide) ?_
          have z52 : (1 : Int32).toInt = 1 := by decide
          refine pv_callv (M := mX7_readFactor) (as := [.int 1]) (st := []) (kc2 := 0) (ks2 := 0) dX7_readFactor_83 wd531 YX7_fail ⟨wd533, wd3⟩ (mk_get (tl86 hT)) rfl rfl (s_X7_fail_vz g hT I R 1 (by decide) (by decide) (by first | omega | assumption | exact (iv_rng _).2 | exact (iv_rng _).1 | decide)) rfl rfl (Nat.le_of_ble_eq_true rfl) (by decide) rfl rfl 86 rfl (fun rv h1 q53 => ?_)
          obtain ⟨m54, n55, v58, rfl, rfl, I56, K57, pv58, qv58, rv58⟩ := q53
          replace rv58 : (m 86 3).toInt ≤ (m54 86 3).toInt ∧ (m54 86 3).toInt ≤ (m54 86 2).toInt ∧ (m54 86 2).toInt = (m 86 2).toInt ∧ (v58.toInt = 0 ∧ (m54 86 3).toInt = (m 86 3).toInt ∧ (m54 86 4).toInt = -1000 * (1 : Int) - (m 86 3).toInt) ∧ (m54 lb 7).toInt = (m lb 7).toInt := by have q_ := rv58; (try rw [z52] at q_); exact q_
          have K57c := K57
          have w59 : (m54 86 2).toInt = (m 86 2).toInt := congrArg Int32.toInt (K57 86 2 rfl)
          have K57 := Kp.trans (K57.sub (by first | exact wZ_wY | exact wZ_86))
          show PV _ _ _ _ _ _ _ 86 [.ref 86, .int 1, .int v23] [.int v58] _
          exact pv_iret (M := mX7_readFactor) dX7_readFactor_86 rfl (iv_nz (by omega) (by omega)) ⟨_, _, _, rfl, rfl, I56, K57, by omega, by omega, ⟨by omega, by omega, by omega, Or.inr ⟨by omega, FLT_of (a := 1) (p := (m 86 3).toInt) (by rw [FA_atom kn91]; exact AT_no kdn (nix_no (by omega))) (by decide) (by omega)⟩, by omega, IFZ.no (by first | decide | omega)⟩⟩
      · have c15 := iv_eq (X := v13.toInt) (Y := (-1)) c15 rfl (by decide)
        refine pv_iconst (M := mX7_readFactor) (v := (-1)) dX7_readFactor_62 63 rfl (by decide) ?_
        refine pv_goto (M := mX7_readFactor) (tgt := 76) dX7_readFactor_63 (by decide) ?_
        have k76 : (-1) = nix (tC m (m 86 3).toInt) := by first | (rw [show tC m (m 86 3).toInt = -1 by omega]; decide) | (rw [rlit, k73, k72])
        refine pv_istore_n (M := mX7_readFactor) 2 (lo2 := [.ref 86, .int 1, .int (-1)]) dX7_readFactor_76 77 rfl rfl (by decide) rfl rfl ?_
        refine pv_iload_n (M := mX7_readFactor) 2 dX7_readFactor_77 78 rfl rfl rfl ?_
        refine pv_if_ge (M := mX7_readFactor) (tgt := 87) dX7_readFactor_78 81 rfl (by decide) (fun q => absurd q (by decide)) (fun _ => ?_)
        refine pv_aload_n (M := mX7_readFactor) 0 dX7_readFactor_81 82 rfl rfl rfl ?_
        refine pv_iconst (M := mX7_readFactor) (v := 1) dX7_readFactor_82 83 rfl (by decide) ?_
        have z62 : (1 : Int32).toInt = 1 := by decide
        refine pv_callv (M := mX7_readFactor) (as := [.int 1]) (st := []) (kc2 := 0) (ks2 := 0) dX7_readFactor_83 wd531 YX7_fail ⟨wd533, wd3⟩ (mk_get (tl86 hT)) rfl rfl (s_X7_fail_vz g hT I R 1 (by decide) (by decide) (by first | omega | assumption | exact (iv_rng _).2 | exact (iv_rng _).1 | decide)) rfl rfl (Nat.le_of_ble_eq_true rfl) (by decide) rfl rfl 86 rfl (fun rv h1 q63 => ?_)
        obtain ⟨m64, n65, v68, rfl, rfl, I66, K67, pv68, qv68, rv68⟩ := q63
        replace rv68 : (m 86 3).toInt ≤ (m64 86 3).toInt ∧ (m64 86 3).toInt ≤ (m64 86 2).toInt ∧ (m64 86 2).toInt = (m 86 2).toInt ∧ (v68.toInt = 0 ∧ (m64 86 3).toInt = (m 86 3).toInt ∧ (m64 86 4).toInt = -1000 * (1 : Int) - (m 86 3).toInt) ∧ (m64 lb 7).toInt = (m lb 7).toInt := by have q_ := rv68; (try rw [z62] at q_); exact q_
        have K67c := K67
        have w69 : (m64 86 2).toInt = (m 86 2).toInt := congrArg Int32.toInt (K67 86 2 rfl)
        have K67 := Kp.trans (K67.sub (by first | exact wZ_wY | exact wZ_86))
        show PV _ _ _ _ _ _ _ 86 [.ref 86, .int 1, .int (-1)] [.int v68] _
        exact pv_iret (M := mX7_readFactor) dX7_readFactor_86 rfl (iv_nz (by omega) (by omega)) ⟨_, _, _, rfl, rfl, I66, K67, by omega, by omega, ⟨by omega, by omega, by omega, Or.inr ⟨by omega, FLT_of (a := 1) (p := (m 86 3).toInt) (by rw [FA_atom kn91]; exact AT_no kdn (nix_no (by omega))) (by decide) (by omega)⟩, by omega, IFZ.no (by first | decide | omega)⟩⟩
    · have pc10 := rv8.1.resolve_left c10
      have c10 := iv_ne (X := v8.toInt) (Y := 0) c10 rfl (by decide)
      have kd := (k46.resolve_right (fun q => by have q1 := q.1; omega)).2
      refine pv_aload_n (M := mX7_readFactor) 0 dX7_readFactor_49 50 rfl rfl rfl ?_
      refine pv_callv (M := mX7_readFactor) (as := []) (st := []) (kc2 := 0) (ks2 := 0) dX7_readFactor_50 wd563 YX7_readNumber ⟨wd565, wd10⟩ (mk_get (tl86 hT)) rfl rfl (s_X7_readNumber_vz g hT I R (by first | omega | assumption | exact (iv_rng _).2 | exact (iv_rng _).1 | decide) (by first | omega | assumption | exact (iv_rng _).2 | exact (iv_rng _).1 | decide)) rfl rfl (Nat.le_of_ble_eq_true rfl) (by decide) rfl rfl 53 rfl (fun rv h1 q71 => ?_)
      obtain ⟨m72, n73, v76, rfl, rfl, I74, K75, pv76, qv76, rv76⟩ := q71
      replace rv76 : (m 86 3).toInt ≤ (m72 86 3).toInt ∧ (m72 86 3).toInt ≤ (m72 86 2).toInt ∧ (m72 86 2).toInt = (m 86 2).toInt ∧ (RSX (nd (tC m) 5 (m 86 3).toInt) v76.toInt (m72 86 3).toInt (m72 86 4).toInt) ∧ (m72 lb 7).toInt = (m lb 7).toInt ∧ IFZ v76.toInt (CDS lb m m72 1 (cD (Int32.ofInt (ndv (tC m) 5 (m 86 3).toInt 0))) 1) := rv76
      have K75c := K75
      have K75 := Kp.trans (K75.sub (fun _ _ q => q))
      show PV _ _ _ _ _ _ _ 53 [.ref 86, .int 1, pv_U] [.int v76] _
      have k53 := rv76.2.2.2.1
      have k53z := rv76.2.2.2.2.2
      exact pv_iret (M := mX7_readFactor) dX7_readFactor_53 rfl (iv_nz (by omega) (by omega)) ⟨_, _, _, rfl, rfl, I74, K75, by omega, by omega, ⟨by omega, by omega, by omega, (by rw [FA_atom kn91, AT_num kd]; exact k53), by omega, (fun q => by have k1 := RSX_ok k53 q; have k2 := atom_le (t := tC m) (p := (m 86 3).toInt) (by rw [AT_num kd, k1]); rw [AT_num kd, k1] at k2; have k3 : (m 86 3).toInt + 1 ≤ (m72 86 3).toInt := k2; rw [FAD_at kn91, atD_num kd]; exact CDS.wk (IFZ.get k53z q) (by omega) (by omega))⟩⟩
  · have c5 := iv_eq (X := v2.toInt) (Y := 91) c5 rfl (by decide)
    have k91 : tC m (m 86 3).toInt = 91 := by omega
    refine pv_aload_n (M := mX7_readFactor) 0 dX7_readFactor_9 10 rfl rfl rfl ?_
    refine pv_iload_n (M := mX7_readFactor) 1 dX7_readFactor_10 11 rfl rfl rfl ?_
    have z80 : (1 : Int32).toInt = 1 := by decide
    refine pv_callv (M := mX7_readFactor) (as := [.int 1]) (st := []) (kc2 := 0) (ks2 := 0) dX7_readFactor_11 wd551 YX7_open ⟨wd553, wd7⟩ (mk_get (tl86 hT)) rfl rfl (s_X7_open_vz g hT I R 1 (by decide) (by decide) (by first | omega | assumption | exact (iv_rng _).2 | exact (iv_rng _).1 | decide)) rfl rfl (Nat.le_of_ble_eq_true rfl) (by decide) rfl rfl 14 rfl (fun rv h1 q81 => ?_)
    obtain ⟨m82, n83, v86, rfl, rfl, I84, K85, pv86, qv86, rv86⟩ := q81
    replace rv86 : (v86 = 0 ∨ (1 : Int) ≤ 5) ∧ (m 86 3).toInt ≤ (m82 86 3).toInt ∧ (m82 86 3).toInt ≤ (m82 86 2).toInt ∧ (m82 86 2).toInt = (m 86 2).toInt ∧ ((v86.toInt = 1 ∧ (1 : Int) ≤ 5 ∧ (m82 86 3).toInt = (m 86 3).toInt + 1) ∨ (v86.toInt = 0 ∧ 6 ≤ (1 : Int) ∧ (m82 86 4).toInt = -5000 - (m 86 3).toInt ∧ (m82 86 3).toInt = (m 86 3).toInt)) ∧ (m82 lb 7).toInt = (m lb 7).toInt := by have q_ := rv86; (try rw [z80] at q_); exact q_
    have K85c := K85
    have w87 : (m82 86 2).toInt = (m 86 2).toInt := congrArg Int32.toInt (K85 86 2 rfl)
    have K85 := Kp.trans (K85.sub (by first | exact wZ_wY | exact wZ_86))
    show PV _ _ _ _ _ _ _ 14 [.ref 86, .int 1, pv_U] [.int v86] _
    refine pv_if_eq (M := mX7_readFactor) (tgt := 40) dX7_readFactor_14 17 rfl (by decide) (fun c88 => ?_) (fun c88 => ?_)
    · have c88 := iv_eq (X := v86.toInt) (Y := 0) c88 rfl (by decide)
      refine pv_iconst (M := mX7_readFactor) (v := 0) dX7_readFactor_40 41 rfl (by decide) ?_
      have z89 : (0 : Int32).toInt = 0 := by decide
      exact pv_iret (M := mX7_readFactor) dX7_readFactor_41 rfl rfl ⟨_, _, _, rfl, rfl, I84, K85, by decide, by decide, ⟨by omega, by omega, by omega, (by first | exact Or.inr ⟨by decide, FX_deep k91 (by omega)⟩ | exact Or.inr ⟨by decide, FX_cn k91 k27 (fun z => by omega) (by omega)⟩ | exact Or.inl ⟨by decide, FX_co k91 k27 (by omega) (by omega)⟩ | exact Or.inr ⟨by decide, FX_sum k91 (RSX_fl k24 (by omega))⟩ | (exfalso; omega)), by omega, (by first | exact IFZ.is (by rw [FAD_opn k91]; exact CDS.wk (CDS.post (CDS.pre ks17 (IFZ.get k24z (by omega)) (Int.le_refl _)) ks33) (by omega) (by omega)) | exact IFZ.no (by first | decide | omega))⟩⟩
    · have pc88 := rv86.1.resolve_left c88
      have c88 := iv_ne (X := v86.toInt) (Y := 0) c88 rfl (by decide)
      have kt17 : tC m82 = tC m := tC_fz zR2 K85
      have kp17 : (m82 86 3).toInt = (m 86 3).toInt + 1 := by omega
      have ks17 : SAML lb m m82 := SAML.fz zR2 K85c
      have kl17 : (m82 lb 2).toInt = (m lb 2).toInt := congrArg Int32.toInt ks17.1
      refine pv_aload_n (M := mX7_readFactor) 0 dX7_readFactor_17 18 rfl rfl rfl ?_
      refine pv_iload_n (M := mX7_readFactor) 1 dX7_readFactor_18 19 rfl rfl rfl ?_
      refine pv_iconst (M := mX7_readFactor) (v := 1) dX7_readFactor_19 20 rfl (by decide) ?_
      refine pv_iadd (M := mX7_readFactor) (v := 2) dX7_readFactor_20 21 rfl (by decide) ?_
      have z95 : (2 : Int32).toInt = 2 := by decide
      refine pv_callv (M := mX7_readFactor) (as := [.int 2]) (st := []) (kc2 := 0) (ks2 := 0) dX7_readFactor_21 wd539 YX7_readSum ⟨wd541, wd4⟩ (mk_get (tl86 hT)) rfl rfl (s_X7_readSum_v2z g hT I84 R (by first | omega | assumption | exact (iv_rng _).2 | exact (iv_rng _).1 | decide) (TBC_eq hp1 kt17) (by first | omega | assumption | exact (iv_rng _).2 | exact (iv_rng _).1 | decide)) rfl rfl (Nat.le_of_ble_eq_true rfl) (by decide) rfl rfl 24 rfl (fun rv h1 q96 => ?_)
      obtain ⟨m97, n98, v101, rfl, rfl, I99, K100, pv101, qv101, rv101⟩ := q96
      replace rv101 : (m82 86 3).toInt ≤ (m97 86 3).toInt ∧ (m97 86 3).toInt ≤ (m97 86 2).toInt ∧ (m97 86 2).toInt = (m82 86 2).toInt ∧ (RSX (SU (tC m82) 4 (m82 86 3).toInt) v101.toInt (m97 86 3).toInt (m97 86 4).toInt) ∧ (m97 lb 7).toInt = (m82 lb 7).toInt ∧ IFZ v101.toInt (CDS lb m82 m97 11 (SUD (tC m82) 4 (m82 86 3).toInt) ((m97 86 3).toInt - (m82 86 3).toInt)) := by have q_ := rv101; (try rw [z95] at q_); exact q_
      have K100c := K100
      have K100 := K85.trans (K100.sub (fun _ _ q => q))
      show PV _ _ _ _ _ _ _ 24 [.ref 86, .int 1, pv_U] [.int v101] _
      have k24 := rv101.2.2.2.1
      rw [kt17, kp17] at k24
      have k24z := rv101.2.2.2.2.2
      rw [kt17, kp17] at k24z
      refine pv_if_eq (M := mX7_readFactor) (tgt := 40) dX7_readFactor_24 27 rfl (by decide) (fun c106 => ?_) (fun c106 => ?_)
      · have c106 := iv_eq (X := v101.toInt) (Y := 0) c106 rfl (by decide)
        refine pv_iconst (M := mX7_readFactor) (v := 0) dX7_readFactor_40 41 rfl (by decide) ?_
        have z107 : (0 : Int32).toInt = 0 := by decide
        exact pv_iret (M := mX7_readFactor) dX7_readFactor_41 rfl rfl ⟨_, _, _, rfl, rfl, I99, K100, by decide, by decide, ⟨by omega, by omega, by omega, (by first | exact Or.inr ⟨by decide, FX_deep k91 (by omega)⟩ | exact Or.inr ⟨by decide, FX_cn k91 k27 (fun z => by omega) (by omega)⟩ | exact Or.inl ⟨by decide, FX_co k91 k27 (by omega) (by omega)⟩ | exact Or.inr ⟨by decide, FX_sum k91 (RSX_fl k24 (by omega))⟩ | (exfalso; omega)), by omega, (by first | exact IFZ.is (by rw [FAD_opn k91]; exact CDS.wk (CDS.post (CDS.pre ks17 (IFZ.get k24z (by omega)) (Int.le_refl _)) ks33) (by omega) (by omega)) | exact IFZ.no (by first | decide | omega))⟩⟩
      · have c106 := iv_ne (X := v101.toInt) (Y := 0) c106 rfl (by decide)
        have k27 := RSX_ok k24 (by omega)
        have kt27 : tC m97 = tC m := tC_fz zR2 K100
        refine pv_aload_n (M := mX7_readFactor) 0 dX7_readFactor_27 28 rfl rfl rfl ?_
        refine pv_bipush (M := mX7_readFactor) (v := 93) dX7_readFactor_28 30 rfl (by decide) ?_
        have z110 : (93 : Int32).toInt = 93 := by decide
        refine pv_callv (M := mX7_readFactor) (as := [.int 93]) (st := []) (kc2 := 0) (ks2 := 0) dX7_readFactor_30 wd555 YX7_pass ⟨wd557, wd8⟩ (mk_get (tl86 hT)) rfl rfl (s_X7_pass_vz g hT I99 R 93 (by decide) (by decide) (by first | omega | assumption | exact (iv_rng _).2 | exact (iv_rng _).1 | decide)) rfl rfl (Nat.le_of_ble_eq_true rfl) (by decide) rfl rfl 33 rfl (fun rv h1 q111 => ?_)
        obtain ⟨m112, n113, v116, rfl, rfl, I114, K115, pv116, qv116, rv116⟩ := q111
        replace rv116 : (m97 86 3).toInt ≤ (m112 86 3).toInt ∧ (m112 86 3).toInt ≤ (m112 86 2).toInt ∧ (m112 86 2).toInt = (m97 86 2).toInt ∧ ((v116.toInt = 1 ∧ tC m97 (m97 86 3).toInt = (93 : Int) ∧ (m112 86 3).toInt = (m97 86 3).toInt + 1) ∨ (v116.toInt = 0 ∧ tC m97 (m97 86 3).toInt ≠ (93 : Int) ∧ (m112 86 4).toInt = -1000 - (m97 86 3).toInt ∧ (m112 86 3).toInt = (m97 86 3).toInt)) ∧ (m112 lb 7).toInt = (m97 lb 7).toInt := by have q_ := rv116; (try rw [z110] at q_); exact q_
        have K115c := K115
        have w117 : (m112 86 2).toInt = (m97 86 2).toInt := congrArg Int32.toInt (K115 86 2 rfl)
        have K115 := K100.trans (K115.sub (by first | exact wZ_wY | exact wZ_86))
        show PV _ _ _ _ _ _ _ 33 [.ref 86, .int 1, pv_U] [.int v116] _
        have k33 := rv116.2.2.2.1
        rw [kt27] at k33
        have ks33 : SAML lb m97 m112 := SAML.fz zR2 K115c
        refine pv_if_eq (M := mX7_readFactor) (tgt := 40) dX7_readFactor_33 36 rfl (by decide) (fun c121 => ?_) (fun c121 => ?_)
        · have c121 := iv_eq (X := v116.toInt) (Y := 0) c121 rfl (by decide)
          refine pv_iconst (M := mX7_readFactor) (v := 0) dX7_readFactor_40 41 rfl (by decide) ?_
          have z122 : (0 : Int32).toInt = 0 := by decide
          exact pv_iret (M := mX7_readFactor) dX7_readFactor_41 rfl rfl ⟨_, _, _, rfl, rfl, I114, K115, by decide, by decide, ⟨by omega, by omega, by omega, (by first | exact Or.inr ⟨by decide, FX_deep k91 (by omega)⟩ | exact Or.inr ⟨by decide, FX_cn k91 k27 (fun z => by omega) (by omega)⟩ | exact Or.inl ⟨by decide, FX_co k91 k27 (by omega) (by omega)⟩ | exact Or.inr ⟨by decide, FX_sum k91 (RSX_fl k24 (by omega))⟩ | (exfalso; omega)), by omega, (by first | exact IFZ.is (by rw [FAD_opn k91]; exact CDS.wk (CDS.post (CDS.pre ks17 (IFZ.get k24z (by omega)) (Int.le_refl _)) ks33) (by omega) (by omega)) | exact IFZ.no (by first | decide | omega))⟩⟩
        · have c121 := iv_ne (X := v116.toInt) (Y := 0) c121 rfl (by decide)
          refine pv_iconst (M := mX7_readFactor) (v := 1) dX7_readFactor_36 37 rfl (by decide) ?_
          refine pv_goto (M := mX7_readFactor) (tgt := 41) dX7_readFactor_37 (by decide) ?_
          have z123 : (1 : Int32).toInt = 1 := by decide
          exact pv_iret (M := mX7_readFactor) dX7_readFactor_41 rfl rfl ⟨_, _, _, rfl, rfl, I114, K115, by decide, by decide, ⟨by omega, by omega, by omega, (by first | exact Or.inr ⟨by decide, FX_deep k91 (by omega)⟩ | exact Or.inr ⟨by decide, FX_cn k91 k27 (fun z => by omega) (by omega)⟩ | exact Or.inl ⟨by decide, FX_co k91 k27 (by omega) (by omega)⟩ | exact Or.inr ⟨by decide, FX_sum k91 (RSX_fl k24 (by omega))⟩ | (exfalso; omega)), by omega, (by first | exact IFZ.is (by rw [FAD_opn k91]; exact CDS.wk (CDS.post (CDS.pre ks17 (IFZ.get k24z (by omega)) (Int.le_refl _)) ks33) (by omega) (by omega)) | exact IFZ.no (by first | decide | omega))⟩⟩

set_option maxHeartbeats 2000000 in
set_option maxRecDepth 20000 in
theorem s_X7_readTerm_v1z (g : pv_G) {T : List mv_T} {m : Nat → Nat → Int32} {n : Nat → Nat → Int64} {r : Nat → Value} {la lb : Nat} (hT : TX T) (I : IV BB m) (R : RX T r la lb) (hp0 : (m 86 3).toInt ≤ (m 86 2).toInt) (hp1 : TBC m) (hp2 : (m lb 2).toInt ≤ (m 86 3).toInt) : PM g mX7_readTerm yX7_readTerm (sqI T BB (wZ lb) r m 0 1 (fun m' v => (m 86 3).toInt ≤ (m' 86 3).toInt ∧ (m' 86 3).toInt ≤ (m' 86 2).toInt ∧ (m' 86 2).toInt = (m 86 2).toInt ∧ ((v.toInt = 0 ∨ (m 86 3).toInt + 1 ≤ (m' 86 3).toInt) ∧ TRX (SU (tC m) 5 (m 86 3).toInt) (LSu (tC m) 5) (fun a => isT (tC m a) = false) v.toInt (m' 86 3).toInt (m' 86 4).toInt) ∧ (m' lb 7).toInt = (m lb 7).toInt ∧ IFZ v.toInt (TMZ (tC m) 5 lb m m' (m 86 3).toInt (m' 86 3).toInt))) 21 0 0 [.ref 86, .int 1] (mk T m n r) := by
  have Kp : fr (wZ lb) m m := fr.rf
  have R0 := R
  have zR := R.2.2.2.2.1.1
  have zR2 := R.2.2.2.2.2.1
  have z99 : 0 ≤ (m 86 3).toInt ∧ (m 86 3).toInt ≤ 160 := I 86 3
  have z100 : 0 ≤ (m 86 2).toInt ∧ (m 86 2).toInt ≤ 160 := I 86 2
  refine PM.of 2 (lo := [.ref 86, .int 1, pv_U, pv_U]) rfl (by decide) rfl rfl (Nat.le_of_ble_eq_true rfl) ?_
  have kTX := TXT_C I
  refine pv_aload_n (M := mX7_readTerm) 0 dX7_readTerm_0 1 rfl rfl rfl ?_
  refine pv_iload_n (M := mX7_readTerm) 1 dX7_readTerm_1 2 rfl rfl rfl ?_
  have z2 : (1 : Int32).toInt = 1 := by decide
  refine pv_callv (M := mX7_readTerm) (as := [.int 1]) (st := []) (kc2 := 0) (ks2 := 0) dX7_readTerm_2 wd547 YX7_readFactor ⟨wd549, wd6⟩ (mk_get (tl86 hT)) rfl rfl (s_X7_readFactor_v1z g hT I R (by first | omega | assumption | exact (iv_rng _).2 | exact (iv_rng _).1 | decide) hp1 (by first | omega | assumption | exact (iv_rng _).2 | exact (iv_rng _).1 | decide)) rfl rfl (Nat.le_of_ble_eq_true rfl) (by decide) rfl rfl 5 rfl (fun rv h1 q3 => ?_)
  obtain ⟨m4, n5, v8, rfl, rfl, I6, K7, pv8, qv8, rv8⟩ := q3
  replace rv8 : (m 86 3).toInt ≤ (m4 86 3).toInt ∧ (m4 86 3).toInt ≤ (m4 86 2).toInt ∧ (m4 86 2).toInt = (m 86 2).toInt ∧ (RSX (FA (tC m) 5 (m 86 3).toInt) v8.toInt (m4 86 3).toInt (m4 86 4).toInt) ∧ (m4 lb 7).toInt = (m lb 7).toInt ∧ IFZ v8.toInt (CDS lb m m4 11 (FAD (tC m) 5 (m 86 3).toInt) ((m4 86 3).toInt - (m 86 3).toInt)) := by have q_ := rv8; (try rw [z2] at q_); exact q_
  have K7c := K7
  have K7 := Kp.trans (K7.sub (fun _ _ q => q))
  show PV _ _ _ _ _ _ _ 5 [.ref 86, .int 1, pv_U, pv_U] [.int v8] _
  have k5 := rv8.2.2.2.1
  have k5z0 := rv8.2.2.2.2.2
  refine pv_if_ne (M := mX7_readTerm) (tgt := 10) dX7_readTerm_5 8 rfl (by decide) (fun c11 => ?_) (fun c11 => ?_)
  · have c11 := iv_ne (X := v8.toInt) (Y := 0) c11 rfl (by decide)
    have kF0 := RSX_ok k5 (by omega)
    have kF1 := FA_le 5 (m 86 3).toInt (by rw [kF0])
    rw [kF0] at kF1
    have k5z := IFZ.get k5z0 (by omega)
    refine pv_iconst (M := mX7_readTerm) (v := 0) dX7_readTerm_10 11 rfl (by decide) ?_
    refine pv_istore_n (M := mX7_readTerm) 2 (lo2 := [.ref 86, .int 1, .int 0, pv_U]) dX7_readTerm_11 12 rfl rfl (by decide) rfl rfl ?_
    have lp22 : ∀ (fuel21 : Nat) (y16 : Int32) (m17 : Nat → Nat → Int32) (n18 : Nat → Nat → Int64), (0 ≤ y16.toInt) → (y16.toInt ≤ 160) → ((m17 86 3).toInt ≤ (m17 86 2).toInt) → ((m17 86 2).toInt = (m 86 2).toInt) → ((m17 lb 7).toInt = (m lb 7).toInt) → ((m 86 3).toInt + 1 + 2 * y16.toInt ≤ (m17 86 3).toInt) → (SU (tC m) 5 (m 86 3).toInt = LSu (tC m) 5 (m17 86 3).toInt) → (TMZ (tC m) 5 lb m m17 (m 86 3).toInt (m17 86 3).toInt) → IV BB m17 → fr (wZ lb) m m17 → ((160 - y16.toInt) : Int).toNat < fuel21 → PV none g mX7_readTerm (sqI T BB (wZ lb) r m 0 1 (fun m' v => (m 86 3).toInt ≤ (m' 86 3).toInt ∧ (m' 86 3).toInt ≤ (m' 86 2).toInt ∧ (m' 86 2).toInt = (m 86 2).toInt ∧ ((v.toInt = 0 ∨ (m 86 3).toInt + 1 ≤ (m' 86 3).toInt) ∧ TRX (SU (tC m) 5 (m 86 3).toInt) (LSu (tC m) 5) (fun a => isT (tC m a) = false) v.toInt (m' 86 3).toInt (m' 86 4).toInt) ∧ (m' lb 7).toInt = (m lb 7).toInt ∧ IFZ v.toInt (TMZ (tC m) 5 lb m m' (m 86 3).toInt (m' 86 3).toInt))) 21 0 0 12 [.ref 86, .int 1, .int y16, pv_U] [] (mk T m17 n18 r) := by
      intro fuel21
      induction fuel21 with
      | zero => intro y16 m17 n18 b24 b25 b26 b27 b28 b29 b30 b31 I19 K20 z32; omega
      | succ fuel21 ih23 =>
        intro y16 m17 n18 b24 b25 b26 b27 b28 b29 b30 b31 I19 K20 z32
        have z33 : 0 ≤ (m17 86 3).toInt ∧ (m17 86 3).toInt ≤ 160 := I19 86 3
        have z34 : 0 ≤ (m17 86 2).toInt ∧ (m17 86 2).toInt ≤ 160 := I19 86 2
        have kgs := (show SU (tC m) 5 (m 86 3).toInt = LSu (tC m) 5 (m17 86 3).toInt by assumption)
        have kt12 : tC m17 = tC m := tC_fz zR2 K20
        have kgz := (show TMZ (tC m) 5 lb m m17 (m 86 3).toInt (m17 86 3).toInt by assumption)
        have kgl := TMZ_b kgz
        refine pv_iload_n (M := mX7_readTerm) 2 dX7_readTerm_12 13 rfl rfl rfl ?_
        refine pv_sipush (M := mX7_readTerm) (v := 160) dX7_readTerm_13 16 rfl (by decide) ?_
        refine pv_icmp_ge (M := mX7_readTerm) (tgt := 66) dX7_readTerm_16 19 rfl (by decide) (fun c39 => ?_) (fun c39 => ?_)
        · have c39 := iv_le (X := 160) (Y := y16.toInt) c39 (by decide) rfl
          refine pv_iconst (M := mX7_readTerm) (v := 1) dX7_readTerm_66 67 rfl (by decide) ?_
          have z40 : (1 : Int32).toInt = 1 := by decide
          exact pv_iret (M := mX7_readTerm) dX7_readTerm_67 rfl rfl ⟨_, _, _, rfl, rfl, I19, K20, by decide, by decide, ⟨by omega, by omega, by omega, ⟨Or.inr (by omega), Or.inl ⟨by decide, kgs, by first | (exact (k23.resolve_left (fun q => by have q1 := q.1; omega)).2) | (exfalso; omega)⟩⟩, by omega, IFZ.is kgz⟩⟩
        · have c39 := iv_nle (X := 160) (Y := y16.toInt) c39 (by decide) rfl
          refine pv_aload_n (M := mX7_readTerm) 0 dX7_readTerm_19 20 rfl rfl rfl ?_
          refine pv_callv (M := mX7_readTerm) (as := []) (st := []) (kc2 := 0) (ks2 := 0) dX7_readTerm_20 wd654 YX7_timesAhead ⟨wd656, wd11⟩ (mk_get (tl86 hT)) rfl rfl (s_X7_timesAhead_vx g hT I19 R) rfl rfl (Nat.le_of_ble_eq_true rfl) (by decide) rfl rfl 23 rfl (fun rv h1 q41 => ?_)
          obtain ⟨v42, rfl, rfl, pv42, qv42, rv42⟩ := q41
          replace rv42 : (v42 = 0 ∨ (m17 86 3).toInt < (m17 86 2).toInt) ∧ ((v42.toInt = 1 ∧ isT (tC m17 (m17 86 3).toInt) = true) ∨ (v42.toInt = 0 ∧ isT (tC m17 (m17 86 3).toInt) = false)) := rv42
          show PV _ _ _ _ _ _ _ 23 [.ref 86, .int 1, .int y16, pv_U] [.int v42] _
          have k23 := rv42.2
          rw [kt12] at k23
          refine pv_if_eq (M := mX7_readTerm) (tgt := 66) dX7_readTerm_23 26 rfl (by decide) (fun c45 => ?_) (fun c45 => ?_)
          · have c45 := iv_eq (X := v42.toInt) (Y := 0) c45 rfl (by decide)
            refine pv_iconst (M := mX7_readTerm) (v := 1) dX7_readTerm_66 67 rfl (by decide) ?_
            have z46 : (1 : Int32).toInt = 1 := by decide
            exact pv_iret (M := mX7_readTerm) dX7_readTerm_67 rfl rfl ⟨_, _, _, rfl, rfl, I19, K20, by decide, by decide, ⟨by omega, by omega, by omega, ⟨Or.inr (by omega), Or.inl ⟨by decide, kgs, by first | (exact (k23.resolve_left (fun q => by have q1 := q.1; omega)).2) | (exfalso; omega)⟩⟩, by omega, IFZ.is kgz⟩⟩
          · have pc45 := rv42.1.resolve_left c45
            have c45 := iv_ne (X := v42.toInt) (Y := 0) c45 rfl (by decide)
            have kT := (k23.resolve_right (fun q => by have q1 := q.1; omega)).2
            refine pv_aload_n (M := mX7_readTerm) 0 dX7_readTerm_26 27 rfl rfl rfl ?_
            refine pv_callv (M := mX7_readTerm) (as := []) (st := []) (kc2 := 0) (ks2 := 0) dX7_readTerm_27 wd527 YX7_peek ⟨wd529, wd2⟩ (mk_get (tl86 hT)) rfl rfl (s_X7_peek_vx g hT I19 R) rfl rfl (Nat.le_of_ble_eq_true rfl) (by decide) rfl rfl 30 rfl (fun rv h1 q48 => ?_)
            obtain ⟨v49, rfl, rfl, pv49, qv49, rv49⟩ := q48
            replace rv49 : v49.toInt = tC m17 (m17 86 3).toInt ∧ (v49.toInt = -1 ∨ (m17 86 3).toInt < (m17 86 2).toInt) := rv49
            show PV _ _ _ _ _ _ _ 30 [.ref 86, .int 1, .int y16, pv_U] [.int v49] _
            have k30 : v49.toInt = tC m (m17 86 3).toInt := by rw [← kt12]; exact rv49.1
            refine pv_istore_n (M := mX7_readTerm) 3 (lo2 := [.ref 86, .int 1, .int y16, .int v49]) dX7_readTerm_30 31 rfl rfl (by decide) rfl rfl ?_
            refine pv_aload_n (M := mX7_readTerm) 0 dX7_readTerm_31 32 rfl rfl rfl ?_
            refine pv_dup (M := mX7_readTerm) dX7_readTerm_32 33 rfl rfl ?_
            refine iv_get (M := mX7_readTerm) (l1 := 0) (l2 := 160) dX7_readTerm_33 FX7 3 wd283 (by decide) (tl86 hT) rfl I19 rfl 36 rfl (fun v51 ev51 pv51 qv51 => ?_)
            have wv51 : v51.toInt = (m17 86 3).toInt := congrArg Int32.toInt ev51
            refine pv_iconst (M := mX7_readTerm) (v := 1) dX7_readTerm_36 37 rfl (by decide) ?_
            refine iv_iadd (M := mX7_readTerm) (X := v51.toInt) (Y := 1) dX7_readTerm_37 38 rfl rfl (by decide) (by omega) (by omega) (fun v52 ev52 => ?_)
            refine iv_put (M := mX7_readTerm) (l1 := 0) (l2 := 160) dX7_readTerm_38 FX7 3 wd283 (by decide) rfl (tl86 hT) rfl rfl rfl I19 rfl (by omega) (by omega) 41 rfl (fun m53 e56 I54 => ?_)
            have K55 := K20.set e56 (by first | rfl | decide)
            have w57 : (m53 86 3).toInt = v52.toInt := by rw [e56, up2_eq]
            have w58 : (m53 86 2).toInt = (m17 86 2).toInt := by rw [e56, up2_ne (by omega)]
            have w59 : (m53 86 4).toInt = (m17 86 4).toInt := by rw [e56, up2_ne (by omega)]
            have w60 : (m53 lb 7).toInt = (m17 lb 7).toInt := by rw [e56, up2_ne (by omega)]
            have w61 : (m53 lb 2).toInt = (m17 lb 2).toInt := by rw [e56, up2_ne (by omega)]
            have kt41 : tC m53 = tC m := tC_fz zR2 K55
            have kp41 : (m53 86 3).toInt = (m17 86 3).toInt + 1 := by omega
            have ks41 : SAML lb m17 m53 := SAML.set zR2 e56
            have kl41 : (m53 lb 2).toInt = (m17 lb 2).toInt := congrArg Int32.toInt ks41.1
            refine pv_aload_n (M := mX7_readTerm) 0 dX7_readTerm_41 42 rfl rfl rfl ?_
            refine pv_iload_n (M := mX7_readTerm) 1 dX7_readTerm_42 43 rfl rfl rfl ?_
            have z66 : (1 : Int32).toInt = 1 := by decide
            refine pv_callv (M := mX7_readTerm) (as := [.int 1]) (st := []) (kc2 := 0) (ks2 := 0) dX7_readTerm_43 wd547 YX7_readFactor ⟨wd549, wd6⟩ (mk_get (tl86 hT)) rfl rfl (s_X7_readFactor_v1z g hT I54 R (by first | omega | assumption | exact (iv_rng _).2 | exact (iv_rng _).1 | decide) (TBC_eq hp1 kt41) (by first | omega | assumption | exact (iv_rng _).2 | exact (iv_rng _).1 | decide)) rfl rfl (Nat.le_of_ble_eq_true rfl) (by decide) rfl rfl 46 rfl (fun rv h1 q67 => ?_)
            obtain ⟨m68, n69, v72, rfl, rfl, I70, K71, pv72, qv72, rv72⟩ := q67
            replace rv72 : (m53 86 3).toInt ≤ (m68 86 3).toInt ∧ (m68 86 3).toInt ≤ (m68 86 2).toInt ∧ (m68 86 2).toInt = (m53 86 2).toInt ∧ (RSX (FA (tC m53) 5 (m53 86 3).toInt) v72.toInt (m68 86 3).toInt (m68 86 4).toInt) ∧ (m68 lb 7).toInt = (m53 lb 7).toInt ∧ IFZ v72.toInt (CDS lb m53 m68 11 (FAD (tC m53) 5 (m53 86 3).toInt) ((m68 86 3).toInt - (m53 86 3).toInt)) := by have q_ := rv72; (try rw [z66] at q_); exact q_
            have K71c := K71
            have K71 := K55.trans (K71.sub (fun _ _ q => q))
            show PV _ _ _ _ _ _ _ 46 [.ref 86, .int 1, .int y16, .int v49] [.int v72] _
            have k46 := rv72.2.2.2.1
            rw [kt41, kp41] at k46
            have k46z0 := rv72.2.2.2.2.2
            rw [kt41, kp41] at k46z0
            refine pv_if_ne (M := mX7_readTerm) (tgt := 51) dX7_readTerm_46 49 rfl (by decide) (fun c77 => ?_) (fun c77 => ?_)
            · have c77 := iv_ne (X := v72.toInt) (Y := 0) c77 rfl (by decide)
              have kF4 := RSX_ok k46 (by omega)
              have kF5 := FA_le 5 ((m17 86 3).toInt + 1) (by rw [kF4])
              rw [kF4] at kF5
              have k46z := IFZ.get k46z0 (by omega)
              have k46b := CDS_b k46z
              refine pv_aload_n (M := mX7_readTerm) 0 dX7_readTerm_51 52 rfl rfl rfl ?_
              refine mv_get (M := mX7_readTerm) (v := .ref lb) dX7_readTerm_52 FX7 1 wd281 (by decide) (tl86 hT) rfl R.2.2.2.1 55 rfl ?_
              refine pv_iload_n (M := mX7_readTerm) 3 dX7_readTerm_55 56 rfl rfl rfl ?_
              refine pv_iconst (M := mX7_readTerm) (v := 0) dX7_readTerm_56 57 rfl (by decide) ?_
              have z83 : (0 : Int32).toInt = 0 := by decide
              refine pv_callv (M := mX7_readTerm) (as := [.int v49, .int 0]) (st := []) (kc2 := 0) (ks2 := 0) dX7_readTerm_57 wd567 YX6_emit ⟨wd568, wd569⟩ (mk_get R.2.2.2.2.2.2.1) rfl rfl (s_X6_emit_vz g hT I70 lb R.2.2.2.2.2 v49 0 (by decide) (by decide)) rfl rfl (Nat.le_of_ble_eq_true rfl) (by decide) rfl rfl 60 rfl (fun rv h1 q84 => ?_)
              obtain ⟨m85, n86, rfl, rfl, I87, K88, rm85⟩ := q84
              replace rm85 : (m85 lb 7).toInt = (m68 lb 7).toInt ∧ ((m68 lb 2).toInt < 160 → EMT lb m68 m85 v49.toInt (0 : Int32)) := by have q_ := rm85; (try rw [z83] at q_); exact q_
              have K88c := K88
              have w89 : (m85 86 3).toInt = (m68 86 3).toInt := congrArg Int32.toInt (K88 86 3 (wY_out (by omega) (by omega) (by omega)))
              have w90 : (m85 86 2).toInt = (m68 86 2).toInt := congrArg Int32.toInt (K88 86 2 (wY_out (by omega) (by omega) (by omega)))
              have w91 : (m85 86 4).toInt = (m68 86 4).toInt := congrArg Int32.toInt (K88 86 4 (wY_out (by omega) (by omega) (by omega)))
              have K88 := K71.trans (K88.sub (by first | exact wZ_wY | exact wZ_86))
              show PV _ _ _ _ _ _ _ 60 [.ref 86, .int 1, .int y16, .int v49] [] _
              have k60 := rm85.2 (by omega)
              refine iv_inc (M := mX7_readTerm) (C := 1) dX7_readTerm_60 63 rfl rfl (by decide) rfl rfl (by decide) (by omega) (by omega) (fun v93 ev93 => ?_)
              show PV _ _ _ _ _ _ _ 63 [.ref 86, .int 1, .int v93, .int v49] [] _
              refine pv_goto (M := mX7_readTerm) (tgt := 12) dX7_readTerm_63 (by decide) ?_
              refine pv_fg (lo2 := [.ref 86, .int 1, .int v93, pv_U]) ⟨Or.inr rfl, ⟨Or.inr rfl, ⟨Or.inr rfl, ⟨Or.inl rfl, trivial⟩⟩⟩⟩ ?_
              have kbs : SU (tC m) 5 (m 86 3).toInt = LSu (tC m) 5 (m85 86 3).toInt := by rw [kgs, LSu_ok kTX (by omega) (isT_S kT) kF4]; congr 1; omega
              have kbz : TMZ (tC m) 5 lb m m85 (m 86 3).toInt (m85 86 3).toInt := TMZ_s kgz kTX (by omega) kT (by rw [kF4]; congr 1; omega) ks41 k46z k60 (by omega) (by omega)
              exact ih23 v93 m85 n86 (by first | omega | assumption | exact (iv_rng _).2 | exact (iv_rng _).1 | decide) (by first | omega | assumption | exact (iv_rng _).2 | exact (iv_rng _).1 | decide) (by first | omega | assumption | (show (m85 86 3).toInt ≤ (m85 86 2).toInt; omega) | decide) (by first | omega | assumption | (show (m85 86 2).toInt = (m 86 2).toInt; omega) | decide) (by first | omega | assumption | (show (m85 lb 7).toInt = (m lb 7).toInt; omega) | decide) (by first | omega | assumption | (show (m 86 3).toInt + 1 + 2 * v93.toInt ≤ (m85 86 3).toInt; omega) | decide) kbs kbz I87 K88 (by omega)
            · have c77 := iv_eq (X := v72.toInt) (Y := 0) c77 rfl (by decide)
              refine pv_iconst (M := mX7_readTerm) (v := 0) dX7_readTerm_49 50 rfl (by decide) ?_
              have z96 : (0 : Int32).toInt = 0 := by decide
              exact pv_iret (M := mX7_readTerm) dX7_readTerm_50 rfl rfl ⟨_, _, _, rfl, rfl, I70, K71, by decide, by decide, ⟨by omega, by omega, by omega, ⟨Or.inl (by decide), Or.inr ⟨by decide, by rw [kgs]; exact LSu_fl kTX (by omega) (isT_S kT) (RSX_fl k46 (by omega))⟩⟩, by omega, IFZ.no (by first | decide | omega)⟩⟩
    have z97 : (0 : Int32).toInt = 0 := by decide
    exact lp22 (((160 - 0) : Int).toNat + 1) 0 m4 n5 (by first | omega | assumption | exact (iv_rng _).2 | exact (iv_rng _).1 | decide) (by first | omega | assumption | exact (iv_rng _).2 | exact (iv_rng _).1 | decide) (by first | omega | assumption | (show (m4 86 3).toInt ≤ (m4 86 2).toInt; omega) | decide) (by first | omega | assumption | (show (m4 86 2).toInt = (m 86 2).toInt; omega) | decide) (by first | omega | assumption | (show (m4 lb 7).toInt = (m lb 7).toInt; omega) | decide) (by first | omega | assumption | (show (m 86 3).toInt + 1 + 2 * 0 ≤ (m4 86 3).toInt; omega) | decide) (SU_ok kF0) (TMZ_0 k5z kF0) I6 K7 (by omega)
  · have c11 := iv_eq (X := v8.toInt) (Y := 0) c11 rfl (by decide)
    refine pv_iconst (M := mX7_readTerm) (v := 0) dX7_readTerm_8 9 rfl (by decide) ?_
    have z98 : (0 : Int32).toInt = 0 := by decide
    exact pv_iret (M := mX7_readTerm) dX7_readTerm_9 rfl rfl ⟨_, _, _, rfl, rfl, I6, K7, by decide, by decide, ⟨by omega, by omega, by omega, ⟨Or.inl (by decide), Or.inr ⟨by decide, SU_fl (RSX_fl k5 (by omega))⟩⟩, by omega, IFZ.no (by first | decide | omega)⟩⟩

set_option maxHeartbeats 2000000 in
set_option maxRecDepth 20000 in
theorem s_X7_readSum_v1z (g : pv_G) {T : List mv_T} {m : Nat → Nat → Int32} {n : Nat → Nat → Int64} {r : Nat → Value} {la lb : Nat} (hT : TX T) (I : IV BB m) (R : RX T r la lb) (hp0 : (m 86 3).toInt ≤ (m 86 2).toInt) (hp1 : TBC m) (hp2 : (m lb 2).toInt ≤ (m 86 3).toInt) : PM g mX7_readSum yX7_readSum (sqI T BB (wZ lb) r m 0 1 (fun m' v => (m 86 3).toInt ≤ (m' 86 3).toInt ∧ (m' 86 3).toInt ≤ (m' 86 2).toInt ∧ (m' 86 2).toInt = (m 86 2).toInt ∧ (RSX (SU (tC m) 5 (m 86 3).toInt) v.toInt (m' 86 3).toInt (m' 86 4).toInt) ∧ (m' lb 7).toInt = (m lb 7).toInt ∧ IFZ v.toInt (CDS lb m m' 13 (SUD (tC m) 5 (m 86 3).toInt) ((m' 86 3).toInt - (m 86 3).toInt)))) 22 0 0 [.ref 86, .int 1] (mk T m n r) := by
  have Kp : fr (wZ lb) m m := fr.rf
  have R0 := R
  have zR := R.2.2.2.2.1.1
  have zR2 := R.2.2.2.2.2.1
  have z158 : 0 ≤ (m 86 3).toInt ∧ (m 86 3).toInt ≤ 160 := I 86 3
  have z159 : 0 ≤ (m 86 2).toInt ∧ (m 86 2).toInt ≤ 160 := I 86 2
  refine PM.of 2 (lo := [.ref 86, .int 1, pv_U, pv_U]) rfl (by decide) rfl rfl (Nat.le_of_ble_eq_true rfl) ?_
  have kTX := TXT_C I
  refine pv_aload_n (M := mX7_readSum) 0 dX7_readSum_0 1 rfl rfl rfl ?_
  refine pv_iload_n (M := mX7_readSum) 1 dX7_readSum_1 2 rfl rfl rfl ?_
  have z2 : (1 : Int32).toInt = 1 := by decide
  refine pv_callv (M := mX7_readSum) (as := [.int 1]) (st := []) (kc2 := 0) (ks2 := 0) dX7_readSum_2 wd543 YX7_readTerm ⟨wd545, wd5⟩ (mk_get (tl86 hT)) rfl rfl (s_X7_readTerm_v1z g hT I R (by first | omega | assumption | exact (iv_rng _).2 | exact (iv_rng _).1 | decide) hp1 (by first | omega | assumption | exact (iv_rng _).2 | exact (iv_rng _).1 | decide)) rfl rfl (Nat.le_of_ble_eq_true rfl) (by decide) rfl rfl 5 rfl (fun rv h1 q3 => ?_)
  obtain ⟨m4, n5, v8, rfl, rfl, I6, K7, pv8, qv8, rv8⟩ := q3
  replace rv8 : (m 86 3).toInt ≤ (m4 86 3).toInt ∧ (m4 86 3).toInt ≤ (m4 86 2).toInt ∧ (m4 86 2).toInt = (m 86 2).toInt ∧ ((v8.toInt = 0 ∨ (m 86 3).toInt + 1 ≤ (m4 86 3).toInt) ∧ TRX (SU (tC m) 5 (m 86 3).toInt) (LSu (tC m) 5) (fun a => isT (tC m a) = false) v8.toInt (m4 86 3).toInt (m4 86 4).toInt) ∧ (m4 lb 7).toInt = (m lb 7).toInt ∧ IFZ v8.toInt (TMZ (tC m) 5 lb m m4 (m 86 3).toInt (m4 86 3).toInt) := by have q_ := rv8; (try rw [z2] at q_); exact q_
  have K7c := K7
  have K7 := Kp.trans (K7.sub (fun _ _ q => q))
  show PV _ _ _ _ _ _ _ 5 [.ref 86, .int 1, pv_U, pv_U] [.int v8] _
  have k5 := rv8.2.2.2.1.2
  have k5p := rv8.2.2.2.1.1
  have k5z0 := rv8.2.2.2.2.2
  refine pv_if_ne (M := mX7_readSum) (tgt := 10) dX7_readSum_5 8 rfl (by decide) (fun c12 => ?_) (fun c12 => ?_)
  · have c12 := iv_ne (X := v8.toInt) (Y := 0) c12 rfl (by decide)
    have k5z := IFZ.get k5z0 (by omega)
    refine pv_iconst (M := mX7_readSum) (v := 0) dX7_readSum_10 11 rfl (by decide) ?_
    refine pv_istore_n (M := mX7_readSum) 2 (lo2 := [.ref 86, .int 1, .int 0, pv_U]) dX7_readSum_11 12 rfl rfl (by decide) rfl rfl ?_
    have lp20 : ∀ (fuel19 : Nat) (y14 : Int32) (m15 : Nat → Nat → Int32) (n16 : Nat → Nat → Int64), (0 ≤ y14.toInt) → (y14.toInt ≤ 160) → ((m15 86 3).toInt ≤ (m15 86 2).toInt) → ((m15 86 2).toInt = (m 86 2).toInt) → ((m15 lb 7).toInt = (m lb 7).toInt) → ((m 86 3).toInt + 1 + 2 * y14.toInt ≤ (m15 86 3).toInt) → (SU (tC m) 5 (m 86 3).toInt = LSu (tC m) 5 (m15 86 3).toInt) → (isT (tC m (m15 86 3).toInt) = false) → (SMZ (tC m) 5 lb m m15 (m 86 3).toInt (m15 86 3).toInt) → IV BB m15 → fr (wZ lb) m m15 → ((160 - y14.toInt) : Int).toNat < fuel19 → PV none g mX7_readSum (sqI T BB (wZ lb) r m 0 1 (fun m' v => (m 86 3).toInt ≤ (m' 86 3).toInt ∧ (m' 86 3).toInt ≤ (m' 86 2).toInt ∧ (m' 86 2).toInt = (m 86 2).toInt ∧ (RSX (SU (tC m) 5 (m 86 3).toInt) v.toInt (m' 86 3).toInt (m' 86 4).toInt) ∧ (m' lb 7).toInt = (m lb 7).toInt ∧ IFZ v.toInt (CDS lb m m' 13 (SUD (tC m) 5 (m 86 3).toInt) ((m' 86 3).toInt - (m 86 3).toInt)))) 22 0 0 12 [.ref 86, .int 1, .int y14, pv_U] [] (mk T m15 n16 r) := by
      intro fuel19
      induction fuel19 with
      | zero => intro y14 m15 n16 b22 b23 b24 b25 b26 b27 b28 b29 b30 I17 K18 z31; omega
      | succ fuel19 ih21 =>
        intro y14 m15 n16 b22 b23 b24 b25 b26 b27 b28 b29 b30 I17 K18 z31
        have z32 : 0 ≤ (m15 86 3).toInt ∧ (m15 86 3).toInt ≤ 160 := I17 86 3
        have z33 : 0 ≤ (m15 86 2).toInt ∧ (m15 86 2).toInt ≤ 160 := I17 86 2
        have kgs := (show SU (tC m) 5 (m 86 3).toInt = LSu (tC m) 5 (m15 86 3).toInt by assumption)
        have kgt := (show isT (tC m (m15 86 3).toInt) = false by assumption)
        have kt12 : tC m15 = tC m := tC_fz zR2 K18
        have kgz := (show SMZ (tC m) 5 lb m m15 (m 86 3).toInt (m15 86 3).toInt by assumption)
        have kgl := SMZ_b kgz
        refine pv_iload_n (M := mX7_readSum) 2 dX7_readSum_12 13 rfl rfl rfl ?_
        refine pv_sipush (M := mX7_readSum) (v := 160) dX7_readSum_13 16 rfl (by decide) ?_
        refine pv_icmp_ge (M := mX7_readSum) (tgt := 77) dX7_readSum_16 19 rfl (by decide) (fun c39 => ?_) (fun c39 => ?_)
        · have c39 := iv_le (X := 160) (Y := y14.toInt) c39 (by decide) rfl
          refine pv_iconst (M := mX7_readSum) (v := 1) dX7_readSum_77 78 rfl (by decide) ?_
          have z40 : (1 : Int32).toInt = 1 := by decide
          exact pv_iret (M := mX7_readSum) dX7_readSum_78 rfl rfl ⟨_, _, _, rfl, rfl, I17, K18, by decide, by decide, ⟨by omega, by omega, by omega, (by first | exact Or.inl ⟨by decide, by rw [kgs]; exact LSu_no (isS_n kgt (by omega) (by omega))⟩ | (exfalso; omega)), by omega, (by first | exact IFZ.is (SMZ_e kgz (isS_n kgt (by omega) (by omega))) | exact IFZ.no (by omega))⟩⟩
        · have c39 := iv_nle (X := 160) (Y := y14.toInt) c39 (by decide) rfl
          refine pv_aload_n (M := mX7_readSum) 0 dX7_readSum_19 20 rfl rfl rfl ?_
          refine pv_callv (M := mX7_readSum) (as := []) (st := []) (kc2 := 0) (ks2 := 0) dX7_readSum_20 wd527 YX7_peek ⟨wd529, wd2⟩ (mk_get (tl86 hT)) rfl rfl (s_X7_peek_vx g hT I17 R) rfl rfl (Nat.le_of_ble_eq_true rfl) (by decide) rfl rfl 23 rfl (fun rv h1 q41 => ?_)
          obtain ⟨v42, rfl, rfl, pv42, qv42, rv42⟩ := q41
          replace rv42 : v42.toInt = tC m15 (m15 86 3).toInt ∧ (v42.toInt = -1 ∨ (m15 86 3).toInt < (m15 86 2).toInt) := rv42
          show PV _ _ _ _ _ _ _ 23 [.ref 86, .int 1, .int y14, pv_U] [.int v42] _
          have k23 := rv42.1
          have k23b := rv42.2
          rw [kt12] at k23
          refine pv_bipush (M := mX7_readSum) (v := 43) dX7_readSum_23 25 rfl (by decide) ?_
          refine pv_icmp_eq (M := mX7_readSum) (tgt := 37) dX7_readSum_25 28 rfl (by decide) (fun c46 => ?_) (fun c46 => ?_)
          · have c46 := iv_eq (X := v42.toInt) (Y := 43) c46 rfl (by decide)
            have kS : isS (tC m (m15 86 3).toInt) = true := isS_y (by omega)
            refine pv_aload_n (M := mX7_readSum) 0 dX7_readSum_37 38 rfl rfl rfl ?_
            refine pv_callv (M := mX7_readSum) (as := []) (st := []) (kc2 := 0) (ks2 := 0) dX7_readSum_38 wd527 YX7_peek ⟨wd529, wd2⟩ (mk_get (tl86 hT)) rfl rfl (s_X7_peek_vx g hT I17 R) rfl rfl (Nat.le_of_ble_eq_true rfl) (by decide) rfl rfl 41 rfl (fun rv h1 q48 => ?_)
            obtain ⟨v49, rfl, rfl, pv49, qv49, rv49⟩ := q48
            replace rv49 : v49.toInt = tC m15 (m15 86 3).toInt ∧ (v49.toInt = -1 ∨ (m15 86 3).toInt < (m15 86 2).toInt) := rv49
            show PV _ _ _ _ _ _ _ 41 [.ref 86, .int 1, .int y14, pv_U] [.int v49] _
            have k41 : v49.toInt = tC m (m15 86 3).toInt := by rw [← kt12]; exact rv49.1
            refine pv_istore_n (M := mX7_readSum) 3 (lo2 := [.ref 86, .int 1, .int y14, .int v49]) dX7_readSum_41 42 rfl rfl (by decide) rfl rfl ?_
            refine pv_aload_n (M := mX7_readSum) 0 dX7_readSum_42 43 rfl rfl rfl ?_
            refine pv_dup (M := mX7_readSum) dX7_readSum_43 44 rfl rfl ?_
            refine iv_get (M := mX7_readSum) (l1 := 0) (l2 := 160) dX7_readSum_44 FX7 3 wd283 (by decide) (tl86 hT) rfl I17 rfl 47 rfl (fun v51 ev51 pv51 qv51 => ?_)
            have wv51 : v51.toInt = (m15 86 3).toInt := congrArg Int32.toInt ev51
            refine pv_iconst (M := mX7_readSum) (v := 1) dX7_readSum_47 48 rfl (by decide) ?_
            refine iv_iadd (M := mX7_readSum) (X := v51.toInt) (Y := 1) dX7_readSum_48 49 rfl rfl (by decide) (by omega) (by omega) (fun v52 ev52 => ?_)
            refine iv_put (M := mX7_readSum) (l1 := 0) (l2 := 160) dX7_readSum_49 FX7 3 wd283 (by decide) rfl (tl86 hT) rfl rfl rfl I17 rfl (by omega) (by omega) 52 rfl (fun m53 e56 I54 => ?_)
            have K55 := K18.set e56 (by first | rfl | decide)
            have w57 : (m53 86 3).toInt = v52.toInt := by rw [e56, up2_eq]
            have w58 : (m53 86 2).toInt = (m15 86 2).toInt := by rw [e56, up2_ne (by omega)]
            have w59 : (m53 86 4).toInt = (m15 86 4).toInt := by rw [e56, up2_ne (by omega)]
            have w60 : (m53 lb 7).toInt = (m15 lb 7).toInt := by rw [e56, up2_ne (by omega)]
            have w61 : (m53 lb 2).toInt = (m15 lb 2).toInt := by rw [e56, up2_ne (by omega)]
            have kt52 : tC m53 = tC m := tC_fz zR2 K55
            have kp52 : (m53 86 3).toInt = (m15 86 3).toInt + 1 := by omega
            have ks52 : SAML lb m15 m53 := SAML.set zR2 e56
            have kl52 : (m53 lb 2).toInt = (m15 lb 2).toInt := congrArg Int32.toInt ks52.1
            refine pv_aload_n (M := mX7_readSum) 0 dX7_readSum_52 53 rfl rfl rfl ?_
            refine pv_iload_n (M := mX7_readSum) 1 dX7_readSum_53 54 rfl rfl rfl ?_
            have z66 : (1 : Int32).toInt = 1 := by decide
            refine pv_callv (M := mX7_readSum) (as := [.int 1]) (st := []) (kc2 := 0) (ks2 := 0) dX7_readSum_54 wd543 YX7_readTerm ⟨wd545, wd5⟩ (mk_get (tl86 hT)) rfl rfl (s_X7_readTerm_v1z g hT I54 R (by first | omega | assumption | exact (iv_rng _).2 | exact (iv_rng _).1 | decide) (TBC_eq hp1 kt52) (by first | omega | assumption | exact (iv_rng _).2 | exact (iv_rng _).1 | decide)) rfl rfl (Nat.le_of_ble_eq_true rfl) (by decide) rfl rfl 57 rfl (fun rv h1 q67 => ?_)
            obtain ⟨m68, n69, v72, rfl, rfl, I70, K71, pv72, qv72, rv72⟩ := q67
            replace rv72 : (m53 86 3).toInt ≤ (m68 86 3).toInt ∧ (m68 86 3).toInt ≤ (m68 86 2).toInt ∧ (m68 86 2).toInt = (m53 86 2).toInt ∧ ((v72.toInt = 0 ∨ (m53 86 3).toInt + 1 ≤ (m68 86 3).toInt) ∧ TRX (SU (tC m53) 5 (m53 86 3).toInt) (LSu (tC m53) 5) (fun a => isT (tC m53 a) = false) v72.toInt (m68 86 3).toInt (m68 86 4).toInt) ∧ (m68 lb 7).toInt = (m53 lb 7).toInt ∧ IFZ v72.toInt (TMZ (tC m53) 5 lb m53 m68 (m53 86 3).toInt (m68 86 3).toInt) := by have q_ := rv72; (try rw [z66] at q_); exact q_
            have K71c := K71
            have K71 := K55.trans (K71.sub (fun _ _ q => q))
            show PV _ _ _ _ _ _ _ 57 [.ref 86, .int 1, .int y14, .int v49] [.int v72] _
            have k57 := rv72.2.2.2.1.2
            have k57p := rv72.2.2.2.1.1
            rw [kt52, kp52] at k57
            have k57z0 := rv72.2.2.2.2.2
            rw [kt52, kp52] at k57z0
            refine pv_if_ne (M := mX7_readSum) (tgt := 62) dX7_readSum_57 60 rfl (by decide) (fun c78 => ?_) (fun c78 => ?_)
            · have c78 := iv_ne (X := v72.toInt) (Y := 0) c78 rfl (by decide)
              have kT6 := TRX_ok k57 (by omega)
              have k57z := IFZ.get k57z0 (by omega)
              have k57b := TMZ_b k57z
              refine pv_aload_n (M := mX7_readSum) 0 dX7_readSum_62 63 rfl rfl rfl ?_
              refine mv_get (M := mX7_readSum) (v := .ref lb) dX7_readSum_63 FX7 1 wd281 (by decide) (tl86 hT) rfl R.2.2.2.1 66 rfl ?_
              refine pv_iload_n (M := mX7_readSum) 3 dX7_readSum_66 67 rfl rfl rfl ?_
              refine pv_iconst (M := mX7_readSum) (v := 0) dX7_readSum_67 68 rfl (by decide) ?_
              have z82 : (0 : Int32).toInt = 0 := by decide
              refine pv_callv (M := mX7_readSum) (as := [.int v49, .int 0]) (st := []) (kc2 := 0) (ks2 := 0) dX7_readSum_68 wd567 YX6_emit ⟨wd568, wd569⟩ (mk_get R.2.2.2.2.2.2.1) rfl rfl (s_X6_emit_vz g hT I70 lb R.2.2.2.2.2 v49 0 (by decide) (by decide)) rfl rfl (Nat.le_of_ble_eq_true rfl) (by decide) rfl rfl 71 rfl (fun rv h1 q83 => ?_)
              obtain ⟨m84, n85, rfl, rfl, I86, K87, rm84⟩ := q83
              replace rm84 : (m84 lb 7).toInt = (m68 lb 7).toInt ∧ ((m68 lb 2).toInt < 160 → EMT lb m68 m84 v49.toInt (0 : Int32)) := by have q_ := rm84; (try rw [z82] at q_); exact q_
              have K87c := K87
              have w88 : (m84 86 3).toInt = (m68 86 3).toInt := congrArg Int32.toInt (K87 86 3 (wY_out (by omega) (by omega) (by omega)))
              have w89 : (m84 86 2).toInt = (m68 86 2).toInt := congrArg Int32.toInt (K87 86 2 (wY_out (by omega) (by omega) (by omega)))
              have w90 : (m84 86 4).toInt = (m68 86 4).toInt := congrArg Int32.toInt (K87 86 4 (wY_out (by omega) (by omega) (by omega)))
              have K87 := K71.trans (K87.sub (by first | exact wZ_wY | exact wZ_86))
              show PV _ _ _ _ _ _ _ 71 [.ref 86, .int 1, .int y14, .int v49] [] _
              have k71 := rm84.2 (by omega)
              refine iv_inc (M := mX7_readSum) (C := 1) dX7_readSum_71 74 rfl rfl (by decide) rfl rfl (by decide) (by omega) (by omega) (fun v92 ev92 => ?_)
              show PV _ _ _ _ _ _ _ 74 [.ref 86, .int 1, .int v92, .int v49] [] _
              refine pv_goto (M := mX7_readSum) (tgt := 12) dX7_readSum_74 (by decide) ?_
              refine pv_fg (lo2 := [.ref 86, .int 1, .int v92, pv_U]) ⟨Or.inr rfl, ⟨Or.inr rfl, ⟨Or.inr rfl, ⟨Or.inl rfl, trivial⟩⟩⟩⟩ ?_
              have kb3 : (m84 86 3).toInt = (m68 86 3).toInt := by omega
              have kbs : SU (tC m) 5 (m 86 3).toInt = LSu (tC m) 5 (m84 86 3).toInt := by rw [kgs, LSu_su kTX (by omega) kS, kT6.1]; congr 1; omega
              have kbt : isT (tC m (m84 86 3).toInt) = false := by rw [kb3]; exact kT6.2
              have kbz : SMZ (tC m) 5 lb m m84 (m 86 3).toInt (m84 86 3).toInt := by rw [kb3]; exact SMZ_s kgz kTX (by omega) kS kgt ks52 k57z k71 (by omega) (by unfold isO; omega) kT6.2
              exact ih21 v92 m84 n85 (by first | omega | assumption | exact (iv_rng _).2 | exact (iv_rng _).1 | decide) (by first | omega | assumption | exact (iv_rng _).2 | exact (iv_rng _).1 | decide) (by first | omega | assumption | (show (m84 86 3).toInt ≤ (m84 86 2).toInt; omega) | decide) (by first | omega | assumption | (show (m84 86 2).toInt = (m 86 2).toInt; omega) | decide) (by first | omega | assumption | (show (m84 lb 7).toInt = (m lb 7).toInt; omega) | decide) (by first | omega | assumption | (show (m 86 3).toInt + 1 + 2 * v92.toInt ≤ (m84 86 3).toInt; omega) | decide) kbs kbt kbz I86 K87 (by omega)
            · have c78 := iv_eq (X := v72.toInt) (Y := 0) c78 rfl (by decide)
              refine pv_iconst (M := mX7_readSum) (v := 0) dX7_readSum_60 61 rfl (by decide) ?_
              have z97 : (0 : Int32).toInt = 0 := by decide
              exact pv_iret (M := mX7_readSum) dX7_readSum_61 rfl rfl ⟨_, _, _, rfl, rfl, I70, K71, by decide, by decide, ⟨by omega, by omega, by omega, Or.inr ⟨by decide, by rw [kgs, LSu_su kTX (by omega) kS]; exact TRX_fl k57 (by omega)⟩, by omega, IFZ.no (by first | decide | omega)⟩⟩
          · have c46 := iv_ne (X := v42.toInt) (Y := 43) c46 rfl (by decide)
            refine pv_aload_n (M := mX7_readSum) 0 dX7_readSum_28 29 rfl rfl rfl ?_
            refine pv_callv (M := mX7_readSum) (as := []) (st := []) (kc2 := 0) (ks2 := 0) dX7_readSum_29 wd527 YX7_peek ⟨wd529, wd2⟩ (mk_get (tl86 hT)) rfl rfl (s_X7_peek_vx g hT I17 R) rfl rfl (Nat.le_of_ble_eq_true rfl) (by decide) rfl rfl 32 rfl (fun rv h1 q98 => ?_)
            obtain ⟨v99, rfl, rfl, pv99, qv99, rv99⟩ := q98
            replace rv99 : v99.toInt = tC m15 (m15 86 3).toInt ∧ (v99.toInt = -1 ∨ (m15 86 3).toInt < (m15 86 2).toInt) := rv99
            show PV _ _ _ _ _ _ _ 32 [.ref 86, .int 1, .int y14, pv_U] [.int v99] _
            have k32 := rv99.1
            have k32b := rv99.2
            rw [kt12] at k32
            refine pv_bipush (M := mX7_readSum) (v := 45) dX7_readSum_32 34 rfl (by decide) ?_
            refine pv_icmp_ne (M := mX7_readSum) (tgt := 77) dX7_readSum_34 37 rfl (by decide) (fun c103 => ?_) (fun c103 => ?_)
            · have c103 := iv_ne (X := v99.toInt) (Y := 45) c103 rfl (by decide)
              refine pv_iconst (M := mX7_readSum) (v := 1) dX7_readSum_77 78 rfl (by decide) ?_
              have z104 : (1 : Int32).toInt = 1 := by decide
              exact pv_iret (M := mX7_readSum) dX7_readSum_78 rfl rfl ⟨_, _, _, rfl, rfl, I17, K18, by decide, by decide, ⟨by omega, by omega, by omega, (by first | exact Or.inl ⟨by decide, by rw [kgs]; exact LSu_no (isS_n kgt (by omega) (by omega))⟩ | (exfalso; omega)), by omega, (by first | exact IFZ.is (SMZ_e kgz (isS_n kgt (by omega) (by omega))) | exact IFZ.no (by omega))⟩⟩
            · have c103 := iv_eq (X := v99.toInt) (Y := 45) c103 rfl (by decide)
              have kS : isS (tC m (m15 86 3).toInt) = true := isS_y (by omega)
              refine pv_aload_n (M := mX7_readSum) 0 dX7_readSum_37 38 rfl rfl rfl ?_
              refine pv_callv (M := mX7_readSum) (as := []) (st := []) (kc2 := 0) (ks2 := 0) dX7_readSum_38 wd527 YX7_peek ⟨wd529, wd2⟩ (mk_get (tl86 hT)) rfl rfl (s_X7_peek_vx g hT I17 R) rfl rfl (Nat.le_of_ble_eq_true rfl) (by decide) rfl rfl 41 rfl (fun rv h1 q106 => ?_)
              obtain ⟨v107, rfl, rfl, pv107, qv107, rv107⟩ := q106
              replace rv107 : v107.toInt = tC m15 (m15 86 3).toInt ∧ (v107.toInt = -1 ∨ (m15 86 3).toInt < (m15 86 2).toInt) := rv107
              show PV _ _ _ _ _ _ _ 41 [.ref 86, .int 1, .int y14, pv_U] [.int v107] _
              have k41 : v107.toInt = tC m (m15 86 3).toInt := by rw [← kt12]; exact rv107.1
              refine pv_istore_n (M := mX7_readSum) 3 (lo2 := [.ref 86, .int 1, .int y14, .int v107]) dX7_readSum_41 42 rfl rfl (by decide) rfl rfl ?_
              refine pv_aload_n (M := mX7_readSum) 0 dX7_readSum_42 43 rfl rfl rfl ?_
              refine pv_dup (M := mX7_readSum) dX7_readSum_43 44 rfl rfl ?_
              refine iv_get (M := mX7_readSum) (l1 := 0) (l2 := 160) dX7_readSum_44 FX7 3 wd283 (by decide) (tl86 hT) rfl I17 rfl 47 rfl (fun v109 ev109 pv109 qv109 => ?_)
              have wv109 : v109.toInt = (m15 86 3).toInt := congrArg Int32.toInt ev109
              refine pv_iconst (M := mX7_readSum) (v := 1) dX7_readSum_47 48 rfl (by decide) ?_
              refine iv_iadd (M := mX7_readSum) (X := v109.toInt) (Y := 1) dX7_readSum_48 49 rfl rfl (by decide) (by omega) (by omega) (fun v110 ev110 => ?_)
              refine iv_put (M := mX7_readSum) (l1 := 0) (l2 := 160) dX7_readSum_49 FX7 3 wd283 (by decide) rfl (tl86 hT) rfl rfl rfl I17 rfl (by omega) (by omega) 52 rfl (fun m111 e114 I112 => ?_)
              have K113 := K18.set e114 (by first | rfl | decide)
              have w115 : (m111 86 3).toInt = v110.toInt := by rw [e114, up2_eq]
              have w116 : (m111 86 2).toInt = (m15 86 2).toInt := by rw [e114, up2_ne (by omega)]
              have w117 : (m111 86 4).toInt = (m15 86 4).toInt := by rw [e114, up2_ne (by omega)]
              have w118 : (m111 lb 7).toInt = (m15 lb 7).toInt := by rw [e114, up2_ne (by omega)]
              have w119 : (m111 lb 2).toInt = (m15 lb 2).toInt := by rw [e114, up2_ne (by omega)]
              have kt52 : tC m111 = tC m := tC_fz zR2 K113
              have kp52 : (m111 86 3).toInt = (m15 86 3).toInt + 1 := by omega
              have ks52 : SAML lb m15 m111 := SAML.set zR2 e114
              have kl52 : (m111 lb 2).toInt = (m15 lb 2).toInt := congrArg Int32.toInt ks52.1
              refine pv_aload_n (M := mX7_readSum) 0 dX7_readSum_52 53 rfl rfl rfl ?_
              refine pv_iload_n (M := mX7_readSum) 1 dX7_readSum_53 54 rfl rfl rfl ?_
              have z124 : (1 : Int32).toInt = 1 := by decide
              refine pv_callv (M := mX7_readSum) (as := [.int 1]) (st := []) (kc2 := 0) (ks2 := 0) dX7_readSum_54 wd543 YX7_readTerm ⟨wd545, wd5⟩ (mk_get (tl86 hT)) rfl rfl (s_X7_readTerm_v1z g hT I112 R (by first | omega | assumption | exact (iv_rng _).2 | exact (iv_rng _).1 | decide) (TBC_eq hp1 kt52) (by first | omega | assumption | exact (iv_rng _).2 | exact (iv_rng _).1 | decide)) rfl rfl (Nat.le_of_ble_eq_true rfl) (by decide) rfl rfl 57 rfl (fun rv h1 q125 => ?_)
              obtain ⟨m126, n127, v130, rfl, rfl, I128, K129, pv130, qv130, rv130⟩ := q125
              replace rv130 : (m111 86 3).toInt ≤ (m126 86 3).toInt ∧ (m126 86 3).toInt ≤ (m126 86 2).toInt ∧ (m126 86 2).toInt = (m111 86 2).toInt ∧ ((v130.toInt = 0 ∨ (m111 86 3).toInt + 1 ≤ (m126 86 3).toInt) ∧ TRX (SU (tC m111) 5 (m111 86 3).toInt) (LSu (tC m111) 5) (fun a => isT (tC m111 a) = false) v130.toInt (m126 86 3).toInt (m126 86 4).toInt) ∧ (m126 lb 7).toInt = (m111 lb 7).toInt ∧ IFZ v130.toInt (TMZ (tC m111) 5 lb m111 m126 (m111 86 3).toInt (m126 86 3).toInt) := by have q_ := rv130; (try rw [z124] at q_); exact q_
              have K129c := K129
              have K129 := K113.trans (K129.sub (fun _ _ q => q))
              show PV _ _ _ _ _ _ _ 57 [.ref 86, .int 1, .int y14, .int v107] [.int v130] _
              have k57 := rv130.2.2.2.1.2
              have k57p := rv130.2.2.2.1.1
              rw [kt52, kp52] at k57
              have k57z0 := rv130.2.2.2.2.2
              rw [kt52, kp52] at k57z0
              refine pv_if_ne (M := mX7_readSum) (tgt := 62) dX7_readSum_57 60 rfl (by decide) (fun c136 => ?_) (fun c136 => ?_)
              · have c136 := iv_ne (X := v130.toInt) (Y := 0) c136 rfl (by decide)
                have kT6 := TRX_ok k57 (by omega)
                have k57z := IFZ.get k57z0 (by omega)
                have k57b := TMZ_b k57z
                refine pv_aload_n (M := mX7_readSum) 0 dX7_readSum_62 63 rfl rfl rfl ?_
                refine mv_get (M := mX7_readSum) (v := .ref lb) dX7_readSum_63 FX7 1 wd281 (by decide) (tl86 hT) rfl R.2.2.2.1 66 rfl ?_
                refine pv_iload_n (M := mX7_readSum) 3 dX7_readSum_66 67 rfl rfl rfl ?_
                refine pv_iconst (M := mX7_readSum) (v := 0) dX7_readSum_67 68 rfl (by decide) ?_
                have z140 : (0 : Int32).toInt = 0 := by decide
                refine pv_callv (M := mX7_readSum) (as := [.int v107, .int 0]) (st := []) (kc2 := 0) (ks2 := 0) dX7_readSum_68 wd567 YX6_emit ⟨wd568, wd569⟩ (mk_get R.2.2.2.2.2.2.1) rfl rfl (s_X6_emit_vz g hT I128 lb R.2.2.2.2.2 v107 0 (by decide) (by decide)) rfl rfl (Nat.le_of_ble_eq_true rfl) (by decide) rfl rfl 71 rfl (fun rv h1 q141 => ?_)
                obtain ⟨m142, n143, rfl, rfl, I144, K145, rm142⟩ := q141
                replace rm142 : (m142 lb 7).toInt = (m126 lb 7).toInt ∧ ((m126 lb 2).toInt < 160 → EMT lb m126 m142 v107.toInt (0 : Int32)) := by have q_ := rm142; (try rw [z140] at q_); exact q_
                have K145c := K145
                have w146 : (m142 86 3).toInt = (m126 86 3).toInt := congrArg Int32.toInt (K145 86 3 (wY_out (by omega) (by omega) (by omega)))
                have w147 : (m142 86 2).toInt = (m126 86 2).toInt := congrArg Int32.toInt (K145 86 2 (wY_out (by omega) (by omega) (by omega)))
                have w148 : (m142 86 4).toInt = (m126 86 4).toInt := congrArg Int32.toInt (K145 86 4 (wY_out (by omega) (by omega) (by omega)))
                have K145 := K129.trans (K145.sub (by first | exact wZ_wY | exact wZ_86))
                show PV _ _ _ _ _ _ _ 71 [.ref 86, .int 1, .int y14, .int v107] [] _
                have k71 := rm142.2 (by omega)
                refine iv_inc (M := mX7_readSum) (C := 1) dX7_readSum_71 74 rfl rfl (by decide) rfl rfl (by decide) (by omega) (by omega) (fun v150 ev150 => ?_)
                show PV _ _ _ _ _ _ _ 74 [.ref 86, .int 1, .int v150, .int v107] [] _
                refine pv_goto (M := mX7_readSum) (tgt := 12) dX7_readSum_74 (by decide) ?_
                refine pv_fg (lo2 := [.ref 86, .int 1, .int v150, pv_U]) ⟨Or.inr rfl, ⟨Or.inr rfl, ⟨Or.inr rfl, ⟨Or.inl rfl, trivial⟩⟩⟩⟩ ?_
                have kb3 : (m142 86 3).toInt = (m126 86 3).toInt := by omega
                have kbs : SU (tC m) 5 (m 86 3).toInt = LSu (tC m) 5 (m142 86 3).toInt := by rw [kgs, LSu_su kTX (by omega) kS, kT6.1]; congr 1; omega
                have kbt : isT (tC m (m142 86 3).toInt) = false := by rw [kb3]; exact kT6.2
                have kbz : SMZ (tC m) 5 lb m m142 (m 86 3).toInt (m142 86 3).toInt := by rw [kb3]; exact SMZ_s kgz kTX (by omega) kS kgt ks52 k57z k71 (by omega) (by unfold isO; omega) kT6.2
                exact ih21 v150 m142 n143 (by first | omega | assumption | exact (iv_rng _).2 | exact (iv_rng _).1 | decide) (by first | omega | assumption | exact (iv_rng _).2 | exact (iv_rng _).1 | decide) (by first | omega | assumption | (show (m142 86 3).toInt ≤ (m142 86 2).toInt; omega) | decide) (by first | omega | assumption | (show (m142 86 2).toInt = (m 86 2).toInt; omega) | decide) (by first | omega | assumption | (show (m142 lb 7).toInt = (m lb 7).toInt; omega) | decide) (by first | omega | assumption | (show (m 86 3).toInt + 1 + 2 * v150.toInt ≤ (m142 86 3).toInt; omega) | decide) kbs kbt kbz I144 K145 (by omega)
              · have c136 := iv_eq (X := v130.toInt) (Y := 0) c136 rfl (by decide)
                refine pv_iconst (M := mX7_readSum) (v := 0) dX7_readSum_60 61 rfl (by decide) ?_
                have z155 : (0 : Int32).toInt = 0 := by decide
                exact pv_iret (M := mX7_readSum) dX7_readSum_61 rfl rfl ⟨_, _, _, rfl, rfl, I128, K129, by decide, by decide, ⟨by omega, by omega, by omega, Or.inr ⟨by decide, by rw [kgs, LSu_su kTX (by omega) kS]; exact TRX_fl k57 (by omega)⟩, by omega, IFZ.no (by first | decide | omega)⟩⟩
    have z156 : (0 : Int32).toInt = 0 := by decide
    exact lp20 (((160 - 0) : Int).toNat + 1) 0 m4 n5 (by first | omega | assumption | exact (iv_rng _).2 | exact (iv_rng _).1 | decide) (by first | omega | assumption | exact (iv_rng _).2 | exact (iv_rng _).1 | decide) (by first | omega | assumption | (show (m4 86 3).toInt ≤ (m4 86 2).toInt; omega) | decide) (by first | omega | assumption | (show (m4 86 2).toInt = (m 86 2).toInt; omega) | decide) (by first | omega | assumption | (show (m4 lb 7).toInt = (m lb 7).toInt; omega) | decide) (by first | omega | assumption | (show (m 86 3).toInt + 1 + 2 * 0 ≤ (m4 86 3).toInt; omega) | decide) (TRX_ok k5 (by omega)).1 (TRX_ok k5 (by omega)).2 (SMZ_0 k5z) I6 K7 (by omega)
  · have c12 := iv_eq (X := v8.toInt) (Y := 0) c12 rfl (by decide)
    refine pv_iconst (M := mX7_readSum) (v := 0) dX7_readSum_8 9 rfl (by decide) ?_
    have z157 : (0 : Int32).toInt = 0 := by decide
    exact pv_iret (M := mX7_readSum) dX7_readSum_9 rfl rfl ⟨_, _, _, rfl, rfl, I6, K7, by decide, by decide, ⟨by omega, by omega, by omega, Or.inr ⟨by decide, TRX_fl k5 (by omega)⟩, by omega, IFZ.no (by first | decide | omega)⟩⟩

set_option maxHeartbeats 2000000 in
set_option maxRecDepth 20000 in
theorem s_X7_readFactor_v0z (g : pv_G) {T : List mv_T} {m : Nat → Nat → Int32} {n : Nat → Nat → Int64} {r : Nat → Value} {la lb : Nat} (hT : TX T) (I : IV BB m) (R : RX T r la lb) (hp0 : (m 86 3).toInt ≤ (m 86 2).toInt) (hp1 : TBC m) (hp2 : (m lb 2).toInt ≤ (m 86 3).toInt) : PM g mX7_readFactor yX7_readFactor (sqI T BB (wZ lb) r m 0 1 (fun m' v => (m 86 3).toInt ≤ (m' 86 3).toInt ∧ (m' 86 3).toInt ≤ (m' 86 2).toInt ∧ (m' 86 2).toInt = (m 86 2).toInt ∧ (RSX (FA (tC m) 6 (m 86 3).toInt) v.toInt (m' 86 3).toInt (m' 86 4).toInt) ∧ (m' lb 7).toInt = (m lb 7).toInt ∧ IFZ v.toInt (CDS lb m m' 13 (FAD (tC m) 6 (m 86 3).toInt) ((m' 86 3).toInt - (m 86 3).toInt)))) 23 0 0 [.ref 86, .int 0] (mk T m n r) := by
  have Kp : fr (wZ lb) m m := fr.rf
  have R0 := R
  have zR := R.2.2.2.2.1.1
  have zR2 := R.2.2.2.2.2.1
  have z124 : 0 ≤ (m 86 3).toInt ∧ (m 86 3).toInt ≤ 160 := I 86 3
  have z125 : 0 ≤ (m 86 2).toInt ∧ (m 86 2).toInt ≤ 160 := I 86 2
  refine PM.of 1 (lo := [.ref 86, .int 0, pv_U]) rfl (by decide) rfl rfl (Nat.le_of_ble_eq_true rfl) ?_
  refine pv_aload_n (M := mX7_readFactor) 0 dX7_readFactor_0 1 rfl rfl rfl ?_
  refine pv_callv (M := mX7_readFactor) (as := []) (st := []) (kc2 := 0) (ks2 := 0) dX7_readFactor_1 wd527 YX7_peek ⟨wd529, wd2⟩ (mk_get (tl86 hT)) rfl rfl (s_X7_peek_vx g hT I R) rfl rfl (Nat.le_of_ble_eq_true rfl) (by decide) rfl rfl 4 rfl (fun rv h1 q1 => ?_)
  obtain ⟨v2, rfl, rfl, pv2, qv2, rv2⟩ := q1
  replace rv2 : v2.toInt = tC m (m 86 3).toInt ∧ (v2.toInt = -1 ∨ (m 86 3).toInt < (m 86 2).toInt) := rv2
  show PV _ _ _ _ _ _ _ 4 [.ref 86, .int 0, pv_U] [.int v2] _
  have k4 := rv2.1
  have k4b := rv2.2
  refine pv_bipush (M := mX7_readFactor) (v := 91) dX7_readFactor_4 6 rfl (by decide) ?_
  refine pv_icmp_ne (M := mX7_readFactor) (tgt := 42) dX7_readFactor_6 9 rfl (by decide) (fun c5 => ?_) (fun c5 => ?_)
  · have c5 := iv_ne (X := v2.toInt) (Y := 91) c5 rfl (by decide)
    have kn91 : tC m (m 86 3).toInt ≠ 91 := by omega
    refine pv_aload_n (M := mX7_readFactor) 0 dX7_readFactor_42 43 rfl rfl rfl ?_
    refine pv_callv (M := mX7_readFactor) (as := []) (st := []) (kc2 := 0) (ks2 := 0) dX7_readFactor_43 wd559 YX7_digitAhead ⟨wd561, wd9⟩ (mk_get (tl86 hT)) rfl rfl (s_X7_digitAhead_vx g hT I R) rfl rfl (Nat.le_of_ble_eq_true rfl) (by decide) rfl rfl 46 rfl (fun rv h1 q7 => ?_)
    obtain ⟨v8, rfl, rfl, pv8, qv8, rv8⟩ := q7
    replace rv8 : (v8 = 0 ∨ ((m 86 3).toInt < (m 86 2).toInt ∧ 48 ≤ (m 87 (m 86 3).toInt.toNat).toInt ∧ (m 87 (m 86 3).toInt.toNat).toInt ≤ 57)) ∧ ((v8.toInt = 1 ∧ dig (tC m (m 86 3).toInt) = true) ∨ (v8.toInt = 0 ∧ dig (tC m (m 86 3).toInt) = false)) := rv8
    show PV _ _ _ _ _ _ _ 46 [.ref 86, .int 0, pv_U] [.int v8] _
    have k46 := rv8.2
    refine pv_if_eq (M := mX7_readFactor) (tgt := 54) dX7_readFactor_46 49 rfl (by decide) (fun c10 => ?_) (fun c10 => ?_)
    · have c10 := iv_eq (X := v8.toInt) (Y := 0) c10 rfl (by decide)
      have kdn := (k46.resolve_left (fun q => by have q1 := q.1; omega)).2
      refine pv_aload_n (M := mX7_readFactor) 0 dX7_readFactor_54 55 rfl rfl rfl ?_
      refine pv_callv (M := mX7_readFactor) (as := []) (st := []) (kc2 := 0) (ks2 := 0) dX7_readFactor_55 wd527 YX7_peek ⟨wd529, wd2⟩ (mk_get (tl86 hT)) rfl rfl (s_X7_peek_vx g hT I R) rfl rfl (Nat.le_of_ble_eq_true rfl) (by decide) rfl rfl 58 rfl (fun rv h1 q12 => ?_)
      obtain ⟨v13, rfl, rfl, pv13, qv13, rv13⟩ := q12
      replace rv13 : v13.toInt = tC m (m 86 3).toInt ∧ (v13.toInt = -1 ∨ (m 86 3).toInt < (m 86 2).toInt) := rv13
      show PV _ _ _ _ _ _ _ 58 [.ref 86, .int 0, pv_U] [.int v13] _
      have k58 := rv13.1
      refine pv_iconst (M := mX7_readFactor) (v := (-1)) dX7_readFactor_58 59 rfl (by decide) ?_
      refine pv_icmp_ne (M := mX7_readFactor) (tgt := 66) dX7_readFactor_59 62 rfl (by decide) (fun c15 => ?_) (fun c15 => ?_)
      · have c15 := iv_ne (X := v13.toInt) (Y := (-1)) c15 rfl (by decide)
        refine pv_ldcS (M := mX7_readFactor) dX7_readFactor_66 rfl 68 rfl ?_
        refine pv_aload_n (M := mX7_readFactor) 0 dX7_readFactor_68 69 rfl rfl rfl ?_
        refine pv_callv (M := mX7_readFactor) (as := []) (st := [.retAddr (g.2.2.1 6 + 1)]) (kc2 := 0) (ks2 := 0) dX7_readFactor_69 wd527 YX7_peek ⟨wd529, wd2⟩ (mk_get (tl86 hT)) rfl rfl (s_X7_peek_vx g hT I R) rfl rfl (Nat.le_of_ble_eq_true rfl) (by decide) rfl rfl 72 rfl (fun rv h1 q16 => ?_)
        obtain ⟨v17, rfl, rfl, pv17, qv17, rv17⟩ := q16
        replace rv17 : v17.toInt = tC m (m 86 3).toInt ∧ (v17.toInt = -1 ∨ (m 86 3).toInt < (m 86 2).toInt) := rv17
        show PV _ _ _ _ _ _ _ 72 [.ref 86, .int 0, pv_U] [.int v17, .retAddr (g.2.2.1 6 + 1)] _
        have k72 := rv17.1
        have kb72 := hp1 (m 86 3).toInt
        refine iv_i2cU (M := mX7_readFactor) dX7_readFactor_72 73 rfl (fun v20 ev20 => ?_)
        have k73 := i2c_eq ev20 (by omega) (by omega)
        refine pv_callvS (M := mX7_readFactor) (as := [.int v20]) (st := []) (kc2 := 0) (ks2 := 0) dX7_readFactor_73 wd572 YJ0_indexOf_0f7a4 ⟨wd573, wd574⟩ rfl (s_J0_indexOf_0f7a4_vx g hT I v20 (by omega) (by omega)) rfl rfl (Nat.le_of_ble_eq_true rfl) (by decide) rfl rfl 76 rfl (fun rv h1 q22 => ?_)
        obtain ⟨v23, rfl, rfl, pv23, qv23, rv23⟩ := q22
        replace rv23 : v23.toInt = nix v20.toInt := rv23
        show PV _ _ _ _ _ _ _ 76 [.ref 86, .int 0, pv_U] [.int v23] _
        have k76 : v23.toInt = nix (tC m (m 86 3).toInt) := by first | (rw [show tC m (m 86 3).toInt = -1 by omega]; decide) | (rw [rv23, k73, k72])
        refine pv_istore_n (M := mX7_readFactor) 2 (lo2 := [.ref 86, .int 0, .int v23]) dX7_readFactor_76 77 rfl rfl (by decide) rfl rfl ?_
        refine pv_iload_n (M := mX7_readFactor) 2 dX7_readFactor_77 78 rfl rfl rfl ?_
        refine pv_if_ge (M := mX7_readFactor) (tgt := 87) dX7_readFactor_78 81 rfl (by decide) (fun c25 => ?_) (fun c25 => ?_)
        · have c25 := iv_le (X := 0) (Y := v23.toInt) c25 (by decide) rfl
          have k87 : (m 86 3).toInt < (m 86 2).toInt := by have := nix_b (x := tC m (m 86 3).toInt) (by omega); omega
          refine pv_aload_n (M := mX7_readFactor) 0 dX7_readFactor_87 88 rfl rfl rfl ?_
          refine mv_get (M := mX7_readFactor) (v := .ref lb) dX7_readFactor_88 FX7 1 wd281 (by decide) (tl86 hT) rfl R.2.2.2.1 91 rfl ?_
          refine pv_bipush (M := mX7_readFactor) (v := 36) dX7_readFactor_91 93 rfl (by decide) ?_
          refine pv_iload_n (M := mX7_readFactor) 2 dX7_readFactor_93 94 rfl rfl rfl ?_
          have z27 : (36 : Int32).toInt = 36 := by decide
          refine pv_callv (M := mX7_readFactor) (as := [.int 36, .int v23]) (st := []) (kc2 := 0) (ks2 := 0) dX7_readFactor_94 wd567 YX6_emit ⟨wd568, wd569⟩ (mk_get R.2.2.2.2.2.2.1) rfl rfl (s_X6_emit_vz g hT I lb R.2.2.2.2.2 36 v23 (by omega) (by omega)) rfl rfl (Nat.le_of_ble_eq_true rfl) (by decide) rfl rfl 97 rfl (fun rv h1 q28 => ?_)
          obtain ⟨m29, n30, rfl, rfl, I31, K32, rm29⟩ := q28
          replace rm29 : (m29 lb 7).toInt = (m lb 7).toInt ∧ ((m lb 2).toInt < 160 → EMT lb m m29 (36 : Int) v23) := by have q_ := rm29; (try rw [z27] at q_); exact q_
          have K32c := K32
          have w33 : (m29 86 3).toInt = (m 86 3).toInt := congrArg Int32.toInt (K32 86 3 (wY_out (by omega) (by omega) (by omega)))
          have w34 : (m29 86 2).toInt = (m 86 2).toInt := congrArg Int32.toInt (K32 86 2 (wY_out (by omega) (by omega) (by omega)))
          have w35 : (m29 86 4).toInt = (m 86 4).toInt := congrArg Int32.toInt (K32 86 4 (wY_out (by omega) (by omega) (by omega)))
          have K32 := Kp.trans (K32.sub (by first | exact wZ_wY | exact wZ_86))
          show PV _ _ _ _ _ _ _ 97 [.ref 86, .int 0, .int v23] [] _
          have klB := I lb 2
          rw [law_b2 R.2.2.2.2.2] at klB
          have klb0 : 0 ≤ (m lb 2).toInt := klB.1
          have k97 := rm29.2 (by omega)
          refine pv_aload_n (M := mX7_readFactor) 0 dX7_readFactor_97 98 rfl rfl rfl ?_
          refine pv_dup (M := mX7_readFactor) dX7_readFactor_98 99 rfl rfl ?_
          refine iv_get (M := mX7_readFactor) (l1 := 0) (l2 := 160) dX7_readFactor_99 FX7 3 wd283 (by decide) (tl86 hT) rfl I31 rfl 102 rfl (fun v40 ev40 pv40 qv40 => ?_)
          have wv40 : v40.toInt = (m29 86 3).toInt := congrArg Int32.toInt ev40
          refine pv_iconst (M := mX7_readFactor) (v := 1) dX7_readFactor_102 103 rfl (by decide) ?_
          refine iv_iadd (M := mX7_readFactor) (X := v40.toInt) (Y := 1) dX7_readFactor_103 104 rfl rfl (by decide) (by omega) (by omega) (fun v41 ev41 => ?_)
          refine iv_put (M := mX7_readFactor) (l1 := 0) (l2 := 160) dX7_readFactor_104 FX7 3 wd283 (by decide) rfl (tl86 hT) rfl rfl rfl I31 rfl (by omega) (by omega) 107 rfl (fun m42 e45 I43 => ?_)
          have K44 := K32.set e45 (by first | rfl | decide)
          have w46 : (m42 86 3).toInt = v41.toInt := by rw [e45, up2_eq]
          have w47 : (m42 86 2).toInt = (m29 86 2).toInt := by rw [e45, up2_ne (by omega)]
          have w48 : (m42 86 4).toInt = (m29 86 4).toInt := by rw [e45, up2_ne (by omega)]
          have w49 : (m42 lb 7).toInt = (m29 lb 7).toInt := by rw [e45, up2_ne (by omega)]
          have w50 : (m42 lb 2).toInt = (m29 lb 2).toInt := by rw [e45, up2_ne (by omega)]
          refine pv_iconst (M := mX7_readFactor) (v := 1) dX7_readFactor_107 108 rfl (by decide) ?_
          have z51 : (1 : Int32).toInt = 1 := by decide
          exact pv_iret (M := mX7_readFactor) dX7_readFactor_108 rfl rfl ⟨_, _, _, rfl, rfl, I43, K44, by decide, by decide, ⟨by omega, by omega, by omega, Or.inl ⟨by decide, by rw [FA_atom kn91, AT_nam kdn (nix_y (by omega)), show (m 86 3).toInt + 1 = (m42 86 3).toInt by omega]⟩, by omega, IFZ.is (by rw [FAD_at kn91, atD_nam kdn]; exact CDS.wk (CDS.post (CDS.nam (by omega) k97 (da := 1) (by omega) (by omega)) (SAML.set zR2 e45)) (by omega) (by omega))⟩⟩
        · have c25 := iv_nle (X := 0) (Y := v23.toInt) c25 (by decide) rfl
          refine pv_aload_n (M := mX7_readFactor) 0 dX7_readFactor_81 82 rfl rfl rfl ?_
          refine pv_iconst (M := mX7_readFactor) (v := 1) dX7_readFactor_82 83 rfl (by decide) ?_
          have z52 : (1 : Int32).toInt = 1 := by decide
          refine pv_callv (M := mX7_readFactor) (as := [.int 1]) (st := []) (kc2 := 0) (ks2 := 0) dX7_readFactor_83 wd531 YX7_fail ⟨wd533, wd3⟩ (mk_get (tl86 hT)) rfl rfl (s_X7_fail_vz g hT I R 1 (by decide) (by decide) (by first | omega | assumption | exact (iv_rng _).2 | exact (iv_rng _).1 | decide)) rfl rfl (Nat.le_of_ble_eq_true rfl) (by decide) rfl rfl 86 rfl (fun rv h1 q53 => ?_)
          obtain ⟨m54, n55, v58, rfl, rfl, I56, K57, pv58, qv58, rv58⟩ := q53
          replace rv58 : (m 86 3).toInt ≤ (m54 86 3).toInt ∧ (m54 86 3).toInt ≤ (m54 86 2).toInt ∧ (m54 86 2).toInt = (m 86 2).toInt ∧ (v58.toInt = 0 ∧ (m54 86 3).toInt = (m 86 3).toInt ∧ (m54 86 4).toInt = -1000 * (1 : Int) - (m 86 3).toInt) ∧ (m54 lb 7).toInt = (m lb 7).toInt := by have q_ := rv58; (try rw [z52] at q_); exact q_
          have K57c := K57
          have w59 : (m54 86 2).toInt = (m 86 2).toInt := congrArg Int32.toInt (K57 86 2 rfl)
          have K57 := Kp.trans (K57.sub (by first | exact wZ_wY | exact wZ_86))
          show PV _ _ _ _ _ _ _ 86 [.ref 86, .int 0, .int v23] [.int v58] _
          exact pv_iret (M := mX7_readFactor) dX7_readFactor_86 rfl (iv_nz (by omega) (by omega)) ⟨_, _, _, rfl, rfl, I56, K57, by omega, by omega, ⟨by omega, by omega, by omega, Or.inr ⟨by omega, FLT_of (a := 1) (p := (m 86 3).toInt) (by rw [FA_atom kn91]; exact AT_no kdn (nix_no (by omega))) (by decide) (by omega)⟩, by omega, IFZ.no (by first | decide | omega)⟩⟩
      · have c15 := iv_eq (X := v13.toInt) (Y := (-1)) c15 rfl (by decide)
        refine pv_iconst (M := mX7_readFactor) (v := (-1)) dX7_readFactor_62 63 rfl (by decide) ?_
        refine pv_goto (M := mX7_readFactor) (tgt := 76) dX7_readFactor_63 (by decide) ?_
        have k76 : (-1) = nix (tC m (m 86 3).toInt) := by first | (rw [show tC m (m 86 3).toInt = -1 by omega]; decide) | (rw [rlit, k73, k72])
        refine pv_istore_n (M := mX7_readFactor) 2 (lo2 := [.ref 86, .int 0, .int (-1)]) dX7_readFactor_76 77 rfl rfl (by decide) rfl rfl ?_
        refine pv_iload_n (M := mX7_readFactor) 2 dX7_readFactor_77 78 rfl rfl rfl ?_
        refine pv_if_ge (M := mX7_readFactor) (tgt := 87) dX7_readFactor_78 81 rfl (by decide) (fun q => absurd q (by decide)) (fun _ => ?_)
        refine pv_aload_n (M := mX7_readFactor) 0 dX7_readFactor_81 82 rfl rfl rfl ?_
        refine pv_iconst (M := mX7_readFactor) (v := 1) dX7_readFactor_82 83 rfl (by decide) ?_
        have z62 : (1 : Int32).toInt = 1 := by decide
        refine pv_callv (M := mX7_readFactor) (as := [.int 1]) (st := []) (kc2 := 0) (ks2 := 0) dX7_readFactor_83 wd531 YX7_fail ⟨wd533, wd3⟩ (mk_get (tl86 hT)) rfl rfl (s_X7_fail_vz g hT I R 1 (by decide) (by decide) (by first | omega | assumption | exact (iv_rng _).2 | exact (iv_rng _).1 | decide)) rfl rfl (Nat.le_of_ble_eq_true rfl) (by decide) rfl rfl 86 rfl (fun rv h1 q63 => ?_)
        obtain ⟨m64, n65, v68, rfl, rfl, I66, K67, pv68, qv68, rv68⟩ := q63
        replace rv68 : (m 86 3).toInt ≤ (m64 86 3).toInt ∧ (m64 86 3).toInt ≤ (m64 86 2).toInt ∧ (m64 86 2).toInt = (m 86 2).toInt ∧ (v68.toInt = 0 ∧ (m64 86 3).toInt = (m 86 3).toInt ∧ (m64 86 4).toInt = -1000 * (1 : Int) - (m 86 3).toInt) ∧ (m64 lb 7).toInt = (m lb 7).toInt := by have q_ := rv68; (try rw [z62] at q_); exact q_
        have K67c := K67
        have w69 : (m64 86 2).toInt = (m 86 2).toInt := congrArg Int32.toInt (K67 86 2 rfl)
        have K67 := Kp.trans (K67.sub (by first | exact wZ_wY | exact wZ_86))
        show PV _ _ _ _ _ _ _ 86 [.ref 86, .int 0, .int (-1)] [.int v68] _
        exact pv_iret (M := mX7_readFactor) dX7_readFactor_86 rfl (iv_nz (by omega) (by omega)) ⟨_, _, _, rfl, rfl, I66, K67, by omega, by omega, ⟨by omega, by omega, by omega, Or.inr ⟨by omega, FLT_of (a := 1) (p := (m 86 3).toInt) (by rw [FA_atom kn91]; exact AT_no kdn (nix_no (by omega))) (by decide) (by omega)⟩, by omega, IFZ.no (by first | decide | omega)⟩⟩
    · have pc10 := rv8.1.resolve_left c10
      have c10 := iv_ne (X := v8.toInt) (Y := 0) c10 rfl (by decide)
      have kd := (k46.resolve_right (fun q => by have q1 := q.1; omega)).2
      refine pv_aload_n (M := mX7_readFactor) 0 dX7_readFactor_49 50 rfl rfl rfl ?_
      refine pv_callv (M := mX7_readFactor) (as := []) (st := []) (kc2 := 0) (ks2 := 0) dX7_readFactor_50 wd563 YX7_readNumber ⟨wd565, wd10⟩ (mk_get (tl86 hT)) rfl rfl (s_X7_readNumber_vz g hT I R (by first | omega | assumption | exact (iv_rng _).2 | exact (iv_rng _).1 | decide) (by first | omega | assumption | exact (iv_rng _).2 | exact (iv_rng _).1 | decide)) rfl rfl (Nat.le_of_ble_eq_true rfl) (by decide) rfl rfl 53 rfl (fun rv h1 q71 => ?_)
      obtain ⟨m72, n73, v76, rfl, rfl, I74, K75, pv76, qv76, rv76⟩ := q71
      replace rv76 : (m 86 3).toInt ≤ (m72 86 3).toInt ∧ (m72 86 3).toInt ≤ (m72 86 2).toInt ∧ (m72 86 2).toInt = (m 86 2).toInt ∧ (RSX (nd (tC m) 5 (m 86 3).toInt) v76.toInt (m72 86 3).toInt (m72 86 4).toInt) ∧ (m72 lb 7).toInt = (m lb 7).toInt ∧ IFZ v76.toInt (CDS lb m m72 1 (cD (Int32.ofInt (ndv (tC m) 5 (m 86 3).toInt 0))) 1) := rv76
      have K75c := K75
      have K75 := Kp.trans (K75.sub (fun _ _ q => q))
      show PV _ _ _ _ _ _ _ 53 [.ref 86, .int 0, pv_U] [.int v76] _
      have k53 := rv76.2.2.2.1
      have k53z := rv76.2.2.2.2.2
      exact pv_iret (M := mX7_readFactor) dX7_readFactor_53 rfl (iv_nz (by omega) (by omega)) ⟨_, _, _, rfl, rfl, I74, K75, by omega, by omega, ⟨by omega, by omega, by omega, (by rw [FA_atom kn91, AT_num kd]; exact k53), by omega, (fun q => by have k1 := RSX_ok k53 q; have k2 := atom_le (t := tC m) (p := (m 86 3).toInt) (by rw [AT_num kd, k1]); rw [AT_num kd, k1] at k2; have k3 : (m 86 3).toInt + 1 ≤ (m72 86 3).toInt := k2; rw [FAD_at kn91, atD_num kd]; exact CDS.wk (IFZ.get k53z q) (by omega) (by omega))⟩⟩
  · have c5 := iv_eq (X := v2.toInt) (Y := 91) c5 rfl (by decide)
    have k91 : tC m (m 86 3).toInt = 91 := by omega
    refine pv_aload_n (M := mX7_readFactor) 0 dX7_readFactor_9 10 rfl rfl rfl ?_
    refine pv_iload_n (M := mX7_readFactor) 1 dX7_readFactor_10 11 rfl rfl rfl ?_
    have z80 : (0 : Int32).toInt = 0 := by decide
    refine pv_callv (M := mX7_readFactor) (as := [.int 0]) (st := []) (kc2 := 0) (ks2 := 0) dX7_readFactor_11 wd551 YX7_open ⟨wd553, wd7⟩ (mk_get (tl86 hT)) rfl rfl (s_X7_open_vz g hT I R 0 (by decide) (by decide) (by first | omega | assumption | exact (iv_rng _).2 | exact (iv_rng _).1 | decide)) rfl rfl (Nat.le_of_ble_eq_true rfl) (by decide) rfl rfl 14 rfl (fun rv h1 q81 => ?_)
    obtain ⟨m82, n83, v86, rfl, rfl, I84, K85, pv86, qv86, rv86⟩ := q81
    replace rv86 : (v86 = 0 ∨ (0 : Int) ≤ 5) ∧ (m 86 3).toInt ≤ (m82 86 3).toInt ∧ (m82 86 3).toInt ≤ (m82 86 2).toInt ∧ (m82 86 2).toInt = (m 86 2).toInt ∧ ((v86.toInt = 1 ∧ (0 : Int) ≤ 5 ∧ (m82 86 3).toInt = (m 86 3).toInt + 1) ∨ (v86.toInt = 0 ∧ 6 ≤ (0 : Int) ∧ (m82 86 4).toInt = -5000 - (m 86 3).toInt ∧ (m82 86 3).toInt = (m 86 3).toInt)) ∧ (m82 lb 7).toInt = (m lb 7).toInt := by have q_ := rv86; (try rw [z80] at q_); exact q_
    have K85c := K85
    have w87 : (m82 86 2).toInt = (m 86 2).toInt := congrArg Int32.toInt (K85 86 2 rfl)
    have K85 := Kp.trans (K85.sub (by first | exact wZ_wY | exact wZ_86))
    show PV _ _ _ _ _ _ _ 14 [.ref 86, .int 0, pv_U] [.int v86] _
    refine pv_if_eq (M := mX7_readFactor) (tgt := 40) dX7_readFactor_14 17 rfl (by decide) (fun c88 => ?_) (fun c88 => ?_)
    · have c88 := iv_eq (X := v86.toInt) (Y := 0) c88 rfl (by decide)
      refine pv_iconst (M := mX7_readFactor) (v := 0) dX7_readFactor_40 41 rfl (by decide) ?_
      have z89 : (0 : Int32).toInt = 0 := by decide
      exact pv_iret (M := mX7_readFactor) dX7_readFactor_41 rfl rfl ⟨_, _, _, rfl, rfl, I84, K85, by decide, by decide, ⟨by omega, by omega, by omega, (by first | exact Or.inr ⟨by decide, FX_deep k91 (by omega)⟩ | exact Or.inr ⟨by decide, FX_cn k91 k27 (fun z => by omega) (by omega)⟩ | exact Or.inl ⟨by decide, FX_co k91 k27 (by omega) (by omega)⟩ | exact Or.inr ⟨by decide, FX_sum k91 (RSX_fl k24 (by omega))⟩ | (exfalso; omega)), by omega, (by first | exact IFZ.is (by rw [FAD_opn k91]; exact CDS.wk (CDS.post (CDS.pre ks17 (IFZ.get k24z (by omega)) (Int.le_refl _)) ks33) (by omega) (by omega)) | exact IFZ.no (by first | decide | omega))⟩⟩
    · have pc88 := rv86.1.resolve_left c88
      have c88 := iv_ne (X := v86.toInt) (Y := 0) c88 rfl (by decide)
      have kt17 : tC m82 = tC m := tC_fz zR2 K85
      have kp17 : (m82 86 3).toInt = (m 86 3).toInt + 1 := by omega
      have ks17 : SAML lb m m82 := SAML.fz zR2 K85c
      have kl17 : (m82 lb 2).toInt = (m lb 2).toInt := congrArg Int32.toInt ks17.1
      refine pv_aload_n (M := mX7_readFactor) 0 dX7_readFactor_17 18 rfl rfl rfl ?_
      refine pv_iload_n (M := mX7_readFactor) 1 dX7_readFactor_18 19 rfl rfl rfl ?_
      refine pv_iconst (M := mX7_readFactor) (v := 1) dX7_readFactor_19 20 rfl (by decide) ?_
      refine pv_iadd (M := mX7_readFactor) (v := 1) dX7_readFactor_20 21 rfl (by decide) ?_
      have z95 : (1 : Int32).toInt = 1 := by decide
      refine pv_callv (M := mX7_readFactor) (as := [.int 1]) (st := []) (kc2 := 0) (ks2 := 0) dX7_readFactor_21 wd539 YX7_readSum ⟨wd541, wd4⟩ (mk_get (tl86 hT)) rfl rfl (s_X7_readSum_v1z g hT I84 R (by first | omega | assumption | exact (iv_rng _).2 | exact (iv_rng _).1 | decide) (TBC_eq hp1 kt17) (by first | omega | assumption | exact (iv_rng _).2 | exact (iv_rng _).1 | decide)) rfl rfl (Nat.le_of_ble_eq_true rfl) (by decide) rfl rfl 24 rfl (fun rv h1 q96 => ?_)
      obtain ⟨m97, n98, v101, rfl, rfl, I99, K100, pv101, qv101, rv101⟩ := q96
      replace rv101 : (m82 86 3).toInt ≤ (m97 86 3).toInt ∧ (m97 86 3).toInt ≤ (m97 86 2).toInt ∧ (m97 86 2).toInt = (m82 86 2).toInt ∧ (RSX (SU (tC m82) 5 (m82 86 3).toInt) v101.toInt (m97 86 3).toInt (m97 86 4).toInt) ∧ (m97 lb 7).toInt = (m82 lb 7).toInt ∧ IFZ v101.toInt (CDS lb m82 m97 13 (SUD (tC m82) 5 (m82 86 3).toInt) ((m97 86 3).toInt - (m82 86 3).toInt)) := by have q_ := rv101; (try rw [z95] at q_); exact q_
      have K100c := K100
      have K100 := K85.trans (K100.sub (fun _ _ q => q))
      show PV _ _ _ _ _ _ _ 24 [.ref 86, .int 0, pv_U] [.int v101] _
      have k24 := rv101.2.2.2.1
      rw [kt17, kp17] at k24
      have k24z := rv101.2.2.2.2.2
      rw [kt17, kp17] at k24z
      refine pv_if_eq (M := mX7_readFactor) (tgt := 40) dX7_readFactor_24 27 rfl (by decide) (fun c106 => ?_) (fun c106 => ?_)
      · have c106 := iv_eq (X := v101.toInt) (Y := 0) c106 rfl (by decide)
        refine pv_iconst (M := mX7_readFactor) (v := 0) dX7_readFactor_40 41 rfl (by decide) ?_
        have z107 : (0 : Int32).toInt = 0 := by decide
        exact pv_iret (M := mX7_readFactor) dX7_readFactor_41 rfl rfl ⟨_, _, _, rfl, rfl, I99, K100, by decide, by decide, ⟨by omega, by omega, by omega, (by first | exact Or.inr ⟨by decide, FX_deep k91 (by omega)⟩ | exact Or.inr ⟨by decide, FX_cn k91 k27 (fun z => by omega) (by omega)⟩ | exact Or.inl ⟨by decide, FX_co k91 k27 (by omega) (by omega)⟩ | exact Or.inr ⟨by decide, FX_sum k91 (RSX_fl k24 (by omega))⟩ | (exfalso; omega)), by omega, (by first | exact IFZ.is (by rw [FAD_opn k91]; exact CDS.wk (CDS.post (CDS.pre ks17 (IFZ.get k24z (by omega)) (Int.le_refl _)) ks33) (by omega) (by omega)) | exact IFZ.no (by first | decide | omega))⟩⟩
      · have c106 := iv_ne (X := v101.toInt) (Y := 0) c106 rfl (by decide)
        have k27 := RSX_ok k24 (by omega)
        have kt27 : tC m97 = tC m := tC_fz zR2 K100
        refine pv_aload_n (M := mX7_readFactor) 0 dX7_readFactor_27 28 rfl rfl rfl ?_
        refine pv_bipush (M := mX7_readFactor) (v := 93) dX7_readFactor_28 30 rfl (by decide) ?_
        have z110 : (93 : Int32).toInt = 93 := by decide
        refine pv_callv (M := mX7_readFactor) (as := [.int 93]) (st := []) (kc2 := 0) (ks2 := 0) dX7_readFactor_30 wd555 YX7_pass ⟨wd557, wd8⟩ (mk_get (tl86 hT)) rfl rfl (s_X7_pass_vz g hT I99 R 93 (by decide) (by decide) (by first | omega | assumption | exact (iv_rng _).2 | exact (iv_rng _).1 | decide)) rfl rfl (Nat.le_of_ble_eq_true rfl) (by decide) rfl rfl 33 rfl (fun rv h1 q111 => ?_)
        obtain ⟨m112, n113, v116, rfl, rfl, I114, K115, pv116, qv116, rv116⟩ := q111
        replace rv116 : (m97 86 3).toInt ≤ (m112 86 3).toInt ∧ (m112 86 3).toInt ≤ (m112 86 2).toInt ∧ (m112 86 2).toInt = (m97 86 2).toInt ∧ ((v116.toInt = 1 ∧ tC m97 (m97 86 3).toInt = (93 : Int) ∧ (m112 86 3).toInt = (m97 86 3).toInt + 1) ∨ (v116.toInt = 0 ∧ tC m97 (m97 86 3).toInt ≠ (93 : Int) ∧ (m112 86 4).toInt = -1000 - (m97 86 3).toInt ∧ (m112 86 3).toInt = (m97 86 3).toInt)) ∧ (m112 lb 7).toInt = (m97 lb 7).toInt := by have q_ := rv116; (try rw [z110] at q_); exact q_
        have K115c := K115
        have w117 : (m112 86 2).toInt = (m97 86 2).toInt := congrArg Int32.toInt (K115 86 2 rfl)
        have K115 := K100.trans (K115.sub (by first | exact wZ_wY | exact wZ_86))
        show PV _ _ _ _ _ _ _ 33 [.ref 86, .int 0, pv_U] [.int v116] _
        have k33 := rv116.2.2.2.1
        rw [kt27] at k33
        have ks33 : SAML lb m97 m112 := SAML.fz zR2 K115c
        refine pv_if_eq (M := mX7_readFactor) (tgt := 40) dX7_readFactor_33 36 rfl (by decide) (fun c121 => ?_) (fun c121 => ?_)
        · have c121 := iv_eq (X := v116.toInt) (Y := 0) c121 rfl (by decide)
          refine pv_iconst (M := mX7_readFactor) (v := 0) dX7_readFactor_40 41 rfl (by decide) ?_
          have z122 : (0 : Int32).toInt = 0 := by decide
          exact pv_iret (M := mX7_readFactor) dX7_readFactor_41 rfl rfl ⟨_, _, _, rfl, rfl, I114, K115, by decide, by decide, ⟨by omega, by omega, by omega, (by first | exact Or.inr ⟨by decide, FX_deep k91 (by omega)⟩ | exact Or.inr ⟨by decide, FX_cn k91 k27 (fun z => by omega) (by omega)⟩ | exact Or.inl ⟨by decide, FX_co k91 k27 (by omega) (by omega)⟩ | exact Or.inr ⟨by decide, FX_sum k91 (RSX_fl k24 (by omega))⟩ | (exfalso; omega)), by omega, (by first | exact IFZ.is (by rw [FAD_opn k91]; exact CDS.wk (CDS.post (CDS.pre ks17 (IFZ.get k24z (by omega)) (Int.le_refl _)) ks33) (by omega) (by omega)) | exact IFZ.no (by first | decide | omega))⟩⟩
        · have c121 := iv_ne (X := v116.toInt) (Y := 0) c121 rfl (by decide)
          refine pv_iconst (M := mX7_readFactor) (v := 1) dX7_readFactor_36 37 rfl (by decide) ?_
          refine pv_goto (M := mX7_readFactor) (tgt := 41) dX7_readFactor_37 (by decide) ?_
          have z123 : (1 : Int32).toInt = 1 := by decide
          exact pv_iret (M := mX7_readFactor) dX7_readFactor_41 rfl rfl ⟨_, _, _, rfl, rfl, I114, K115, by decide, by decide, ⟨by omega, by omega, by omega, (by first | exact Or.inr ⟨by decide, FX_deep k91 (by omega)⟩ | exact Or.inr ⟨by decide, FX_cn k91 k27 (fun z => by omega) (by omega)⟩ | exact Or.inl ⟨by decide, FX_co k91 k27 (by omega) (by omega)⟩ | exact Or.inr ⟨by decide, FX_sum k91 (RSX_fl k24 (by omega))⟩ | (exfalso; omega)), by omega, (by first | exact IFZ.is (by rw [FAD_opn k91]; exact CDS.wk (CDS.post (CDS.pre ks17 (IFZ.get k24z (by omega)) (Int.le_refl _)) ks33) (by omega) (by omega)) | exact IFZ.no (by first | decide | omega))⟩⟩

set_option maxHeartbeats 2000000 in
set_option maxRecDepth 20000 in
theorem s_X7_readTerm_v0z (g : pv_G) {T : List mv_T} {m : Nat → Nat → Int32} {n : Nat → Nat → Int64} {r : Nat → Value} {la lb : Nat} (hT : TX T) (I : IV BB m) (R : RX T r la lb) (hp0 : (m 86 3).toInt ≤ (m 86 2).toInt) (hp1 : TBC m) (hp2 : (m lb 2).toInt ≤ (m 86 3).toInt) : PM g mX7_readTerm yX7_readTerm (sqI T BB (wZ lb) r m 0 1 (fun m' v => (m 86 3).toInt ≤ (m' 86 3).toInt ∧ (m' 86 3).toInt ≤ (m' 86 2).toInt ∧ (m' 86 2).toInt = (m 86 2).toInt ∧ ((v.toInt = 0 ∨ (m 86 3).toInt + 1 ≤ (m' 86 3).toInt) ∧ TRX (SU (tC m) 6 (m 86 3).toInt) (LSu (tC m) 6) (fun a => isT (tC m a) = false) v.toInt (m' 86 3).toInt (m' 86 4).toInt) ∧ (m' lb 7).toInt = (m lb 7).toInt ∧ IFZ v.toInt (TMZ (tC m) 6 lb m m' (m 86 3).toInt (m' 86 3).toInt))) 24 0 0 [.ref 86, .int 0] (mk T m n r) := by
  have Kp : fr (wZ lb) m m := fr.rf
  have R0 := R
  have zR := R.2.2.2.2.1.1
  have zR2 := R.2.2.2.2.2.1
  have z99 : 0 ≤ (m 86 3).toInt ∧ (m 86 3).toInt ≤ 160 := I 86 3
  have z100 : 0 ≤ (m 86 2).toInt ∧ (m 86 2).toInt ≤ 160 := I 86 2
  refine PM.of 2 (lo := [.ref 86, .int 0, pv_U, pv_U]) rfl (by decide) rfl rfl (Nat.le_of_ble_eq_true rfl) ?_
  have kTX := TXT_C I
  refine pv_aload_n (M := mX7_readTerm) 0 dX7_readTerm_0 1 rfl rfl rfl ?_
  refine pv_iload_n (M := mX7_readTerm) 1 dX7_readTerm_1 2 rfl rfl rfl ?_
  have z2 : (0 : Int32).toInt = 0 := by decide
  refine pv_callv (M := mX7_readTerm) (as := [.int 0]) (st := []) (kc2 := 0) (ks2 := 0) dX7_readTerm_2 wd547 YX7_readFactor ⟨wd549, wd6⟩ (mk_get (tl86 hT)) rfl rfl (s_X7_readFactor_v0z g hT I R (by first | omega | assumption | exact (iv_rng _).2 | exact (iv_rng _).1 | decide) hp1 (by first | omega | assumption | exact (iv_rng _).2 | exact (iv_rng _).1 | decide)) rfl rfl (Nat.le_of_ble_eq_true rfl) (by decide) rfl rfl 5 rfl (fun rv h1 q3 => ?_)
  obtain ⟨m4, n5, v8, rfl, rfl, I6, K7, pv8, qv8, rv8⟩ := q3
  replace rv8 : (m 86 3).toInt ≤ (m4 86 3).toInt ∧ (m4 86 3).toInt ≤ (m4 86 2).toInt ∧ (m4 86 2).toInt = (m 86 2).toInt ∧ (RSX (FA (tC m) 6 (m 86 3).toInt) v8.toInt (m4 86 3).toInt (m4 86 4).toInt) ∧ (m4 lb 7).toInt = (m lb 7).toInt ∧ IFZ v8.toInt (CDS lb m m4 13 (FAD (tC m) 6 (m 86 3).toInt) ((m4 86 3).toInt - (m 86 3).toInt)) := by have q_ := rv8; (try rw [z2] at q_); exact q_
  have K7c := K7
  have K7 := Kp.trans (K7.sub (fun _ _ q => q))
  show PV _ _ _ _ _ _ _ 5 [.ref 86, .int 0, pv_U, pv_U] [.int v8] _
  have k5 := rv8.2.2.2.1
  have k5z0 := rv8.2.2.2.2.2
  refine pv_if_ne (M := mX7_readTerm) (tgt := 10) dX7_readTerm_5 8 rfl (by decide) (fun c11 => ?_) (fun c11 => ?_)
  · have c11 := iv_ne (X := v8.toInt) (Y := 0) c11 rfl (by decide)
    have kF0 := RSX_ok k5 (by omega)
    have kF1 := FA_le 6 (m 86 3).toInt (by rw [kF0])
    rw [kF0] at kF1
    have k5z := IFZ.get k5z0 (by omega)
    refine pv_iconst (M := mX7_readTerm) (v := 0) dX7_readTerm_10 11 rfl (by decide) ?_
    refine pv_istore_n (M := mX7_readTerm) 2 (lo2 := [.ref 86, .int 0, .int 0, pv_U]) dX7_readTerm_11 12 rfl rfl (by decide) rfl rfl ?_
    have lp22 : ∀ (fuel21 : Nat) (y16 : Int32) (m17 : Nat → Nat → Int32) (n18 : Nat → Nat → Int64), (0 ≤ y16.toInt) → (y16.toInt ≤ 160) → ((m17 86 3).toInt ≤ (m17 86 2).toInt) → ((m17 86 2).toInt = (m 86 2).toInt) → ((m17 lb 7).toInt = (m lb 7).toInt) → ((m 86 3).toInt + 1 + 2 * y16.toInt ≤ (m17 86 3).toInt) → (SU (tC m) 6 (m 86 3).toInt = LSu (tC m) 6 (m17 86 3).toInt) → (TMZ (tC m) 6 lb m m17 (m 86 3).toInt (m17 86 3).toInt) → IV BB m17 → fr (wZ lb) m m17 → ((160 - y16.toInt) : Int).toNat < fuel21 → PV none g mX7_readTerm (sqI T BB (wZ lb) r m 0 1 (fun m' v => (m 86 3).toInt ≤ (m' 86 3).toInt ∧ (m' 86 3).toInt ≤ (m' 86 2).toInt ∧ (m' 86 2).toInt = (m 86 2).toInt ∧ ((v.toInt = 0 ∨ (m 86 3).toInt + 1 ≤ (m' 86 3).toInt) ∧ TRX (SU (tC m) 6 (m 86 3).toInt) (LSu (tC m) 6) (fun a => isT (tC m a) = false) v.toInt (m' 86 3).toInt (m' 86 4).toInt) ∧ (m' lb 7).toInt = (m lb 7).toInt ∧ IFZ v.toInt (TMZ (tC m) 6 lb m m' (m 86 3).toInt (m' 86 3).toInt))) 24 0 0 12 [.ref 86, .int 0, .int y16, pv_U] [] (mk T m17 n18 r) := by
      intro fuel21
      induction fuel21 with
      | zero => intro y16 m17 n18 b24 b25 b26 b27 b28 b29 b30 b31 I19 K20 z32; omega
      | succ fuel21 ih23 =>
        intro y16 m17 n18 b24 b25 b26 b27 b28 b29 b30 b31 I19 K20 z32
        have z33 : 0 ≤ (m17 86 3).toInt ∧ (m17 86 3).toInt ≤ 160 := I19 86 3
        have z34 : 0 ≤ (m17 86 2).toInt ∧ (m17 86 2).toInt ≤ 160 := I19 86 2
        have kgs := (show SU (tC m) 6 (m 86 3).toInt = LSu (tC m) 6 (m17 86 3).toInt by assumption)
        have kt12 : tC m17 = tC m := tC_fz zR2 K20
        have kgz := (show TMZ (tC m) 6 lb m m17 (m 86 3).toInt (m17 86 3).toInt by assumption)
        have kgl := TMZ_b kgz
        refine pv_iload_n (M := mX7_readTerm) 2 dX7_readTerm_12 13 rfl rfl rfl ?_
        refine pv_sipush (M := mX7_readTerm) (v := 160) dX7_readTerm_13 16 rfl (by decide) ?_
        refine pv_icmp_ge (M := mX7_readTerm) (tgt := 66) dX7_readTerm_16 19 rfl (by decide) (fun c39 => ?_) (fun c39 => ?_)
        · have c39 := iv_le (X := 160) (Y := y16.toInt) c39 (by decide) rfl
          refine pv_iconst (M := mX7_readTerm) (v := 1) dX7_readTerm_66 67 rfl (by decide) ?_
          have z40 : (1 : Int32).toInt = 1 := by decide
          exact pv_iret (M := mX7_readTerm) dX7_readTerm_67 rfl rfl ⟨_, _, _, rfl, rfl, I19, K20, by decide, by decide, ⟨by omega, by omega, by omega, ⟨Or.inr (by omega), Or.inl ⟨by decide, kgs, by first | (exact (k23.resolve_left (fun q => by have q1 := q.1; omega)).2) | (exfalso; omega)⟩⟩, by omega, IFZ.is kgz⟩⟩
        · have c39 := iv_nle (X := 160) (Y := y16.toInt) c39 (by decide) rfl
          refine pv_aload_n (M := mX7_readTerm) 0 dX7_readTerm_19 20 rfl rfl rfl ?_
          refine pv_callv (M := mX7_readTerm) (as := []) (st := []) (kc2 := 0) (ks2 := 0) dX7_readTerm_20 wd654 YX7_timesAhead ⟨wd656, wd11⟩ (mk_get (tl86 hT)) rfl rfl (s_X7_timesAhead_vx g hT I19 R) rfl rfl (Nat.le_of_ble_eq_true rfl) (by decide) rfl rfl 23 rfl (fun rv h1 q41 => ?_)
          obtain ⟨v42, rfl, rfl, pv42, qv42, rv42⟩ := q41
          replace rv42 : (v42 = 0 ∨ (m17 86 3).toInt < (m17 86 2).toInt) ∧ ((v42.toInt = 1 ∧ isT (tC m17 (m17 86 3).toInt) = true) ∨ (v42.toInt = 0 ∧ isT (tC m17 (m17 86 3).toInt) = false)) := rv42
          show PV _ _ _ _ _ _ _ 23 [.ref 86, .int 0, .int y16, pv_U] [.int v42] _
          have k23 := rv42.2
          rw [kt12] at k23
          refine pv_if_eq (M := mX7_readTerm) (tgt := 66) dX7_readTerm_23 26 rfl (by decide) (fun c45 => ?_) (fun c45 => ?_)
          · have c45 := iv_eq (X := v42.toInt) (Y := 0) c45 rfl (by decide)
            refine pv_iconst (M := mX7_readTerm) (v := 1) dX7_readTerm_66 67 rfl (by decide) ?_
            have z46 : (1 : Int32).toInt = 1 := by decide
            exact pv_iret (M := mX7_readTerm) dX7_readTerm_67 rfl rfl ⟨_, _, _, rfl, rfl, I19, K20, by decide, by decide, ⟨by omega, by omega, by omega, ⟨Or.inr (by omega), Or.inl ⟨by decide, kgs, by first | (exact (k23.resolve_left (fun q => by have q1 := q.1; omega)).2) | (exfalso; omega)⟩⟩, by omega, IFZ.is kgz⟩⟩
          · have pc45 := rv42.1.resolve_left c45
            have c45 := iv_ne (X := v42.toInt) (Y := 0) c45 rfl (by decide)
            have kT := (k23.resolve_right (fun q => by have q1 := q.1; omega)).2
            refine pv_aload_n (M := mX7_readTerm) 0 dX7_readTerm_26 27 rfl rfl rfl ?_
            refine pv_callv (M := mX7_readTerm) (as := []) (st := []) (kc2 := 0) (ks2 := 0) dX7_readTerm_27 wd527 YX7_peek ⟨wd529, wd2⟩ (mk_get (tl86 hT)) rfl rfl (s_X7_peek_vx g hT I19 R) rfl rfl (Nat.le_of_ble_eq_true rfl) (by decide) rfl rfl 30 rfl (fun rv h1 q48 => ?_)
            obtain ⟨v49, rfl, rfl, pv49, qv49, rv49⟩ := q48
            replace rv49 : v49.toInt = tC m17 (m17 86 3).toInt ∧ (v49.toInt = -1 ∨ (m17 86 3).toInt < (m17 86 2).toInt) := rv49
            show PV _ _ _ _ _ _ _ 30 [.ref 86, .int 0, .int y16, pv_U] [.int v49] _
            have k30 : v49.toInt = tC m (m17 86 3).toInt := by rw [← kt12]; exact rv49.1
            refine pv_istore_n (M := mX7_readTerm) 3 (lo2 := [.ref 86, .int 0, .int y16, .int v49]) dX7_readTerm_30 31 rfl rfl (by decide) rfl rfl ?_
            refine pv_aload_n (M := mX7_readTerm) 0 dX7_readTerm_31 32 rfl rfl rfl ?_
            refine pv_dup (M := mX7_readTerm) dX7_readTerm_32 33 rfl rfl ?_
            refine iv_get (M := mX7_readTerm) (l1 := 0) (l2 := 160) dX7_readTerm_33 FX7 3 wd283 (by decide) (tl86 hT) rfl I19 rfl 36 rfl (fun v51 ev51 pv51 qv51 => ?_)
            have wv51 : v51.toInt = (m17 86 3).toInt := congrArg Int32.toInt ev51
            refine pv_iconst (M := mX7_readTerm) (v := 1) dX7_readTerm_36 37 rfl (by decide) ?_
            refine iv_iadd (M := mX7_readTerm) (X := v51.toInt) (Y := 1) dX7_readTerm_37 38 rfl rfl (by decide) (by omega) (by omega) (fun v52 ev52 => ?_)
            refine iv_put (M := mX7_readTerm) (l1 := 0) (l2 := 160) dX7_readTerm_38 FX7 3 wd283 (by decide) rfl (tl86 hT) rfl rfl rfl I19 rfl (by omega) (by omega) 41 rfl (fun m53 e56 I54 => ?_)
            have K55 := K20.set e56 (by first | rfl | decide)
            have w57 : (m53 86 3).toInt = v52.toInt := by rw [e56, up2_eq]
            have w58 : (m53 86 2).toInt = (m17 86 2).toInt := by rw [e56, up2_ne (by omega)]
            have w59 : (m53 86 4).toInt = (m17 86 4).toInt := by rw [e56, up2_ne (by omega)]
            have w60 : (m53 lb 7).toInt = (m17 lb 7).toInt := by rw [e56, up2_ne (by omega)]
            have w61 : (m53 lb 2).toInt = (m17 lb 2).toInt := by rw [e56, up2_ne (by omega)]
            have kt41 : tC m53 = tC m := tC_fz zR2 K55
            have kp41 : (m53 86 3).toInt = (m17 86 3).toInt + 1 := by omega
            have ks41 : SAML lb m17 m53 := SAML.set zR2 e56
            have kl41 : (m53 lb 2).toInt = (m17 lb 2).toInt := congrArg Int32.toInt ks41.1
            refine pv_aload_n (M := mX7_readTerm) 0 dX7_readTerm_41 42 rfl rfl rfl ?_
            refine pv_iload_n (M := mX7_readTerm) 1 dX7_readTerm_42 43 rfl rfl rfl ?_
            have z66 : (0 : Int32).toInt = 0 := by decide
            refine pv_callv (M := mX7_readTerm) (as := [.int 0]) (st := []) (kc2 := 0) (ks2 := 0) dX7_readTerm_43 wd547 YX7_readFactor ⟨wd549, wd6⟩ (mk_get (tl86 hT)) rfl rfl (s_X7_readFactor_v0z g hT I54 R (by first | omega | assumption | exact (iv_rng _).2 | exact (iv_rng _).1 | decide) (TBC_eq hp1 kt41) (by first | omega | assumption | exact (iv_rng _).2 | exact (iv_rng _).1 | decide)) rfl rfl (Nat.le_of_ble_eq_true rfl) (by decide) rfl rfl 46 rfl (fun rv h1 q67 => ?_)
            obtain ⟨m68, n69, v72, rfl, rfl, I70, K71, pv72, qv72, rv72⟩ := q67
            replace rv72 : (m53 86 3).toInt ≤ (m68 86 3).toInt ∧ (m68 86 3).toInt ≤ (m68 86 2).toInt ∧ (m68 86 2).toInt = (m53 86 2).toInt ∧ (RSX (FA (tC m53) 6 (m53 86 3).toInt) v72.toInt (m68 86 3).toInt (m68 86 4).toInt) ∧ (m68 lb 7).toInt = (m53 lb 7).toInt ∧ IFZ v72.toInt (CDS lb m53 m68 13 (FAD (tC m53) 6 (m53 86 3).toInt) ((m68 86 3).toInt - (m53 86 3).toInt)) := by have q_ := rv72; (try rw [z66] at q_); exact q_
            have K71c := K71
            have K71 := K55.trans (K71.sub (fun _ _ q => q))
            show PV _ _ _ _ _ _ _ 46 [.ref 86, .int 0, .int y16, .int v49] [.int v72] _
            have k46 := rv72.2.2.2.1
            rw [kt41, kp41] at k46
            have k46z0 := rv72.2.2.2.2.2
            rw [kt41, kp41] at k46z0
            refine pv_if_ne (M := mX7_readTerm) (tgt := 51) dX7_readTerm_46 49 rfl (by decide) (fun c77 => ?_) (fun c77 => ?_)
            · have c77 := iv_ne (X := v72.toInt) (Y := 0) c77 rfl (by decide)
              have kF4 := RSX_ok k46 (by omega)
              have kF5 := FA_le 6 ((m17 86 3).toInt + 1) (by rw [kF4])
              rw [kF4] at kF5
              have k46z := IFZ.get k46z0 (by omega)
              have k46b := CDS_b k46z
              refine pv_aload_n (M := mX7_readTerm) 0 dX7_readTerm_51 52 rfl rfl rfl ?_
              refine mv_get (M := mX7_readTerm) (v := .ref lb) dX7_readTerm_52 FX7 1 wd281 (by decide) (tl86 hT) rfl R.2.2.2.1 55 rfl ?_
              refine pv_iload_n (M := mX7_readTerm) 3 dX7_readTerm_55 56 rfl rfl rfl ?_
              refine pv_iconst (M := mX7_readTerm) (v := 0) dX7_readTerm_56 57 rfl (by decide) ?_
              have z83 : (0 : Int32).toInt = 0 := by decide
              refine pv_callv (M := mX7_readTerm) (as := [.int v49, .int 0]) (st := []) (kc2 := 0) (ks2 := 0) dX7_readTerm_57 wd567 YX6_emit ⟨wd568, wd569⟩ (mk_get R.2.2.2.2.2.2.1) rfl rfl (s_X6_emit_vz g hT I70 lb R.2.2.2.2.2 v49 0 (by decide) (by decide)) rfl rfl (Nat.le_of_ble_eq_true rfl) (by decide) rfl rfl 60 rfl (fun rv h1 q84 => ?_)
              obtain ⟨m85, n86, rfl, rfl, I87, K88, rm85⟩ := q84
              replace rm85 : (m85 lb 7).toInt = (m68 lb 7).toInt ∧ ((m68 lb 2).toInt < 160 → EMT lb m68 m85 v49.toInt (0 : Int32)) := by have q_ := rm85; (try rw [z83] at q_); exact q_
              have K88c := K88
              have w89 : (m85 86 3).toInt = (m68 86 3).toInt := congrArg Int32.toInt (K88 86 3 (wY_out (by omega) (by omega) (by omega)))
              have w90 : (m85 86 2).toInt = (m68 86 2).toInt := congrArg Int32.toInt (K88 86 2 (wY_out (by omega) (by omega) (by omega)))
              have w91 : (m85 86 4).toInt = (m68 86 4).toInt := congrArg Int32.toInt (K88 86 4 (wY_out (by omega) (by omega) (by omega)))
              have K88 := K71.trans (K88.sub (by first | exact wZ_wY | exact wZ_86))
              show PV _ _ _ _ _ _ _ 60 [.ref 86, .int 0, .int y16, .int v49] [] _
              have k60 := rm85.2 (by omega)
              refine iv_inc (M := mX7_readTerm) (C := 1) dX7_readTerm_60 63 rfl rfl (by decide) rfl rfl (by decide) (by omega) (by omega) (fun v93 ev93 => ?_)
              show PV _ _ _ _ _ _ _ 63 [.ref 86, .int 0, .int v93, .int v49] [] _
              refine pv_goto (M := mX7_readTerm) (tgt := 12) dX7_readTerm_63 (by decide) ?_
              refine pv_fg (lo2 := [.ref 86, .int 0, .int v93, pv_U]) ⟨Or.inr rfl, ⟨Or.inr rfl, ⟨Or.inr rfl, ⟨Or.inl rfl, trivial⟩⟩⟩⟩ ?_
              have kbs : SU (tC m) 6 (m 86 3).toInt = LSu (tC m) 6 (m85 86 3).toInt := by rw [kgs, LSu_ok kTX (by omega) (isT_S kT) kF4]; congr 1; omega
              have kbz : TMZ (tC m) 6 lb m m85 (m 86 3).toInt (m85 86 3).toInt := TMZ_s kgz kTX (by omega) kT (by rw [kF4]; congr 1; omega) ks41 k46z k60 (by omega) (by omega)
              exact ih23 v93 m85 n86 (by first | omega | assumption | exact (iv_rng _).2 | exact (iv_rng _).1 | decide) (by first | omega | assumption | exact (iv_rng _).2 | exact (iv_rng _).1 | decide) (by first | omega | assumption | (show (m85 86 3).toInt ≤ (m85 86 2).toInt; omega) | decide) (by first | omega | assumption | (show (m85 86 2).toInt = (m 86 2).toInt; omega) | decide) (by first | omega | assumption | (show (m85 lb 7).toInt = (m lb 7).toInt; omega) | decide) (by first | omega | assumption | (show (m 86 3).toInt + 1 + 2 * v93.toInt ≤ (m85 86 3).toInt; omega) | decide) kbs kbz I87 K88 (by omega)
            · have c77 := iv_eq (X := v72.toInt) (Y := 0) c77 rfl (by decide)
              refine pv_iconst (M := mX7_readTerm) (v := 0) dX7_readTerm_49 50 rfl (by decide) ?_
              have z96 : (0 : Int32).toInt = 0 := by decide
              exact pv_iret (M := mX7_readTerm) dX7_readTerm_50 rfl rfl ⟨_, _, _, rfl, rfl, I70, K71, by decide, by decide, ⟨by omega, by omega, by omega, ⟨Or.inl (by decide), Or.inr ⟨by decide, by rw [kgs]; exact LSu_fl kTX (by omega) (isT_S kT) (RSX_fl k46 (by omega))⟩⟩, by omega, IFZ.no (by first | decide | omega)⟩⟩
    have z97 : (0 : Int32).toInt = 0 := by decide
    exact lp22 (((160 - 0) : Int).toNat + 1) 0 m4 n5 (by first | omega | assumption | exact (iv_rng _).2 | exact (iv_rng _).1 | decide) (by first | omega | assumption | exact (iv_rng _).2 | exact (iv_rng _).1 | decide) (by first | omega | assumption | (show (m4 86 3).toInt ≤ (m4 86 2).toInt; omega) | decide) (by first | omega | assumption | (show (m4 86 2).toInt = (m 86 2).toInt; omega) | decide) (by first | omega | assumption | (show (m4 lb 7).toInt = (m lb 7).toInt; omega) | decide) (by first | omega | assumption | (show (m 86 3).toInt + 1 + 2 * 0 ≤ (m4 86 3).toInt; omega) | decide) (SU_ok kF0) (TMZ_0 k5z kF0) I6 K7 (by omega)
  · have c11 := iv_eq (X := v8.toInt) (Y := 0) c11 rfl (by decide)
    refine pv_iconst (M := mX7_readTerm) (v := 0) dX7_readTerm_8 9 rfl (by decide) ?_
    have z98 : (0 : Int32).toInt = 0 := by decide
    exact pv_iret (M := mX7_readTerm) dX7_readTerm_9 rfl rfl ⟨_, _, _, rfl, rfl, I6, K7, by decide, by decide, ⟨by omega, by omega, by omega, ⟨Or.inl (by decide), Or.inr ⟨by decide, SU_fl (RSX_fl k5 (by omega))⟩⟩, by omega, IFZ.no (by first | decide | omega)⟩⟩

set_option maxHeartbeats 2000000 in
set_option maxRecDepth 20000 in
theorem s_X7_readSum_v0z (g : pv_G) {T : List mv_T} {m : Nat → Nat → Int32} {n : Nat → Nat → Int64} {r : Nat → Value} {la lb : Nat} (hT : TX T) (I : IV BB m) (R : RX T r la lb) (hp0 : (m 86 3).toInt ≤ (m 86 2).toInt) (hp1 : TBC m) (hp2 : (m lb 2).toInt ≤ (m 86 3).toInt) : PM g mX7_readSum yX7_readSum (sqI T BB (wZ lb) r m 0 1 (fun m' v => (m 86 3).toInt ≤ (m' 86 3).toInt ∧ (m' 86 3).toInt ≤ (m' 86 2).toInt ∧ (m' 86 2).toInt = (m 86 2).toInt ∧ (RSX (SU (tC m) 6 (m 86 3).toInt) v.toInt (m' 86 3).toInt (m' 86 4).toInt) ∧ (m' lb 7).toInt = (m lb 7).toInt ∧ IFZ v.toInt (CDS lb m m' 15 (SUD (tC m) 6 (m 86 3).toInt) ((m' 86 3).toInt - (m 86 3).toInt)))) 25 0 0 [.ref 86, .int 0] (mk T m n r) := by
  have Kp : fr (wZ lb) m m := fr.rf
  have R0 := R
  have zR := R.2.2.2.2.1.1
  have zR2 := R.2.2.2.2.2.1
  have z158 : 0 ≤ (m 86 3).toInt ∧ (m 86 3).toInt ≤ 160 := I 86 3
  have z159 : 0 ≤ (m 86 2).toInt ∧ (m 86 2).toInt ≤ 160 := I 86 2
  refine PM.of 2 (lo := [.ref 86, .int 0, pv_U, pv_U]) rfl (by decide) rfl rfl (Nat.le_of_ble_eq_true rfl) ?_
  have kTX := TXT_C I
  refine pv_aload_n (M := mX7_readSum) 0 dX7_readSum_0 1 rfl rfl rfl ?_
  refine pv_iload_n (M := mX7_readSum) 1 dX7_readSum_1 2 rfl rfl rfl ?_
  have z2 : (0 : Int32).toInt = 0 := by decide
  refine pv_callv (M := mX7_readSum) (as := [.int 0]) (st := []) (kc2 := 0) (ks2 := 0) dX7_readSum_2 wd543 YX7_readTerm ⟨wd545, wd5⟩ (mk_get (tl86 hT)) rfl rfl (s_X7_readTerm_v0z g hT I R (by first | omega | assumption | exact (iv_rng _).2 | exact (iv_rng _).1 | decide) hp1 (by first | omega | assumption | exact (iv_rng _).2 | exact (iv_rng _).1 | decide)) rfl rfl (Nat.le_of_ble_eq_true rfl) (by decide) rfl rfl 5 rfl (fun rv h1 q3 => ?_)
  obtain ⟨m4, n5, v8, rfl, rfl, I6, K7, pv8, qv8, rv8⟩ := q3
  replace rv8 : (m 86 3).toInt ≤ (m4 86 3).toInt ∧ (m4 86 3).toInt ≤ (m4 86 2).toInt ∧ (m4 86 2).toInt = (m 86 2).toInt ∧ ((v8.toInt = 0 ∨ (m 86 3).toInt + 1 ≤ (m4 86 3).toInt) ∧ TRX (SU (tC m) 6 (m 86 3).toInt) (LSu (tC m) 6) (fun a => isT (tC m a) = false) v8.toInt (m4 86 3).toInt (m4 86 4).toInt) ∧ (m4 lb 7).toInt = (m lb 7).toInt ∧ IFZ v8.toInt (TMZ (tC m) 6 lb m m4 (m 86 3).toInt (m4 86 3).toInt) := by have q_ := rv8; (try rw [z2] at q_); exact q_
  have K7c := K7
  have K7 := Kp.trans (K7.sub (fun _ _ q => q))
  show PV _ _ _ _ _ _ _ 5 [.ref 86, .int 0, pv_U, pv_U] [.int v8] _
  have k5 := rv8.2.2.2.1.2
  have k5p := rv8.2.2.2.1.1
  have k5z0 := rv8.2.2.2.2.2
  refine pv_if_ne (M := mX7_readSum) (tgt := 10) dX7_readSum_5 8 rfl (by decide) (fun c12 => ?_) (fun c12 => ?_)
  · have c12 := iv_ne (X := v8.toInt) (Y := 0) c12 rfl (by decide)
    have k5z := IFZ.get k5z0 (by omega)
    refine pv_iconst (M := mX7_readSum) (v := 0) dX7_readSum_10 11 rfl (by decide) ?_
    refine pv_istore_n (M := mX7_readSum) 2 (lo2 := [.ref 86, .int 0, .int 0, pv_U]) dX7_readSum_11 12 rfl rfl (by decide) rfl rfl ?_
    have lp20 : ∀ (fuel19 : Nat) (y14 : Int32) (m15 : Nat → Nat → Int32) (n16 : Nat → Nat → Int64), (0 ≤ y14.toInt) → (y14.toInt ≤ 160) → ((m15 86 3).toInt ≤ (m15 86 2).toInt) → ((m15 86 2).toInt = (m 86 2).toInt) → ((m15 lb 7).toInt = (m lb 7).toInt) → ((m 86 3).toInt + 1 + 2 * y14.toInt ≤ (m15 86 3).toInt) → (SU (tC m) 6 (m 86 3).toInt = LSu (tC m) 6 (m15 86 3).toInt) → (isT (tC m (m15 86 3).toInt) = false) → (SMZ (tC m) 6 lb m m15 (m 86 3).toInt (m15 86 3).toInt) → IV BB m15 → fr (wZ lb) m m15 → ((160 - y14.toInt) : Int).toNat < fuel19 → PV none g mX7_readSum (sqI T BB (wZ lb) r m 0 1 (fun m' v => (m 86 3).toInt ≤ (m' 86 3).toInt ∧ (m' 86 3).toInt ≤ (m' 86 2).toInt ∧ (m' 86 2).toInt = (m 86 2).toInt ∧ (RSX (SU (tC m) 6 (m 86 3).toInt) v.toInt (m' 86 3).toInt (m' 86 4).toInt) ∧ (m' lb 7).toInt = (m lb 7).toInt ∧ IFZ v.toInt (CDS lb m m' 15 (SUD (tC m) 6 (m 86 3).toInt) ((m' 86 3).toInt - (m 86 3).toInt)))) 25 0 0 12 [.ref 86, .int 0, .int y14, pv_U] [] (mk T m15 n16 r) := by
      intro fuel19
      induction fuel19 with
      | zero => intro y14 m15 n16 b22 b23 b24 b25 b26 b27 b28 b29 b30 I17 K18 z31; omega
      | succ fuel19 ih21 =>
        intro y14 m15 n16 b22 b23 b24 b25 b26 b27 b28 b29 b30 I17 K18 z31
        have z32 : 0 ≤ (m15 86 3).toInt ∧ (m15 86 3).toInt ≤ 160 := I17 86 3
        have z33 : 0 ≤ (m15 86 2).toInt ∧ (m15 86 2).toInt ≤ 160 := I17 86 2
        have kgs := (show SU (tC m) 6 (m 86 3).toInt = LSu (tC m) 6 (m15 86 3).toInt by assumption)
        have kgt := (show isT (tC m (m15 86 3).toInt) = false by assumption)
        have kt12 : tC m15 = tC m := tC_fz zR2 K18
        have kgz := (show SMZ (tC m) 6 lb m m15 (m 86 3).toInt (m15 86 3).toInt by assumption)
        have kgl := SMZ_b kgz
        refine pv_iload_n (M := mX7_readSum) 2 dX7_readSum_12 13 rfl rfl rfl ?_
        refine pv_sipush (M := mX7_readSum) (v := 160) dX7_readSum_13 16 rfl (by decide) ?_
        refine pv_icmp_ge (M := mX7_readSum) (tgt := 77) dX7_readSum_16 19 rfl (by decide) (fun c39 => ?_) (fun c39 => ?_)
        · have c39 := iv_le (X := 160) (Y := y14.toInt) c39 (by decide) rfl
          refine pv_iconst (M := mX7_readSum) (v := 1) dX7_readSum_77 78 rfl (by decide) ?_
          have z40 : (1 : Int32).toInt = 1 := by decide
          exact pv_iret (M := mX7_readSum) dX7_readSum_78 rfl rfl ⟨_, _, _, rfl, rfl, I17, K18, by decide, by decide, ⟨by omega, by omega, by omega, (by first | exact Or.inl ⟨by decide, by rw [kgs]; exact LSu_no (isS_n kgt (by omega) (by omega))⟩ | (exfalso; omega)), by omega, (by first | exact IFZ.is (SMZ_e kgz (isS_n kgt (by omega) (by omega))) | exact IFZ.no (by omega))⟩⟩
        · have c39 := iv_nle (X := 160) (Y := y14.toInt) c39 (by decide) rfl
          refine pv_aload_n (M := mX7_readSum) 0 dX7_readSum_19 20 rfl rfl rfl ?_
          refine pv_callv (M := mX7_readSum) (as := []) (st := []) (kc2 := 0) (ks2 := 0) dX7_readSum_20 wd527 YX7_peek ⟨wd529, wd2⟩ (mk_get (tl86 hT)) rfl rfl (s_X7_peek_vx g hT I17 R) rfl rfl (Nat.le_of_ble_eq_true rfl) (by decide) rfl rfl 23 rfl (fun rv h1 q41 => ?_)
          obtain ⟨v42, rfl, rfl, pv42, qv42, rv42⟩ := q41
          replace rv42 : v42.toInt = tC m15 (m15 86 3).toInt ∧ (v42.toInt = -1 ∨ (m15 86 3).toInt < (m15 86 2).toInt) := rv42
          show PV _ _ _ _ _ _ _ 23 [.ref 86, .int 0, .int y14, pv_U] [.int v42] _
          have k23 := rv42.1
          have k23b := rv42.2
          rw [kt12] at k23
          refine pv_bipush (M := mX7_readSum) (v := 43) dX7_readSum_23 25 rfl (by decide) ?_
          refine pv_icmp_eq (M := mX7_readSum) (tgt := 37) dX7_readSum_25 28 rfl (by decide) (fun c46 => ?_) (fun c46 => ?_)
          · have c46 := iv_eq (X := v42.toInt) (Y := 43) c46 rfl (by decide)
            have kS : isS (tC m (m15 86 3).toInt) = true := isS_y (by omega)
            refine pv_aload_n (M := mX7_readSum) 0 dX7_readSum_37 38 rfl rfl rfl ?_
            refine pv_callv (M := mX7_readSum) (as := []) (st := []) (kc2 := 0) (ks2 := 0) dX7_readSum_38 wd527 YX7_peek ⟨wd529, wd2⟩ (mk_get (tl86 hT)) rfl rfl (s_X7_peek_vx g hT I17 R) rfl rfl (Nat.le_of_ble_eq_true rfl) (by decide) rfl rfl 41 rfl (fun rv h1 q48 => ?_)
            obtain ⟨v49, rfl, rfl, pv49, qv49, rv49⟩ := q48
            replace rv49 : v49.toInt = tC m15 (m15 86 3).toInt ∧ (v49.toInt = -1 ∨ (m15 86 3).toInt < (m15 86 2).toInt) := rv49
            show PV _ _ _ _ _ _ _ 41 [.ref 86, .int 0, .int y14, pv_U] [.int v49] _
            have k41 : v49.toInt = tC m (m15 86 3).toInt := by rw [← kt12]; exact rv49.1
            refine pv_istore_n (M := mX7_readSum) 3 (lo2 := [.ref 86, .int 0, .int y14, .int v49]) dX7_readSum_41 42 rfl rfl (by decide) rfl rfl ?_
            refine pv_aload_n (M := mX7_readSum) 0 dX7_readSum_42 43 rfl rfl rfl ?_
            refine pv_dup (M := mX7_readSum) dX7_readSum_43 44 rfl rfl ?_
            refine iv_get (M := mX7_readSum) (l1 := 0) (l2 := 160) dX7_readSum_44 FX7 3 wd283 (by decide) (tl86 hT) rfl I17 rfl 47 rfl (fun v51 ev51 pv51 qv51 => ?_)
            have wv51 : v51.toInt = (m15 86 3).toInt := congrArg Int32.toInt ev51
            refine pv_iconst (M := mX7_readSum) (v := 1) dX7_readSum_47 48 rfl (by decide) ?_
            refine iv_iadd (M := mX7_readSum) (X := v51.toInt) (Y := 1) dX7_readSum_48 49 rfl rfl (by decide) (by omega) (by omega) (fun v52 ev52 => ?_)
            refine iv_put (M := mX7_readSum) (l1 := 0) (l2 := 160) dX7_readSum_49 FX7 3 wd283 (by decide) rfl (tl86 hT) rfl rfl rfl I17 rfl (by omega) (by omega) 52 rfl (fun m53 e56 I54 => ?_)
            have K55 := K18.set e56 (by first | rfl | decide)
            have w57 : (m53 86 3).toInt = v52.toInt := by rw [e56, up2_eq]
            have w58 : (m53 86 2).toInt = (m15 86 2).toInt := by rw [e56, up2_ne (by omega)]
            have w59 : (m53 86 4).toInt = (m15 86 4).toInt := by rw [e56, up2_ne (by omega)]
            have w60 : (m53 lb 7).toInt = (m15 lb 7).toInt := by rw [e56, up2_ne (by omega)]
            have w61 : (m53 lb 2).toInt = (m15 lb 2).toInt := by rw [e56, up2_ne (by omega)]
            have kt52 : tC m53 = tC m := tC_fz zR2 K55
            have kp52 : (m53 86 3).toInt = (m15 86 3).toInt + 1 := by omega
            have ks52 : SAML lb m15 m53 := SAML.set zR2 e56
            have kl52 : (m53 lb 2).toInt = (m15 lb 2).toInt := congrArg Int32.toInt ks52.1
            refine pv_aload_n (M := mX7_readSum) 0 dX7_readSum_52 53 rfl rfl rfl ?_
            refine pv_iload_n (M := mX7_readSum) 1 dX7_readSum_53 54 rfl rfl rfl ?_
            have z66 : (0 : Int32).toInt = 0 := by decide
            refine pv_callv (M := mX7_readSum) (as := [.int 0]) (st := []) (kc2 := 0) (ks2 := 0) dX7_readSum_54 wd543 YX7_readTerm ⟨wd545, wd5⟩ (mk_get (tl86 hT)) rfl rfl (s_X7_readTerm_v0z g hT I54 R (by first | omega | assumption | exact (iv_rng _).2 | exact (iv_rng _).1 | decide) (TBC_eq hp1 kt52) (by first | omega | assumption | exact (iv_rng _).2 | exact (iv_rng _).1 | decide)) rfl rfl (Nat.le_of_ble_eq_true rfl) (by decide) rfl rfl 57 rfl (fun rv h1 q67 => ?_)
            obtain ⟨m68, n69, v72, rfl, rfl, I70, K71, pv72, qv72, rv72⟩ := q67
            replace rv72 : (m53 86 3).toInt ≤ (m68 86 3).toInt ∧ (m68 86 3).toInt ≤ (m68 86 2).toInt ∧ (m68 86 2).toInt = (m53 86 2).toInt ∧ ((v72.toInt = 0 ∨ (m53 86 3).toInt + 1 ≤ (m68 86 3).toInt) ∧ TRX (SU (tC m53) 6 (m53 86 3).toInt) (LSu (tC m53) 6) (fun a => isT (tC m53 a) = false) v72.toInt (m68 86 3).toInt (m68 86 4).toInt) ∧ (m68 lb 7).toInt = (m53 lb 7).toInt ∧ IFZ v72.toInt (TMZ (tC m53) 6 lb m53 m68 (m53 86 3).toInt (m68 86 3).toInt) := by have q_ := rv72; (try rw [z66] at q_); exact q_
            have K71c := K71
            have K71 := K55.trans (K71.sub (fun _ _ q => q))
            show PV _ _ _ _ _ _ _ 57 [.ref 86, .int 0, .int y14, .int v49] [.int v72] _
            have k57 := rv72.2.2.2.1.2
            have k57p := rv72.2.2.2.1.1
            rw [kt52, kp52] at k57
            have k57z0 := rv72.2.2.2.2.2
            rw [kt52, kp52] at k57z0
            refine pv_if_ne (M := mX7_readSum) (tgt := 62) dX7_readSum_57 60 rfl (by decide) (fun c78 => ?_) (fun c78 => ?_)
            · have c78 := iv_ne (X := v72.toInt) (Y := 0) c78 rfl (by decide)
              have kT6 := TRX_ok k57 (by omega)
              have k57z := IFZ.get k57z0 (by omega)
              have k57b := TMZ_b k57z
              refine pv_aload_n (M := mX7_readSum) 0 dX7_readSum_62 63 rfl rfl rfl ?_
              refine mv_get (M := mX7_readSum) (v := .ref lb) dX7_readSum_63 FX7 1 wd281 (by decide) (tl86 hT) rfl R.2.2.2.1 66 rfl ?_
              refine pv_iload_n (M := mX7_readSum) 3 dX7_readSum_66 67 rfl rfl rfl ?_
              refine pv_iconst (M := mX7_readSum) (v := 0) dX7_readSum_67 68 rfl (by decide) ?_
              have z82 : (0 : Int32).toInt = 0 := by decide
              refine pv_callv (M := mX7_readSum) (as := [.int v49, .int 0]) (st := []) (kc2 := 0) (ks2 := 0) dX7_readSum_68 wd567 YX6_emit ⟨wd568, wd569⟩ (mk_get R.2.2.2.2.2.2.1) rfl rfl (s_X6_emit_vz g hT I70 lb R.2.2.2.2.2 v49 0 (by decide) (by decide)) rfl rfl (Nat.le_of_ble_eq_true rfl) (by decide) rfl rfl 71 rfl (fun rv h1 q83 => ?_)
              obtain ⟨m84, n85, rfl, rfl, I86, K87, rm84⟩ := q83
              replace rm84 : (m84 lb 7).toInt = (m68 lb 7).toInt ∧ ((m68 lb 2).toInt < 160 → EMT lb m68 m84 v49.toInt (0 : Int32)) := by have q_ := rm84; (try rw [z82] at q_); exact q_
              have K87c := K87
              have w88 : (m84 86 3).toInt = (m68 86 3).toInt := congrArg Int32.toInt (K87 86 3 (wY_out (by omega) (by omega) (by omega)))
              have w89 : (m84 86 2).toInt = (m68 86 2).toInt := congrArg Int32.toInt (K87 86 2 (wY_out (by omega) (by omega) (by omega)))
              have w90 : (m84 86 4).toInt = (m68 86 4).toInt := congrArg Int32.toInt (K87 86 4 (wY_out (by omega) (by omega) (by omega)))
              have K87 := K71.trans (K87.sub (by first | exact wZ_wY | exact wZ_86))
              show PV _ _ _ _ _ _ _ 71 [.ref 86, .int 0, .int y14, .int v49] [] _
              have k71 := rm84.2 (by omega)
              refine iv_inc (M := mX7_readSum) (C := 1) dX7_readSum_71 74 rfl rfl (by decide) rfl rfl (by decide) (by omega) (by omega) (fun v92 ev92 => ?_)
              show PV _ _ _ _ _ _ _ 74 [.ref 86, .int 0, .int v92, .int v49] [] _
              refine pv_goto (M := mX7_readSum) (tgt := 12) dX7_readSum_74 (by decide) ?_
              refine pv_fg (lo2 := [.ref 86, .int 0, .int v92, pv_U]) ⟨Or.inr rfl, ⟨Or.inr rfl, ⟨Or.inr rfl, ⟨Or.inl rfl, trivial⟩⟩⟩⟩ ?_
              have kb3 : (m84 86 3).toInt = (m68 86 3).toInt := by omega
              have kbs : SU (tC m) 6 (m 86 3).toInt = LSu (tC m) 6 (m84 86 3).toInt := by rw [kgs, LSu_su kTX (by omega) kS, kT6.1]; congr 1; omega
              have kbt : isT (tC m (m84 86 3).toInt) = false := by rw [kb3]; exact kT6.2
              have kbz : SMZ (tC m) 6 lb m m84 (m 86 3).toInt (m84 86 3).toInt := by rw [kb3]; exact SMZ_s kgz kTX (by omega) kS kgt ks52 k57z k71 (by omega) (by unfold isO; omega) kT6.2
              exact ih21 v92 m84 n85 (by first | omega | assumption | exact (iv_rng _).2 | exact (iv_rng _).1 | decide) (by first | omega | assumption | exact (iv_rng _).2 | exact (iv_rng _).1 | decide) (by first | omega | assumption | (show (m84 86 3).toInt ≤ (m84 86 2).toInt; omega) | decide) (by first | omega | assumption | (show (m84 86 2).toInt = (m 86 2).toInt; omega) | decide) (by first | omega | assumption | (show (m84 lb 7).toInt = (m lb 7).toInt; omega) | decide) (by first | omega | assumption | (show (m 86 3).toInt + 1 + 2 * v92.toInt ≤ (m84 86 3).toInt; omega) | decide) kbs kbt kbz I86 K87 (by omega)
            · have c78 := iv_eq (X := v72.toInt) (Y := 0) c78 rfl (by decide)
              refine pv_iconst (M := mX7_readSum) (v := 0) dX7_readSum_60 61 rfl (by decide) ?_
              have z97 : (0 : Int32).toInt = 0 := by decide
              exact pv_iret (M := mX7_readSum) dX7_readSum_61 rfl rfl ⟨_, _, _, rfl, rfl, I70, K71, by decide, by decide, ⟨by omega, by omega, by omega, Or.inr ⟨by decide, by rw [kgs, LSu_su kTX (by omega) kS]; exact TRX_fl k57 (by omega)⟩, by omega, IFZ.no (by first | decide | omega)⟩⟩
          · have c46 := iv_ne (X := v42.toInt) (Y := 43) c46 rfl (by decide)
            refine pv_aload_n (M := mX7_readSum) 0 dX7_readSum_28 29 rfl rfl rfl ?_
            refine pv_callv (M := mX7_readSum) (as := []) (st := []) (kc2 := 0) (ks2 := 0) dX7_readSum_29 wd527 YX7_peek ⟨wd529, wd2⟩ (mk_get (tl86 hT)) rfl rfl (s_X7_peek_vx g hT I17 R) rfl rfl (Nat.le_of_ble_eq_true rfl) (by decide) rfl rfl 32 rfl (fun rv h1 q98 => ?_)
            obtain ⟨v99, rfl, rfl, pv99, qv99, rv99⟩ := q98
            replace rv99 : v99.toInt = tC m15 (m15 86 3).toInt ∧ (v99.toInt = -1 ∨ (m15 86 3).toInt < (m15 86 2).toInt) := rv99
            show PV _ _ _ _ _ _ _ 32 [.ref 86, .int 0, .int y14, pv_U] [.int v99] _
            have k32 := rv99.1
            have k32b := rv99.2
            rw [kt12] at k32
            refine pv_bipush (M := mX7_readSum) (v := 45) dX7_readSum_32 34 rfl (by decide) ?_
            refine pv_icmp_ne (M := mX7_readSum) (tgt := 77) dX7_readSum_34 37 rfl (by decide) (fun c103 => ?_) (fun c103 => ?_)
            · have c103 := iv_ne (X := v99.toInt) (Y := 45) c103 rfl (by decide)
              refine pv_iconst (M := mX7_readSum) (v := 1) dX7_readSum_77 78 rfl (by decide) ?_
              have z104 : (1 : Int32).toInt = 1 := by decide
              exact pv_iret (M := mX7_readSum) dX7_readSum_78 rfl rfl ⟨_, _, _, rfl, rfl, I17, K18, by decide, by decide, ⟨by omega, by omega, by omega, (by first | exact Or.inl ⟨by decide, by rw [kgs]; exact LSu_no (isS_n kgt (by omega) (by omega))⟩ | (exfalso; omega)), by omega, (by first | exact IFZ.is (SMZ_e kgz (isS_n kgt (by omega) (by omega))) | exact IFZ.no (by omega))⟩⟩
            · have c103 := iv_eq (X := v99.toInt) (Y := 45) c103 rfl (by decide)
              have kS : isS (tC m (m15 86 3).toInt) = true := isS_y (by omega)
              refine pv_aload_n (M := mX7_readSum) 0 dX7_readSum_37 38 rfl rfl rfl ?_
              refine pv_callv (M := mX7_readSum) (as := []) (st := []) (kc2 := 0) (ks2 := 0) dX7_readSum_38 wd527 YX7_peek ⟨wd529, wd2⟩ (mk_get (tl86 hT)) rfl rfl (s_X7_peek_vx g hT I17 R) rfl rfl (Nat.le_of_ble_eq_true rfl) (by decide) rfl rfl 41 rfl (fun rv h1 q106 => ?_)
              obtain ⟨v107, rfl, rfl, pv107, qv107, rv107⟩ := q106
              replace rv107 : v107.toInt = tC m15 (m15 86 3).toInt ∧ (v107.toInt = -1 ∨ (m15 86 3).toInt < (m15 86 2).toInt) := rv107
              show PV _ _ _ _ _ _ _ 41 [.ref 86, .int 0, .int y14, pv_U] [.int v107] _
              have k41 : v107.toInt = tC m (m15 86 3).toInt := by rw [← kt12]; exact rv107.1
              refine pv_istore_n (M := mX7_readSum) 3 (lo2 := [.ref 86, .int 0, .int y14, .int v107]) dX7_readSum_41 42 rfl rfl (by decide) rfl rfl ?_
              refine pv_aload_n (M := mX7_readSum) 0 dX7_readSum_42 43 rfl rfl rfl ?_
              refine pv_dup (M := mX7_readSum) dX7_readSum_43 44 rfl rfl ?_
              refine iv_get (M := mX7_readSum) (l1 := 0) (l2 := 160) dX7_readSum_44 FX7 3 wd283 (by decide) (tl86 hT) rfl I17 rfl 47 rfl (fun v109 ev109 pv109 qv109 => ?_)
              have wv109 : v109.toInt = (m15 86 3).toInt := congrArg Int32.toInt ev109
              refine pv_iconst (M := mX7_readSum) (v := 1) dX7_readSum_47 48 rfl (by decide) ?_
              refine iv_iadd (M := mX7_readSum) (X := v109.toInt) (Y := 1) dX7_readSum_48 49 rfl rfl (by decide) (by omega) (by omega) (fun v110 ev110 => ?_)
              refine iv_put (M := mX7_readSum) (l1 := 0) (l2 := 160) dX7_readSum_49 FX7 3 wd283 (by decide) rfl (tl86 hT) rfl rfl rfl I17 rfl (by omega) (by omega) 52 rfl (fun m111 e114 I112 => ?_)
              have K113 := K18.set e114 (by first | rfl | decide)
              have w115 : (m111 86 3).toInt = v110.toInt := by rw [e114, up2_eq]
              have w116 : (m111 86 2).toInt = (m15 86 2).toInt := by rw [e114, up2_ne (by omega)]
              have w117 : (m111 86 4).toInt = (m15 86 4).toInt := by rw [e114, up2_ne (by omega)]
              have w118 : (m111 lb 7).toInt = (m15 lb 7).toInt := by rw [e114, up2_ne (by omega)]
              have w119 : (m111 lb 2).toInt = (m15 lb 2).toInt := by rw [e114, up2_ne (by omega)]
              have kt52 : tC m111 = tC m := tC_fz zR2 K113
              have kp52 : (m111 86 3).toInt = (m15 86 3).toInt + 1 := by omega
              have ks52 : SAML lb m15 m111 := SAML.set zR2 e114
              have kl52 : (m111 lb 2).toInt = (m15 lb 2).toInt := congrArg Int32.toInt ks52.1
              refine pv_aload_n (M := mX7_readSum) 0 dX7_readSum_52 53 rfl rfl rfl ?_
              refine pv_iload_n (M := mX7_readSum) 1 dX7_readSum_53 54 rfl rfl rfl ?_
              have z124 : (0 : Int32).toInt = 0 := by decide
              refine pv_callv (M := mX7_readSum) (as := [.int 0]) (st := []) (kc2 := 0) (ks2 := 0) dX7_readSum_54 wd543 YX7_readTerm ⟨wd545, wd5⟩ (mk_get (tl86 hT)) rfl rfl (s_X7_readTerm_v0z g hT I112 R (by first | omega | assumption | exact (iv_rng _).2 | exact (iv_rng _).1 | decide) (TBC_eq hp1 kt52) (by first | omega | assumption | exact (iv_rng _).2 | exact (iv_rng _).1 | decide)) rfl rfl (Nat.le_of_ble_eq_true rfl) (by decide) rfl rfl 57 rfl (fun rv h1 q125 => ?_)
              obtain ⟨m126, n127, v130, rfl, rfl, I128, K129, pv130, qv130, rv130⟩ := q125
              replace rv130 : (m111 86 3).toInt ≤ (m126 86 3).toInt ∧ (m126 86 3).toInt ≤ (m126 86 2).toInt ∧ (m126 86 2).toInt = (m111 86 2).toInt ∧ ((v130.toInt = 0 ∨ (m111 86 3).toInt + 1 ≤ (m126 86 3).toInt) ∧ TRX (SU (tC m111) 6 (m111 86 3).toInt) (LSu (tC m111) 6) (fun a => isT (tC m111 a) = false) v130.toInt (m126 86 3).toInt (m126 86 4).toInt) ∧ (m126 lb 7).toInt = (m111 lb 7).toInt ∧ IFZ v130.toInt (TMZ (tC m111) 6 lb m111 m126 (m111 86 3).toInt (m126 86 3).toInt) := by have q_ := rv130; (try rw [z124] at q_); exact q_
              have K129c := K129
              have K129 := K113.trans (K129.sub (fun _ _ q => q))
              show PV _ _ _ _ _ _ _ 57 [.ref 86, .int 0, .int y14, .int v107] [.int v130] _
              have k57 := rv130.2.2.2.1.2
              have k57p := rv130.2.2.2.1.1
              rw [kt52, kp52] at k57
              have k57z0 := rv130.2.2.2.2.2
              rw [kt52, kp52] at k57z0
              refine pv_if_ne (M := mX7_readSum) (tgt := 62) dX7_readSum_57 60 rfl (by decide) (fun c136 => ?_) (fun c136 => ?_)
              · have c136 := iv_ne (X := v130.toInt) (Y := 0) c136 rfl (by decide)
                have kT6 := TRX_ok k57 (by omega)
                have k57z := IFZ.get k57z0 (by omega)
                have k57b := TMZ_b k57z
                refine pv_aload_n (M := mX7_readSum) 0 dX7_readSum_62 63 rfl rfl rfl ?_
                refine mv_get (M := mX7_readSum) (v := .ref lb) dX7_readSum_63 FX7 1 wd281 (by decide) (tl86 hT) rfl R.2.2.2.1 66 rfl ?_
                refine pv_iload_n (M := mX7_readSum) 3 dX7_readSum_66 67 rfl rfl rfl ?_
                refine pv_iconst (M := mX7_readSum) (v := 0) dX7_readSum_67 68 rfl (by decide) ?_
                have z140 : (0 : Int32).toInt = 0 := by decide
                refine pv_callv (M := mX7_readSum) (as := [.int v107, .int 0]) (st := []) (kc2 := 0) (ks2 := 0) dX7_readSum_68 wd567 YX6_emit ⟨wd568, wd569⟩ (mk_get R.2.2.2.2.2.2.1) rfl rfl (s_X6_emit_vz g hT I128 lb R.2.2.2.2.2 v107 0 (by decide) (by decide)) rfl rfl (Nat.le_of_ble_eq_true rfl) (by decide) rfl rfl 71 rfl (fun rv h1 q141 => ?_)
                obtain ⟨m142, n143, rfl, rfl, I144, K145, rm142⟩ := q141
                replace rm142 : (m142 lb 7).toInt = (m126 lb 7).toInt ∧ ((m126 lb 2).toInt < 160 → EMT lb m126 m142 v107.toInt (0 : Int32)) := by have q_ := rm142; (try rw [z140] at q_); exact q_
                have K145c := K145
                have w146 : (m142 86 3).toInt = (m126 86 3).toInt := congrArg Int32.toInt (K145 86 3 (wY_out (by omega) (by omega) (by omega)))
                have w147 : (m142 86 2).toInt = (m126 86 2).toInt := congrArg Int32.toInt (K145 86 2 (wY_out (by omega) (by omega) (by omega)))
                have w148 : (m142 86 4).toInt = (m126 86 4).toInt := congrArg Int32.toInt (K145 86 4 (wY_out (by omega) (by omega) (by omega)))
                have K145 := K129.trans (K145.sub (by first | exact wZ_wY | exact wZ_86))
                show PV _ _ _ _ _ _ _ 71 [.ref 86, .int 0, .int y14, .int v107] [] _
                have k71 := rm142.2 (by omega)
                refine iv_inc (M := mX7_readSum) (C := 1) dX7_readSum_71 74 rfl rfl (by decide) rfl rfl (by decide) (by omega) (by omega) (fun v150 ev150 => ?_)
                show PV _ _ _ _ _ _ _ 74 [.ref 86, .int 0, .int v150, .int v107] [] _
                refine pv_goto (M := mX7_readSum) (tgt := 12) dX7_readSum_74 (by decide) ?_
                refine pv_fg (lo2 := [.ref 86, .int 0, .int v150, pv_U]) ⟨Or.inr rfl, ⟨Or.inr rfl, ⟨Or.inr rfl, ⟨Or.inl rfl, trivial⟩⟩⟩⟩ ?_
                have kb3 : (m142 86 3).toInt = (m126 86 3).toInt := by omega
                have kbs : SU (tC m) 6 (m 86 3).toInt = LSu (tC m) 6 (m142 86 3).toInt := by rw [kgs, LSu_su kTX (by omega) kS, kT6.1]; congr 1; omega
                have kbt : isT (tC m (m142 86 3).toInt) = false := by rw [kb3]; exact kT6.2
                have kbz : SMZ (tC m) 6 lb m m142 (m 86 3).toInt (m142 86 3).toInt := by rw [kb3]; exact SMZ_s kgz kTX (by omega) kS kgt ks52 k57z k71 (by omega) (by unfold isO; omega) kT6.2
                exact ih21 v150 m142 n143 (by first | omega | assumption | exact (iv_rng _).2 | exact (iv_rng _).1 | decide) (by first | omega | assumption | exact (iv_rng _).2 | exact (iv_rng _).1 | decide) (by first | omega | assumption | (show (m142 86 3).toInt ≤ (m142 86 2).toInt; omega) | decide) (by first | omega | assumption | (show (m142 86 2).toInt = (m 86 2).toInt; omega) | decide) (by first | omega | assumption | (show (m142 lb 7).toInt = (m lb 7).toInt; omega) | decide) (by first | omega | assumption | (show (m 86 3).toInt + 1 + 2 * v150.toInt ≤ (m142 86 3).toInt; omega) | decide) kbs kbt kbz I144 K145 (by omega)
              · have c136 := iv_eq (X := v130.toInt) (Y := 0) c136 rfl (by decide)
                refine pv_iconst (M := mX7_readSum) (v := 0) dX7_readSum_60 61 rfl (by decide) ?_
                have z155 : (0 : Int32).toInt = 0 := by decide
                exact pv_iret (M := mX7_readSum) dX7_readSum_61 rfl rfl ⟨_, _, _, rfl, rfl, I128, K129, by decide, by decide, ⟨by omega, by omega, by omega, Or.inr ⟨by decide, by rw [kgs, LSu_su kTX (by omega) kS]; exact TRX_fl k57 (by omega)⟩, by omega, IFZ.no (by first | decide | omega)⟩⟩
    have z156 : (0 : Int32).toInt = 0 := by decide
    exact lp20 (((160 - 0) : Int).toNat + 1) 0 m4 n5 (by first | omega | assumption | exact (iv_rng _).2 | exact (iv_rng _).1 | decide) (by first | omega | assumption | exact (iv_rng _).2 | exact (iv_rng _).1 | decide) (by first | omega | assumption | (show (m4 86 3).toInt ≤ (m4 86 2).toInt; omega) | decide) (by first | omega | assumption | (show (m4 86 2).toInt = (m 86 2).toInt; omega) | decide) (by first | omega | assumption | (show (m4 lb 7).toInt = (m lb 7).toInt; omega) | decide) (by first | omega | assumption | (show (m 86 3).toInt + 1 + 2 * 0 ≤ (m4 86 3).toInt; omega) | decide) (TRX_ok k5 (by omega)).1 (TRX_ok k5 (by omega)).2 (SMZ_0 k5z) I6 K7 (by omega)
  · have c12 := iv_eq (X := v8.toInt) (Y := 0) c12 rfl (by decide)
    refine pv_iconst (M := mX7_readSum) (v := 0) dX7_readSum_8 9 rfl (by decide) ?_
    have z157 : (0 : Int32).toInt = 0 := by decide
    exact pv_iret (M := mX7_readSum) dX7_readSum_9 rfl rfl ⟨_, _, _, rfl, rfl, I6, K7, by decide, by decide, ⟨by omega, by omega, by omega, Or.inr ⟨by decide, TRX_fl k5 (by omega)⟩, by omega, IFZ.no (by first | decide | omega)⟩⟩
