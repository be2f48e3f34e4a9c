set_option maxHeartbeats 2000000 in
set_option maxRecDepth 20000 in
theorem s_X12_laysParent (g : pv_G) {T : List mv_T} {m : Nat → Nat → Int32} {n : Nat → Nat → Int64} {r : Nat → Value} (hT : TX T) (I : IV BB m) (x0 : Int32) (hl0 : 0 ≤ x0.toInt) (hh0 : x0.toInt ≤ 7) : PM g mX12_laysParent yX12_laysParent (sqV T BB (wl [(123, 123, some 40), (149, 149, none)]) r m (fun m' => True)) 1 0 0 [.ref 123, .int x0] (mk T m n r) := by
  have Kp : fr (wl [(123, 123, some 40), (149, 149, none)]) m m := fr.rf
  have z32 : 0 ≤ (m 123 40).toInt ∧ (m 123 40).toInt ≤ 40 := I 123 40
  refine PM.of 1 (lo := [.ref 123, .int x0, pv_U]) rfl (by decide) rfl rfl (Nat.le_of_ble_eq_true rfl) ?_
  refine pv_aload_n (M := mX12_laysParent) 0 dX12_laysParent_0 1 rfl rfl rfl ?_
  refine pv_aload_n (M := mX12_laysParent) 0 dX12_laysParent_1 2 rfl rfl rfl ?_
  refine mv_get (M := mX12_laysParent) (v := .ref 126) dX12_laysParent_2 FX12 7 wd1180 (by decide) (tl123 hT) rfl rfl 5 rfl ?_
  refine pv_iload_n (M := mX12_laysParent) 1 dX12_laysParent_5 6 rfl rfl rfl ?_
  refine iv_iald (M := mX12_laysParent) (X := x0.toInt) (l1 := 0) (l2 := 16) dX12_laysParent_6 (tl126 hT) rfl (by omega) (by omega) I (fun _ => rfl) 7 rfl (fun v1 ev1 pv1 qv1 => ?_)
  refine iv_put (M := mX12_laysParent) (l1 := 0) (l2 := 40) dX12_laysParent_7 FX12 40 wd1213 (by decide) rfl (tl123 hT) rfl rfl rfl I rfl (by omega) (by omega) 10 rfl (fun m2 e5 I3 => ?_)
  have K4 := Kp.set e5 rfl
  have w6 : (m2 123 40).toInt = v1.toInt := by rw [e5, up2_eq]
  refine pv_iconst (M := mX12_laysParent) (v := 0) dX12_laysParent_10 11 rfl (by decide) ?_
  refine pv_istore_n (M := mX12_laysParent) 2 (lo2 := [.ref 123, .int x0, .int 0]) dX12_laysParent_11 12 rfl rfl (by decide) rfl rfl ?_
  have lp13 : ∀ (fuel12 : Nat) (y7 : Int32) (m8 : Nat → Nat → Int32) (n9 : Nat → Nat → Int64), (0 ≤ y7.toInt) → (y7.toInt ≤ 40) → ((m8 123 40).toInt ≤ 16) → IV BB m8 → fr (wl [(123, 123, some 40), (149, 149, none)]) m m8 → ((40 - y7.toInt) : Int).toNat < fuel12 → PV none g mX12_laysParent (sqV T BB (wl [(123, 123, some 40), (149, 149, none)]) r m (fun m' => True)) 1 0 0 12 [.ref 123, .int x0, .int y7] [] (mk T m8 n9 r) := by
    intro fuel12
    induction fuel12 with
    | zero => intro y7 m8 n9 b15 b16 b17 I10 K11 z18; omega
    | succ fuel12 ih14 =>
      intro y7 m8 n9 b15 b16 b17 I10 K11 z18
      have z19 : 0 ≤ (m8 123 40).toInt ∧ (m8 123 40).toInt ≤ 40 := I10 123 40
      refine pv_iload_n (M := mX12_laysParent) 2 dX12_laysParent_12 13 rfl rfl rfl ?_
      refine pv_aload_n (M := mX12_laysParent) 0 dX12_laysParent_13 14 rfl rfl rfl ?_
      refine iv_get (M := mX12_laysParent) (l1 := 0) (l2 := 40) dX12_laysParent_14 FX12 40 wd1213 (by decide) (tl123 hT) rfl I10 rfl 17 rfl (fun v20 ev20 pv20 qv20 => ?_)
      have wv20 : v20.toInt = (m8 123 40).toInt := congrArg Int32.toInt ev20
      refine pv_icmp_ge (M := mX12_laysParent) (tgt := 43) dX12_laysParent_17 20 rfl (by decide) (fun c21 => ?_) (fun c21 => ?_)
      · have c21 := iv_le (X := v20.toInt) (Y := y7.toInt) c21 rfl rfl
        exact pv_vret (M := mX12_laysParent) dX12_laysParent_43 rfl ⟨_, _, rfl, rfl, I10, K11, trivial⟩
      · have c21 := iv_nle (X := v20.toInt) (Y := y7.toInt) c21 rfl rfl
        refine pv_aload_n (M := mX12_laysParent) 0 dX12_laysParent_20 21 rfl rfl rfl ?_
        refine mv_get (M := mX12_laysParent) (v := .ref 149) dX12_laysParent_21 FX12 42 wd1215 (by decide) (tl123 hT) rfl rfl 24 rfl ?_
        refine pv_iload_n (M := mX12_laysParent) 2 dX12_laysParent_24 25 rfl rfl rfl ?_
        refine pv_aload_n (M := mX12_laysParent) 0 dX12_laysParent_25 26 rfl rfl rfl ?_
        refine mv_get (M := mX12_laysParent) (v := .ref 127) dX12_laysParent_26 FX12 8 wd1181 (by decide) (tl123 hT) rfl rfl 29 rfl ?_
        refine pv_bipush (M := mX12_laysParent) (v := 16) dX12_laysParent_29 31 rfl (by decide) ?_
        refine pv_iload_n (M := mX12_laysParent) 1 dX12_laysParent_31 32 rfl rfl rfl ?_
        refine iv_imul (M := mX12_laysParent) (X := 16) (Y := x0.toInt) dX12_laysParent_32 33 rfl (by decide) rfl (by omega) (by omega) (fun v22 ev22 => ?_)
        refine pv_iload_n (M := mX12_laysParent) 2 dX12_laysParent_33 34 rfl rfl rfl ?_
        refine iv_iadd (M := mX12_laysParent) (X := v22.toInt) (Y := y7.toInt) dX12_laysParent_34 35 rfl rfl rfl (by omega) (by omega) (fun v23 ev23 => ?_)
        refine iv_iald (M := mX12_laysParent) (X := v23.toInt) (l1 := 0) (l2 := 25) dX12_laysParent_35 (tl127 hT) rfl (by omega) (by omega) I10 (fun _ => rfl) 36 rfl (fun v24 ev24 pv24 qv24 => ?_)
        refine iv_iast (M := mX12_laysParent) (X := y7.toInt) (l1 := 0) (l2 := 25) dX12_laysParent_36 (tl149 hT) rfl (by omega) (by omega) I10 (fun _ => rfl) (by omega) (by omega) 37 rfl (fun m25 e28 I26 => ?_)
        have K27 := K11.set e28 rfl
        have w29 : (m25 123 40).toInt = (m8 123 40).toInt := by rw [e28, up2_ne (by omega)]
        refine iv_inc (M := mX12_laysParent) (C := 1) dX12_laysParent_37 40 rfl rfl (by decide) rfl rfl (by decide) (by omega) (by omega) (fun v30 ev30 => ?_)
        show PV _ _ _ _ _ _ _ 40 [.ref 123, .int x0, .int v30] [] _
        refine pv_goto (M := mX12_laysParent) (tgt := 12) dX12_laysParent_40 (by decide) ?_
        exact ih14 v30 m25 n9 (by first | omega | assumption | exact (iv_rng _).2 | exact (iv_rng _).1 | decide) (by first | omega | assumption | exact (iv_rng _).2 | exact (iv_rng _).1 | decide) (by first | omega | assumption | (show (m25 123 40).toInt ≤ 16; omega) | decide) I26 K27 (by omega)
  have z31 : (0 : Int32).toInt = 0 := by decide
  exact lp13 (((40 - 0) : Int).toNat + 1) 0 m2 n (by first | omega | assumption | exact (iv_rng _).2 | exact (iv_rng _).1 | decide) (by first | omega | assumption | exact (iv_rng _).2 | exact (iv_rng _).1 | decide) (by first | omega | assumption | (show (m2 123 40).toInt ≤ 16; omega) | decide) I3 K4 (by omega)

set_option maxHeartbeats 2000000 in
set_option maxRecDepth 20000 in
theorem s_X12_laysDeed (g : pv_G) {T : List mv_T} {m : Nat → Nat → Int32} {n : Nat → Nat → Int64} {r : Nat → Value} (hT : TX T) (I : IV BB m) (x0 : Int32) (hl0 : 0 ≤ x0.toInt) (hh0 : x0.toInt ≤ 7) : PM g mX12_laysDeed yX12_laysDeed (sqV T BB (wl [(123, 123, some 41), (150, 150, none)]) r m (fun m' => True)) 1 0 0 [.ref 123, .int x0] (mk T m n r) := by
  have Kp : fr (wl [(123, 123, some 41), (150, 150, none)]) m m := fr.rf
  refine PM.of 1 (lo := [.ref 123, .int x0, pv_U]) rfl (by decide) rfl rfl (Nat.le_of_ble_eq_true rfl) ?_
  refine pv_aload_n (M := mX12_laysDeed) 0 dX12_laysDeed_0 1 rfl rfl rfl ?_
  refine pv_aload_n (M := mX12_laysDeed) 0 dX12_laysDeed_1 2 rfl rfl rfl ?_
  refine mv_get (M := mX12_laysDeed) (v := .ref 126) dX12_laysDeed_2 FX12 7 wd1180 (by decide) (tl123 hT) rfl rfl 5 rfl ?_
  refine pv_iload_n (M := mX12_laysDeed) 1 dX12_laysDeed_5 6 rfl rfl rfl ?_
  refine iv_iald (M := mX12_laysDeed) (X := x0.toInt) (l1 := 0) (l2 := 16) dX12_laysDeed_6 (tl126 hT) rfl (by omega) (by omega) I (fun _ => rfl) 7 rfl (fun v1 ev1 pv1 qv1 => ?_)
  refine iv_put (M := mX12_laysDeed) (l1 := 0) (l2 := 16) dX12_laysDeed_7 FX12 41 wd1214 (by decide) rfl (tl123 hT) rfl rfl rfl I rfl (by omega) (by omega) 10 rfl (fun m2 e5 I3 => ?_)
  have K4 := Kp.set e5 rfl
  refine pv_iconst (M := mX12_laysDeed) (v := 0) dX12_laysDeed_10 11 rfl (by decide) ?_
  refine pv_istore_n (M := mX12_laysDeed) 2 (lo2 := [.ref 123, .int x0, .int 0]) dX12_laysDeed_11 12 rfl rfl (by decide) rfl rfl ?_
  have lp12 : ∀ (fuel11 : Nat) (y6 : Int32) (m7 : Nat → Nat → Int32) (n8 : Nat → Nat → Int64), (0 ≤ y6.toInt) → (y6.toInt ≤ 16) → IV BB m7 → fr (wl [(123, 123, some 41), (150, 150, none)]) m m7 → ((16 - y6.toInt) : Int).toNat < fuel11 → PV none g mX12_laysDeed (sqV T BB (wl [(123, 123, some 41), (150, 150, none)]) r m (fun m' => True)) 1 0 0 12 [.ref 123, .int x0, .int y6] [] (mk T m7 n8 r) := by
    intro fuel11
    induction fuel11 with
    | zero => intro y6 m7 n8 b14 b15 I9 K10 z16; omega
    | succ fuel11 ih13 =>
      intro y6 m7 n8 b14 b15 I9 K10 z16
      refine pv_iload_n (M := mX12_laysDeed) 2 dX12_laysDeed_12 13 rfl rfl rfl ?_
      refine pv_aload_n (M := mX12_laysDeed) 0 dX12_laysDeed_13 14 rfl rfl rfl ?_
      refine iv_get (M := mX12_laysDeed) (l1 := 0) (l2 := 16) dX12_laysDeed_14 FX12 41 wd1214 (by decide) (tl123 hT) rfl I9 rfl 17 rfl (fun v17 ev17 pv17 qv17 => ?_)
      refine pv_icmp_ge (M := mX12_laysDeed) (tgt := 43) dX12_laysDeed_17 20 rfl (by decide) (fun c18 => ?_) (fun c18 => ?_)
      · have c18 := iv_le (X := v17.toInt) (Y := y6.toInt) c18 rfl rfl
        exact pv_vret (M := mX12_laysDeed) dX12_laysDeed_43 rfl ⟨_, _, rfl, rfl, I9, K10, trivial⟩
      · have c18 := iv_nle (X := v17.toInt) (Y := y6.toInt) c18 rfl rfl
        refine pv_aload_n (M := mX12_laysDeed) 0 dX12_laysDeed_20 21 rfl rfl rfl ?_
        refine mv_get (M := mX12_laysDeed) (v := .ref 150) dX12_laysDeed_21 FX12 43 wd1216 (by decide) (tl123 hT) rfl rfl 24 rfl ?_
        refine pv_iload_n (M := mX12_laysDeed) 2 dX12_laysDeed_24 25 rfl rfl rfl ?_
        refine pv_aload_n (M := mX12_laysDeed) 0 dX12_laysDeed_25 26 rfl rfl rfl ?_
        refine mv_get (M := mX12_laysDeed) (v := .ref 127) dX12_laysDeed_26 FX12 8 wd1181 (by decide) (tl123 hT) rfl rfl 29 rfl ?_
        refine pv_bipush (M := mX12_laysDeed) (v := 16) dX12_laysDeed_29 31 rfl (by decide) ?_
        refine pv_iload_n (M := mX12_laysDeed) 1 dX12_laysDeed_31 32 rfl rfl rfl ?_
        refine iv_imul (M := mX12_laysDeed) (X := 16) (Y := x0.toInt) dX12_laysDeed_32 33 rfl (by decide) rfl (by omega) (by omega) (fun v19 ev19 => ?_)
        refine pv_iload_n (M := mX12_laysDeed) 2 dX12_laysDeed_33 34 rfl rfl rfl ?_
        refine iv_iadd (M := mX12_laysDeed) (X := v19.toInt) (Y := y6.toInt) dX12_laysDeed_34 35 rfl rfl rfl (by omega) (by omega) (fun v20 ev20 => ?_)
        refine iv_iald (M := mX12_laysDeed) (X := v20.toInt) (l1 := 0) (l2 := 25) dX12_laysDeed_35 (tl127 hT) rfl (by omega) (by omega) I9 (fun _ => rfl) 36 rfl (fun v21 ev21 pv21 qv21 => ?_)
        refine iv_iast (M := mX12_laysDeed) (X := y6.toInt) (l1 := 0) (l2 := 25) dX12_laysDeed_36 (tl150 hT) rfl (by omega) (by omega) I9 (fun _ => rfl) (by omega) (by omega) 37 rfl (fun m22 e25 I23 => ?_)
        have K24 := K10.set e25 rfl
        refine iv_inc (M := mX12_laysDeed) (C := 1) dX12_laysDeed_37 40 rfl rfl (by decide) rfl rfl (by decide) (by omega) (by omega) (fun v26 ev26 => ?_)
        show PV _ _ _ _ _ _ _ 40 [.ref 123, .int x0, .int v26] [] _
        refine pv_goto (M := mX12_laysDeed) (tgt := 12) dX12_laysDeed_40 (by decide) ?_
        exact ih13 v26 m22 n8 (by first | omega | assumption | exact (iv_rng _).2 | exact (iv_rng _).1 | decide) (by first | omega | assumption | exact (iv_rng _).2 | exact (iv_rng _).1 | decide) I23 K24 (by omega)
  have z27 : (0 : Int32).toInt = 0 := by decide
  exact lp12 (((16 - 0) : Int).toNat + 1) 0 m2 n (by first | omega | assumption | exact (iv_rng _).2 | exact (iv_rng _).1 | decide) (by first | omega | assumption | exact (iv_rng _).2 | exact (iv_rng _).1 | decide) I3 K4 (by omega)

set_option maxHeartbeats 2000000 in
set_option maxRecDepth 20000 in
theorem s_X12_comesWithout (g : pv_G) {T : List mv_T} {m : Nat → Nat → Int32} {n : Nat → Nat → Int64} {r : Nat → Value} (hT : TX T) (I : IV BB m) (x0 : Int32) : PM g mX12_comesWithout yX12_comesWithout (sqP (mk T m n r) 0 1 (fun v => True)) 1 0 0 [.ref 123, .int x0] (mk T m n r) := by
  have Kp : fr (wl []) m m := fr.rf
  refine PM.of 2 (lo := [.ref 123, .int x0, pv_U, pv_U]) rfl (by decide) rfl rfl (Nat.le_of_ble_eq_true rfl) ?_
  refine pv_iconst (M := mX12_comesWithout) (v := 0) dX12_comesWithout_0 1 rfl (by decide) ?_
  refine pv_istore_n (M := mX12_comesWithout) 2 (lo2 := [.ref 123, .int x0, .int 0, pv_U]) dX12_comesWithout_1 2 rfl rfl (by decide) rfl rfl ?_
  refine pv_iconst (M := mX12_comesWithout) (v := 0) dX12_comesWithout_2 3 rfl (by decide) ?_
  refine pv_istore_n (M := mX12_comesWithout) 3 (lo2 := [.ref 123, .int x0, .int 0, .int 0]) dX12_comesWithout_3 4 rfl rfl (by decide) rfl rfl ?_
  have lp8 : ∀ (fuel7 : Nat) (y1 : Int32) (y2 : Int32), (0 ≤ y1.toInt) → (y1.toInt ≤ 16) → (0 ≤ y2.toInt) → (y2.toInt ≤ 40) → ((40 - y2.toInt) : Int).toNat < fuel7 → PV none g mX12_comesWithout (sqP (mk T m n r) 0 1 (fun v => True)) 1 0 0 4 [.ref 123, .int x0, .int y1, .int y2] [] (mk T m n r) := by
    intro fuel7
    induction fuel7 with
    | zero => intro y1 y2 b10 b11 b12 b13 z14; omega
    | succ fuel7 ih9 =>
      intro y1 y2 b10 b11 b12 b13 z14
      refine pv_iload_n (M := mX12_comesWithout) 3 dX12_comesWithout_4 5 rfl rfl rfl ?_
      refine pv_aload_n (M := mX12_comesWithout) 0 dX12_comesWithout_5 6 rfl rfl rfl ?_
      refine iv_get (M := mX12_comesWithout) (l1 := 0) (l2 := 40) dX12_comesWithout_6 FX12 40 wd1213 (by decide) (tl123 hT) rfl I rfl 9 rfl (fun v15 ev15 pv15 qv15 => ?_)
      refine pv_icmp_ge (M := mX12_comesWithout) (tgt := 50) dX12_comesWithout_9 12 rfl (by decide) (fun c16 => ?_) (fun c16 => ?_)
      · have c16 := iv_le (X := v15.toInt) (Y := y2.toInt) c16 rfl rfl
        refine pv_iload_n (M := mX12_comesWithout) 2 dX12_comesWithout_50 51 rfl rfl rfl ?_
        refine pv_aload_n (M := mX12_comesWithout) 0 dX12_comesWithout_51 52 rfl rfl rfl ?_
        refine iv_get (M := mX12_comesWithout) (l1 := 0) (l2 := 16) dX12_comesWithout_52 FX12 41 wd1214 (by decide) (tl123 hT) rfl I rfl 55 rfl (fun v17 ev17 pv17 qv17 => ?_)
        refine pv_icmp_ne (M := mX12_comesWithout) (tgt := 62) dX12_comesWithout_55 58 rfl (by decide) (fun c18 => ?_) (fun c18 => ?_)
        · have c18 := iv_ne (X := y1.toInt) (Y := v17.toInt) c18 rfl rfl
          refine pv_iconst (M := mX12_comesWithout) (v := 0) dX12_comesWithout_62 63 rfl (by decide) ?_
          exact pv_iret (M := mX12_comesWithout) dX12_comesWithout_63 rfl rfl ⟨_, rfl, rfl, by decide, by decide, trivial⟩
        · have c18 := iv_eq (X := y1.toInt) (Y := v17.toInt) c18 rfl rfl
          refine pv_iconst (M := mX12_comesWithout) (v := 1) dX12_comesWithout_58 59 rfl (by decide) ?_
          refine pv_goto (M := mX12_comesWithout) (tgt := 63) dX12_comesWithout_59 (by decide) ?_
          exact pv_iret (M := mX12_comesWithout) dX12_comesWithout_63 rfl rfl ⟨_, rfl, rfl, by decide, by decide, trivial⟩
      · have c16 := iv_nle (X := v15.toInt) (Y := y2.toInt) c16 rfl rfl
        refine pv_iload_n (M := mX12_comesWithout) 2 dX12_comesWithout_12 13 rfl rfl rfl ?_
        refine pv_aload_n (M := mX12_comesWithout) 0 dX12_comesWithout_13 14 rfl rfl rfl ?_
        refine iv_get (M := mX12_comesWithout) (l1 := 0) (l2 := 16) dX12_comesWithout_14 FX12 41 wd1214 (by decide) (tl123 hT) rfl I rfl 17 rfl (fun v19 ev19 pv19 qv19 => ?_)
        refine pv_icmp_ge (M := mX12_comesWithout) (tgt := 50) dX12_comesWithout_17 20 rfl (by decide) (fun c20 => ?_) (fun c20 => ?_)
        · have c20 := iv_le (X := v19.toInt) (Y := y1.toInt) c20 rfl rfl
          refine pv_iload_n (M := mX12_comesWithout) 2 dX12_comesWithout_50 51 rfl rfl rfl ?_
          refine pv_aload_n (M := mX12_comesWithout) 0 dX12_comesWithout_51 52 rfl rfl rfl ?_
          refine iv_get (M := mX12_comesWithout) (l1 := 0) (l2 := 16) dX12_comesWithout_52 FX12 41 wd1214 (by decide) (tl123 hT) rfl I rfl 55 rfl (fun v21 ev21 pv21 qv21 => ?_)
          refine pv_icmp_ne (M := mX12_comesWithout) (tgt := 62) dX12_comesWithout_55 58 rfl (by decide) (fun c22 => ?_) (fun c22 => ?_)
          · have c22 := iv_ne (X := y1.toInt) (Y := v21.toInt) c22 rfl rfl
            refine pv_iconst (M := mX12_comesWithout) (v := 0) dX12_comesWithout_62 63 rfl (by decide) ?_
            exact pv_iret (M := mX12_comesWithout) dX12_comesWithout_63 rfl rfl ⟨_, rfl, rfl, by decide, by decide, trivial⟩
          · have c22 := iv_eq (X := y1.toInt) (Y := v21.toInt) c22 rfl rfl
            refine pv_iconst (M := mX12_comesWithout) (v := 1) dX12_comesWithout_58 59 rfl (by decide) ?_
            refine pv_goto (M := mX12_comesWithout) (tgt := 63) dX12_comesWithout_59 (by decide) ?_
            exact pv_iret (M := mX12_comesWithout) dX12_comesWithout_63 rfl rfl ⟨_, rfl, rfl, by decide, by decide, trivial⟩
        · have c20 := iv_nle (X := v19.toInt) (Y := y1.toInt) c20 rfl rfl
          refine pv_iload_n (M := mX12_comesWithout) 3 dX12_comesWithout_20 21 rfl rfl rfl ?_
          refine pv_iload_n (M := mX12_comesWithout) 1 dX12_comesWithout_21 22 rfl rfl rfl ?_
          refine pv_icmp_eq (M := mX12_comesWithout) (tgt := 44) dX12_comesWithout_22 25 rfl (by decide) (fun c23 => ?_) (fun c23 => ?_)
          · have c23 := iv_eq (X := y2.toInt) (Y := x0.toInt) c23 rfl rfl
            refine iv_inc (M := mX12_comesWithout) (C := 1) dX12_comesWithout_44 47 rfl rfl (by decide) rfl rfl (by decide) (by omega) (by omega) (fun v24 ev24 => ?_)
            show PV _ _ _ _ _ _ _ 47 [.ref 123, .int x0, .int y1, .int v24] [] _
            refine pv_goto (M := mX12_comesWithout) (tgt := 4) dX12_comesWithout_47 (by decide) ?_
            exact ih9 y1 v24 (by first | omega | assumption | exact (iv_rng _).2 | exact (iv_rng _).1 | decide) (by first | omega | assumption | exact (iv_rng _).2 | exact (iv_rng _).1 | decide) (by first | omega | assumption | exact (iv_rng _).2 | exact (iv_rng _).1 | decide) (by first | omega | assumption | exact (iv_rng _).2 | exact (iv_rng _).1 | decide) (by omega)
          · have c23 := iv_ne (X := y2.toInt) (Y := x0.toInt) c23 rfl rfl
            refine pv_aload_n (M := mX12_comesWithout) 0 dX12_comesWithout_25 26 rfl rfl rfl ?_
            refine mv_get (M := mX12_comesWithout) (v := .ref 149) dX12_comesWithout_26 FX12 42 wd1215 (by decide) (tl123 hT) rfl rfl 29 rfl ?_
            refine pv_iload_n (M := mX12_comesWithout) 3 dX12_comesWithout_29 30 rfl rfl rfl ?_
            refine iv_iald (M := mX12_comesWithout) (X := y2.toInt) (l1 := 0) (l2 := 25) dX12_comesWithout_30 (tl149 hT) rfl (by omega) (by omega) I (fun _ => rfl) 31 rfl (fun v25 ev25 pv25 qv25 => ?_)
            refine pv_aload_n (M := mX12_comesWithout) 0 dX12_comesWithout_31 32 rfl rfl rfl ?_
            refine mv_get (M := mX12_comesWithout) (v := .ref 150) dX12_comesWithout_32 FX12 43 wd1216 (by decide) (tl123 hT) rfl rfl 35 rfl ?_
            refine pv_iload_n (M := mX12_comesWithout) 2 dX12_comesWithout_35 36 rfl rfl rfl ?_
            refine iv_iald (M := mX12_comesWithout) (X := y1.toInt) (l1 := 0) (l2 := 25) dX12_comesWithout_36 (tl150 hT) rfl (by omega) (by omega) I (fun _ => rfl) 37 rfl (fun v26 ev26 pv26 qv26 => ?_)
            refine pv_icmp_ne (M := mX12_comesWithout) (tgt := 44) dX12_comesWithout_37 40 rfl (by decide) (fun c27 => ?_) (fun c27 => ?_)
            · have c27 := iv_ne (X := v25.toInt) (Y := v26.toInt) c27 rfl rfl
              refine iv_inc (M := mX12_comesWithout) (C := 1) dX12_comesWithout_44 47 rfl rfl (by decide) rfl rfl (by decide) (by omega) (by omega) (fun v28 ev28 => ?_)
              show PV _ _ _ _ _ _ _ 47 [.ref 123, .int x0, .int y1, .int v28] [] _
              refine pv_goto (M := mX12_comesWithout) (tgt := 4) dX12_comesWithout_47 (by decide) ?_
              exact ih9 y1 v28 (by first | omega | assumption | exact (iv_rng _).2 | exact (iv_rng _).1 | decide) (by first | omega | assumption | exact (iv_rng _).2 | exact (iv_rng _).1 | decide) (by first | omega | assumption | exact (iv_rng _).2 | exact (iv_rng _).1 | decide) (by first | omega | assumption | exact (iv_rng _).2 | exact (iv_rng _).1 | decide) (by omega)
            · have c27 := iv_eq (X := v25.toInt) (Y := v26.toInt) c27 rfl rfl
              refine pv_iload_n (M := mX12_comesWithout) 2 dX12_comesWithout_40 41 rfl rfl rfl ?_
              refine pv_iconst (M := mX12_comesWithout) (v := 1) dX12_comesWithout_41 42 rfl (by decide) ?_
              refine iv_iadd (M := mX12_comesWithout) (X := y1.toInt) (Y := 1) dX12_comesWithout_42 43 rfl rfl (by decide) (by omega) (by omega) (fun v29 ev29 => ?_)
              refine pv_istore_n (M := mX12_comesWithout) 2 (lo2 := [.ref 123, .int x0, .int v29, .int y2]) dX12_comesWithout_43 44 rfl rfl (by decide) rfl rfl ?_
              refine iv_inc (M := mX12_comesWithout) (C := 1) dX12_comesWithout_44 47 rfl rfl (by decide) rfl rfl (by decide) (by omega) (by omega) (fun v30 ev30 => ?_)
              show PV _ _ _ _ _ _ _ 47 [.ref 123, .int x0, .int v29, .int v30] [] _
              refine pv_goto (M := mX12_comesWithout) (tgt := 4) dX12_comesWithout_47 (by decide) ?_
              exact ih9 v29 v30 (by first | omega | assumption | exact (iv_rng _).2 | exact (iv_rng _).1 | decide) (by first | omega | assumption | exact (iv_rng _).2 | exact (iv_rng _).1 | decide) (by first | omega | assumption | exact (iv_rng _).2 | exact (iv_rng _).1 | decide) (by first | omega | assumption | exact (iv_rng _).2 | exact (iv_rng _).1 | decide) (by omega)
  have z31 : (0 : Int32).toInt = 0 := by decide
  have z32 : (0 : Int32).toInt = 0 := by decide
  exact lp8 (((40 - 0) : Int).toNat + 1) 0 0 (by first | omega | assumption | exact (iv_rng _).2 | exact (iv_rng _).1 | decide) (by first | omega | assumption | exact (iv_rng _).2 | exact (iv_rng _).1 | decide) (by first | omega | assumption | exact (iv_rng _).2 | exact (iv_rng _).1 | decide) (by first | omega | assumption | exact (iv_rng _).2 | exact (iv_rng _).1 | decide) (by omega)

set_option maxHeartbeats 2000000 in
set_option maxRecDepth 20000 in
theorem s_X12_laysBlank (g : pv_G) {T : List mv_T} {m : Nat → Nat → Int32} {n : Nat → Nat → Int64} {r : Nat → Value} (hT : TX T) (I : IV BB m) (x0 : Int32) (hl0 : 0 ≤ x0.toInt) (hh0 : x0.toInt ≤ 7) (x1 : Int32) (hl1 : 0 ≤ x1.toInt) (hh1 : x1.toInt ≤ 1) : PM g mX12_laysBlank yX12_laysBlank (sqV T BB (wl [(123, 123, some 40), (149, 149, none)]) r m (fun m' => x1.toInt = 0 → (m' 123 40).toInt = nu m' x0.toInt 0)) 1 0 0 [.ref 123, .int x0, .int x1] (mk T m n r) := by
  have Kp : fr (wl [(123, 123, some 40), (149, 149, none)]) m m := fr.rf
  have z72 : 0 ≤ (m 123 40).toInt ∧ (m 123 40).toInt ≤ 40 := I 123 40
  refine PM.of 1 (lo := [.ref 123, .int x0, .int x1, pv_U]) rfl (by decide) rfl rfl (Nat.le_of_ble_eq_true rfl) ?_
  refine pv_aload_n (M := mX12_laysBlank) 0 dX12_laysBlank_0 1 rfl rfl rfl ?_
  refine pv_iconst (M := mX12_laysBlank) (v := 0) dX12_laysBlank_1 2 rfl (by decide) ?_
  refine iv_put (M := mX12_laysBlank) (l1 := 0) (l2 := 40) dX12_laysBlank_2 FX12 40 wd1213 (by decide) rfl (tl123 hT) rfl rfl rfl I rfl (by decide) (by decide) 5 rfl (fun m1 e4 I2 => ?_)
  have K3 := Kp.set e4 rfl
  have w5 : (m1 123 40).toInt = 0 := by rw [e4, up2_eq] <;> rfl
  refine pv_iconst (M := mX12_laysBlank) (v := 0) dX12_laysBlank_5 6 rfl (by decide) ?_
  refine pv_istore_n (M := mX12_laysBlank) 3 (lo2 := [.ref 123, .int x0, .int x1, .int 0]) dX12_laysBlank_6 7 rfl rfl (by decide) rfl rfl ?_
  have lp12 : ∀ (fuel11 : Nat) (y6 : Int32) (m7 : Nat → Nat → Int32) (n8 : Nat → Nat → Int64), (0 ≤ y6.toInt) → (y6.toInt ≤ 40) → ((m7 123 40).toInt ≤ y6.toInt) → (x1.toInt = 0 → (m7 123 40).toInt + nu m x0.toInt y6.toInt = nu m x0.toInt 0) → IV BB m7 → fr (wl [(123, 123, some 40), (149, 149, none)]) m m7 → ((40 - y6.toInt) : Int).toNat < fuel11 → PV none g mX12_laysBlank (sqV T BB (wl [(123, 123, some 40), (149, 149, none)]) r m (fun m' => x1.toInt = 0 → (m' 123 40).toInt = nu m' x0.toInt 0)) 1 0 0 7 [.ref 123, .int x0, .int x1, .int y6] [] (mk T m7 n8 r) := by
    intro fuel11
    induction fuel11 with
    | zero => intro y6 m7 n8 b14 b15 b16 b17 I9 K10 z18; omega
    | succ fuel11 ih13 =>
      intro y6 m7 n8 b14 b15 b16 b17 I9 K10 z18
      have z19 : 0 ≤ (m7 123 40).toInt ∧ (m7 123 40).toInt ≤ 40 := I9 123 40
      refine pv_iload_n (M := mX12_laysBlank) 3 dX12_laysBlank_7 8 rfl rfl rfl ?_
      refine pv_aload_n (M := mX12_laysBlank) 0 dX12_laysBlank_8 9 rfl rfl rfl ?_
      refine mv_get (M := mX12_laysBlank) (v := .ref 124) dX12_laysBlank_9 FX12 5 wd1178 (by decide) (tl123 hT) rfl rfl 12 rfl ?_
      refine pv_iload_n (M := mX12_laysBlank) 1 dX12_laysBlank_12 13 rfl rfl rfl ?_
      refine iv_iald (M := mX12_laysBlank) (X := x0.toInt) (l1 := 0) (l2 := 40) dX12_laysBlank_13 (tl124 hT) rfl (by omega) (by omega) I9 (fun _ => rfl) 14 rfl (fun v20 ev20 pv20 qv20 => ?_)
      have k14 : v20.toInt = (m 124 x0.toInt.toNat).toInt := congrArg Int32.toInt (ev20.trans (K10 124 _ rfl))
      refine pv_icmp_ge (M := mX12_laysBlank) (tgt := 74) dX12_laysBlank_14 17 rfl (by decide) (fun c22 => ?_) (fun c22 => ?_)
      · have c22 := iv_le (X := v20.toInt) (Y := y6.toInt) c22 rfl rfl
        have k74 := nu_end (m := m) (b := x0.toInt) (w := y6.toInt) (by omega)
        exact pv_vret (M := mX12_laysBlank) dX12_laysBlank_74 rfl ⟨_, _, rfl, rfl, I9, K10, (fun q => by rw [nu_eq (m := m) (fun j => K10 124 j rfl) (fun j => K10 128 j rfl)]; omega)⟩
      · have c22 := iv_nle (X := v20.toInt) (Y := y6.toInt) c22 rfl rfl
        refine pv_iload_n (M := mX12_laysBlank) 2 dX12_laysBlank_17 18 rfl rfl rfl ?_
        refine pv_if_ne (M := mX12_laysBlank) (tgt := 38) dX12_laysBlank_18 21 rfl (by decide) (fun c24 => ?_) (fun c24 => ?_)
        · have c24 := iv_ne (X := x1.toInt) (Y := 0) c24 rfl (by decide)
          try have k38 := nu_free (m := m) (b := x0.toInt) (w := y6.toInt) (by omega) (by omega) (by omega) (by omega)
          refine pv_aload_n (M := mX12_laysBlank) 0 dX12_laysBlank_38 39 rfl rfl rfl ?_
          refine mv_get (M := mX12_laysBlank) (v := .ref 149) dX12_laysBlank_39 FX12 42 wd1215 (by decide) (tl123 hT) rfl rfl 42 rfl ?_
          refine pv_aload_n (M := mX12_laysBlank) 0 dX12_laysBlank_42 43 rfl rfl rfl ?_
          refine iv_get (M := mX12_laysBlank) (l1 := 0) (l2 := 40) dX12_laysBlank_43 FX12 40 wd1213 (by decide) (tl123 hT) rfl I9 rfl 46 rfl (fun v26 ev26 pv26 qv26 => ?_)
          have wv26 : v26.toInt = (m7 123 40).toInt := congrArg Int32.toInt ev26
          refine pv_aload_n (M := mX12_laysBlank) 0 dX12_laysBlank_46 47 rfl rfl rfl ?_
          refine mv_get (M := mX12_laysBlank) (v := .ref 125) dX12_laysBlank_47 FX12 6 wd1179 (by decide) (tl123 hT) rfl rfl 50 rfl ?_
          refine pv_bipush (M := mX12_laysBlank) (v := 40) dX12_laysBlank_50 52 rfl (by decide) ?_
          refine pv_iload_n (M := mX12_laysBlank) 1 dX12_laysBlank_52 53 rfl rfl rfl ?_
          refine iv_imul (M := mX12_laysBlank) (X := 40) (Y := x0.toInt) dX12_laysBlank_53 54 rfl (by decide) rfl (by omega) (by omega) (fun v27 ev27 => ?_)
          refine pv_iload_n (M := mX12_laysBlank) 3 dX12_laysBlank_54 55 rfl rfl rfl ?_
          refine iv_iadd (M := mX12_laysBlank) (X := v27.toInt) (Y := y6.toInt) dX12_laysBlank_55 56 rfl rfl rfl (by omega) (by omega) (fun v28 ev28 => ?_)
          refine iv_iald (M := mX12_laysBlank) (X := v28.toInt) (l1 := 0) (l2 := 25) dX12_laysBlank_56 (tl125 hT) rfl (by omega) (by omega) I9 (fun _ => rfl) 57 rfl (fun v29 ev29 pv29 qv29 => ?_)
          refine iv_iast (M := mX12_laysBlank) (X := v26.toInt) (l1 := 0) (l2 := 25) dX12_laysBlank_57 (tl149 hT) rfl (by omega) (by omega) I9 (fun _ => rfl) (by omega) (by omega) 58 rfl (fun m30 e33 I31 => ?_)
          have K32 := K10.set e33 rfl
          have w34 : (m30 123 40).toInt = (m7 123 40).toInt := by rw [e33, up2_ne (by omega)]
          refine pv_aload_n (M := mX12_laysBlank) 0 dX12_laysBlank_58 59 rfl rfl rfl ?_
          refine pv_aload_n (M := mX12_laysBlank) 0 dX12_laysBlank_59 60 rfl rfl rfl ?_
          refine iv_get (M := mX12_laysBlank) (l1 := 0) (l2 := 40) dX12_laysBlank_60 FX12 40 wd1213 (by decide) (tl123 hT) rfl I31 rfl 63 rfl (fun v35 ev35 pv35 qv35 => ?_)
          have wv35 : v35.toInt = (m30 123 40).toInt := congrArg Int32.toInt ev35
          refine pv_iconst (M := mX12_laysBlank) (v := 1) dX12_laysBlank_63 64 rfl (by decide) ?_
          refine iv_iadd (M := mX12_laysBlank) (X := v35.toInt) (Y := 1) dX12_laysBlank_64 65 rfl rfl (by decide) (by omega) (by omega) (fun v36 ev36 => ?_)
          refine iv_put (M := mX12_laysBlank) (l1 := 0) (l2 := 40) dX12_laysBlank_65 FX12 40 wd1213 (by decide) rfl (tl123 hT) rfl rfl rfl I31 rfl (by omega) (by omega) 68 rfl (fun m37 e40 I38 => ?_)
          have K39 := K32.set e40 rfl
          have w41 : (m37 123 40).toInt = v36.toInt := by rw [e40, up2_eq]
          refine iv_inc (M := mX12_laysBlank) (C := 1) dX12_laysBlank_68 71 rfl rfl (by decide) rfl rfl (by decide) (by omega) (by omega) (fun v42 ev42 => ?_)
          show PV _ _ _ _ _ _ _ 71 [.ref 123, .int x0, .int x1, .int v42] [] _
          refine pv_goto (M := mX12_laysBlank) (tgt := 7) dX12_laysBlank_71 (by decide) ?_
          have kb : nu m x0.toInt v42.toInt = nu m x0.toInt (y6.toInt + 1) := congrArg (nu m x0.toInt) (by omega)
          exact ih13 v42 m37 n8 (by first | omega | assumption | exact (iv_rng _).2 | exact (iv_rng _).1 | decide) (by first | omega | assumption | exact (iv_rng _).2 | exact (iv_rng _).1 | decide) (by first | omega | assumption | (show (m37 123 40).toInt ≤ v42.toInt; omega) | decide) (by first | omega | assumption | (show x1.toInt = 0 → (m37 123 40).toInt + nu m x0.toInt v42.toInt = nu m x0.toInt 0; omega) | decide) I38 K39 (by omega)
        · have c24 := iv_eq (X := x1.toInt) (Y := 0) c24 rfl (by decide)
          refine pv_aload_n (M := mX12_laysBlank) 0 dX12_laysBlank_21 22 rfl rfl rfl ?_
          refine mv_get (M := mX12_laysBlank) (v := .ref 128) dX12_laysBlank_22 FX12 9 wd1182 (by decide) (tl123 hT) rfl rfl 25 rfl ?_
          refine pv_bipush (M := mX12_laysBlank) (v := 40) dX12_laysBlank_25 27 rfl (by decide) ?_
          refine pv_iload_n (M := mX12_laysBlank) 1 dX12_laysBlank_27 28 rfl rfl rfl ?_
          refine iv_imul (M := mX12_laysBlank) (X := 40) (Y := x0.toInt) dX12_laysBlank_28 29 rfl (by decide) rfl (by omega) (by omega) (fun v44 ev44 => ?_)
          refine pv_iload_n (M := mX12_laysBlank) 3 dX12_laysBlank_29 30 rfl rfl rfl ?_
          refine iv_iadd (M := mX12_laysBlank) (X := v44.toInt) (Y := y6.toInt) dX12_laysBlank_30 31 rfl rfl rfl (by omega) (by omega) (fun v45 ev45 => ?_)
          refine iv_zald (M := mX12_laysBlank) (X := v45.toInt) (l1 := 0) (l2 := 1) dX12_laysBlank_31 (tl128 hT) rfl (by omega) (by omega) I9 (fun _ => rfl) 32 rfl (fun v46 ev46 pv46 qv46 => ?_)
          have k32 : v46.toInt = (m 128 (40 * x0.toInt + y6.toInt).toNat).toInt := (congrArg Int32.toInt (ev46.trans (K10 128 _ rfl))).trans (congrArg (fun z => (m 128 z).toInt) (by omega))
          refine pv_if_eq (M := mX12_laysBlank) (tgt := 38) dX12_laysBlank_32 35 rfl (by decide) (fun c48 => ?_) (fun c48 => ?_)
          · have c48 := iv_eq (X := v46.toInt) (Y := 0) c48 rfl (by decide)
            try have k38 := nu_free (m := m) (b := x0.toInt) (w := y6.toInt) (by omega) (by omega) (by omega) (by omega)
            refine pv_aload_n (M := mX12_laysBlank) 0 dX12_laysBlank_38 39 rfl rfl rfl ?_
            refine mv_get (M := mX12_laysBlank) (v := .ref 149) dX12_laysBlank_39 FX12 42 wd1215 (by decide) (tl123 hT) rfl rfl 42 rfl ?_
            refine pv_aload_n (M := mX12_laysBlank) 0 dX12_laysBlank_42 43 rfl rfl rfl ?_
            refine iv_get (M := mX12_laysBlank) (l1 := 0) (l2 := 40) dX12_laysBlank_43 FX12 40 wd1213 (by decide) (tl123 hT) rfl I9 rfl 46 rfl (fun v50 ev50 pv50 qv50 => ?_)
            have wv50 : v50.toInt = (m7 123 40).toInt := congrArg Int32.toInt ev50
            refine pv_aload_n (M := mX12_laysBlank) 0 dX12_laysBlank_46 47 rfl rfl rfl ?_
            refine mv_get (M := mX12_laysBlank) (v := .ref 125) dX12_laysBlank_47 FX12 6 wd1179 (by decide) (tl123 hT) rfl rfl 50 rfl ?_
            refine pv_bipush (M := mX12_laysBlank) (v := 40) dX12_laysBlank_50 52 rfl (by decide) ?_
            refine pv_iload_n (M := mX12_laysBlank) 1 dX12_laysBlank_52 53 rfl rfl rfl ?_
            refine iv_imul (M := mX12_laysBlank) (X := 40) (Y := x0.toInt) dX12_laysBlank_53 54 rfl (by decide) rfl (by omega) (by omega) (fun v51 ev51 => ?_)
            refine pv_iload_n (M := mX12_laysBlank) 3 dX12_laysBlank_54 55 rfl rfl rfl ?_
            refine iv_iadd (M := mX12_laysBlank) (X := v51.toInt) (Y := y6.toInt) dX12_laysBlank_55 56 rfl rfl rfl (by omega) (by omega) (fun v52 ev52 => ?_)
            refine iv_iald (M := mX12_laysBlank) (X := v52.toInt) (l1 := 0) (l2 := 25) dX12_laysBlank_56 (tl125 hT) rfl (by omega) (by omega) I9 (fun _ => rfl) 57 rfl (fun v53 ev53 pv53 qv53 => ?_)
            refine iv_iast (M := mX12_laysBlank) (X := v50.toInt) (l1 := 0) (l2 := 25) dX12_laysBlank_57 (tl149 hT) rfl (by omega) (by omega) I9 (fun _ => rfl) (by omega) (by omega) 58 rfl (fun m54 e57 I55 => ?_)
            have K56 := K10.set e57 rfl
            have w58 : (m54 123 40).toInt = (m7 123 40).toInt := by rw [e57, up2_ne (by omega)]
            refine pv_aload_n (M := mX12_laysBlank) 0 dX12_laysBlank_58 59 rfl rfl rfl ?_
            refine pv_aload_n (M := mX12_laysBlank) 0 dX12_laysBlank_59 60 rfl rfl rfl ?_
            refine iv_get (M := mX12_laysBlank) (l1 := 0) (l2 := 40) dX12_laysBlank_60 FX12 40 wd1213 (by decide) (tl123 hT) rfl I55 rfl 63 rfl (fun v59 ev59 pv59 qv59 => ?_)
            have wv59 : v59.toInt = (m54 123 40).toInt := congrArg Int32.toInt ev59
            refine pv_iconst (M := mX12_laysBlank) (v := 1) dX12_laysBlank_63 64 rfl (by decide) ?_
            refine iv_iadd (M := mX12_laysBlank) (X := v59.toInt) (Y := 1) dX12_laysBlank_64 65 rfl rfl (by decide) (by omega) (by omega) (fun v60 ev60 => ?_)
            refine iv_put (M := mX12_laysBlank) (l1 := 0) (l2 := 40) dX12_laysBlank_65 FX12 40 wd1213 (by decide) rfl (tl123 hT) rfl rfl rfl I55 rfl (by omega) (by omega) 68 rfl (fun m61 e64 I62 => ?_)
            have K63 := K56.set e64 rfl
            have w65 : (m61 123 40).toInt = v60.toInt := by rw [e64, up2_eq]
            refine iv_inc (M := mX12_laysBlank) (C := 1) dX12_laysBlank_68 71 rfl rfl (by decide) rfl rfl (by decide) (by omega) (by omega) (fun v66 ev66 => ?_)
            show PV _ _ _ _ _ _ _ 71 [.ref 123, .int x0, .int x1, .int v66] [] _
            refine pv_goto (M := mX12_laysBlank) (tgt := 7) dX12_laysBlank_71 (by decide) ?_
            have kb : nu m x0.toInt v66.toInt = nu m x0.toInt (y6.toInt + 1) := congrArg (nu m x0.toInt) (by omega)
            exact ih13 v66 m61 n8 (by first | omega | assumption | exact (iv_rng _).2 | exact (iv_rng _).1 | decide) (by first | omega | assumption | exact (iv_rng _).2 | exact (iv_rng _).1 | decide) (by first | omega | assumption | (show (m61 123 40).toInt ≤ v66.toInt; omega) | decide) (by first | omega | assumption | (show x1.toInt = 0 → (m61 123 40).toInt + nu m x0.toInt v66.toInt = nu m x0.toInt 0; omega) | decide) I62 K63 (by omega)
          · have c48 := iv_ne (X := v46.toInt) (Y := 0) c48 rfl (by decide)
            have k35 := nu_str (m := m) (b := x0.toInt) (w := y6.toInt) (by omega) (by omega) (by omega) (by omega)
            refine pv_goto (M := mX12_laysBlank) (tgt := 68) dX12_laysBlank_35 (by decide) ?_
            refine iv_inc (M := mX12_laysBlank) (C := 1) dX12_laysBlank_68 71 rfl rfl (by decide) rfl rfl (by decide) (by omega) (by omega) (fun v69 ev69 => ?_)
            show PV _ _ _ _ _ _ _ 71 [.ref 123, .int x0, .int x1, .int v69] [] _
            refine pv_goto (M := mX12_laysBlank) (tgt := 7) dX12_laysBlank_71 (by decide) ?_
            have kb : nu m x0.toInt v69.toInt = nu m x0.toInt (y6.toInt + 1) := congrArg (nu m x0.toInt) (by omega)
            exact ih13 v69 m7 n8 (by first | omega | assumption | exact (iv_rng _).2 | exact (iv_rng _).1 | decide) (by first | omega | assumption | exact (iv_rng _).2 | exact (iv_rng _).1 | decide) (by first | omega | assumption | (show (m7 123 40).toInt ≤ v69.toInt; omega) | decide) (by first | omega | assumption | (show x1.toInt = 0 → (m7 123 40).toInt + nu m x0.toInt v69.toInt = nu m x0.toInt 0; omega) | decide) I9 K10 (by omega)
  have z71 : (0 : Int32).toInt = 0 := by decide
  exact lp12 (((40 - 0) : Int).toNat + 1) 0 m1 n (by first | omega | assumption | exact (iv_rng _).2 | exact (iv_rng _).1 | decide) (by first | omega | assumption | exact (iv_rng _).2 | exact (iv_rng _).1 | decide) (by first | omega | assumption | (show (m1 123 40).toInt ≤ 0; omega) | decide) (by first | omega | assumption | (show x1.toInt = 0 → (m1 123 40).toInt + nu m x0.toInt 0 = nu m x0.toInt 0; omega) | decide) I2 K3 (by omega)

set_option maxHeartbeats 2000000 in
set_option maxRecDepth 20000 in
theorem s_X12_sum (g : pv_G) {T : List mv_T} {m : Nat → Nat → Int32} {n : Nat → Nat → Int64} {r : Nat → Value} (hT : TX T) (I : IV BB m) (x0 : Int32) (hl0 : 0 ≤ x0.toInt) (hh0 : x0.toInt ≤ 1999999998) (x1 : Int32) (hl1 : 0 ≤ x1.toInt) (hh1 : x1.toInt ≤ 1999999998) : PM g mX12_sum yX12_sum (sqP (mk T m n r) 0 1999999998 (fun v => v.toInt < 1000000000 → (x0.toInt < 1000000000 ∧ x1.toInt < 1000000000))) 1 0 0 [.int x0, .int x1] (mk T m n r) := by
  have Kp : fr (wl []) m m := fr.rf
  refine PM.of 0 (lo := [.int x0, .int x1]) rfl (by decide) rfl rfl (Nat.le_of_ble_eq_true rfl) ?_
  refine pv_iload_n (M := mX12_sum) 0 dX12_sum_0 1 rfl rfl rfl ?_
  refine pv_ldcw (M := mX12_sum) (v := 1000000000) dX12_sum_1 4 rfl wd1583 ?_
  refine pv_icmp_ge (M := mX12_sum) (tgt := 14) dX12_sum_4 7 rfl (by decide) (fun c1 => ?_) (fun c1 => ?_)
  · have c1 := iv_le (X := 1000000000) (Y := x0.toInt) c1 (by decide) rfl
    refine pv_ldcw (M := mX12_sum) (v := 1000000000) dX12_sum_14 17 rfl wd1583 ?_
    refine pv_goto (M := mX12_sum) (tgt := 23) dX12_sum_17 (by decide) ?_
    have z2 : (1000000000 : Int32).toInt = 1000000000 := by decide
    exact pv_iret (M := mX12_sum) dX12_sum_23 rfl rfl ⟨_, rfl, rfl, by decide, by decide, (fun q => by constructor <;> omega)⟩
  · have c1 := iv_nle (X := 1000000000) (Y := x0.toInt) c1 (by decide) rfl
    refine pv_iload_n (M := mX12_sum) 1 dX12_sum_7 8 rfl rfl rfl ?_
    refine pv_ldcw (M := mX12_sum) (v := 1000000000) dX12_sum_8 11 rfl wd1583 ?_
    refine pv_icmp_lt (M := mX12_sum) (tgt := 20) dX12_sum_11 14 rfl (by decide) (fun c3 => ?_) (fun c3 => ?_)
    · have c3 := iv_lt (X := x1.toInt) (Y := 1000000000) c3 rfl (by decide)
      refine pv_iload_n (M := mX12_sum) 0 dX12_sum_20 21 rfl rfl rfl ?_
      refine pv_iload_n (M := mX12_sum) 1 dX12_sum_21 22 rfl rfl rfl ?_
      refine iv_iadd (M := mX12_sum) (X := x0.toInt) (Y := x1.toInt) dX12_sum_22 23 rfl rfl rfl (by omega) (by omega) (fun v4 ev4 => ?_)
      exact pv_iret (M := mX12_sum) dX12_sum_23 rfl rfl ⟨_, rfl, rfl, by omega, by omega, (fun q => by constructor <;> omega)⟩
    · have c3 := iv_nlt (X := x1.toInt) (Y := 1000000000) c3 rfl (by decide)
      refine pv_ldcw (M := mX12_sum) (v := 1000000000) dX12_sum_14 17 rfl wd1583 ?_
      refine pv_goto (M := mX12_sum) (tgt := 23) dX12_sum_17 (by decide) ?_
      have z5 : (1000000000 : Int32).toInt = 1000000000 := by decide
      exact pv_iret (M := mX12_sum) dX12_sum_23 rfl rfl ⟨_, rfl, rfl, by decide, by decide, (fun q => by constructor <;> omega)⟩

set_option maxHeartbeats 2000000 in
set_option maxRecDepth 20000 in
theorem s_X12_least (g : pv_G) {T : List mv_T} {m : Nat → Nat → Int32} {n : Nat → Nat → Int64} {r : Nat → Value} (hT : TX T) (I : IV BB m) (x0 : Int32) (hl0 : 0 ≤ x0.toInt) (hh0 : x0.toInt ≤ 1999999998) (x1 : Int32) (hl1 : 0 ≤ x1.toInt) (hh1 : x1.toInt ≤ 1999999998) : PM g mX12_least yX12_least (sqP (mk T m n r) 0 1999999998 (fun v => v.toInt ≤ x0.toInt ∧ v.toInt ≤ x1.toInt ∧ (v.toInt = x0.toInt ∨ v.toInt = x1.toInt))) 1 0 0 [.int x0, .int x1] (mk T m n r) := by
  have Kp : fr (wl []) m m := fr.rf
  refine PM.of 0 (lo := [.int x0, .int x1]) rfl (by decide) rfl rfl (Nat.le_of_ble_eq_true rfl) ?_
  refine pv_iload_n (M := mX12_least) 0 dX12_least_0 1 rfl rfl rfl ?_
  refine pv_iload_n (M := mX12_least) 1 dX12_least_1 2 rfl rfl rfl ?_
  refine pv_icmp_ge (M := mX12_least) (tgt := 9) dX12_least_2 5 rfl (by decide) (fun c1 => ?_) (fun c1 => ?_)
  · have c1 := iv_le (X := x1.toInt) (Y := x0.toInt) c1 rfl rfl
    refine pv_iload_n (M := mX12_least) 1 dX12_least_9 10 rfl rfl rfl ?_
    exact pv_iret (M := mX12_least) dX12_least_10 rfl rfl ⟨_, rfl, rfl, by omega, by omega, (by omega)⟩
  · have c1 := iv_nle (X := x1.toInt) (Y := x0.toInt) c1 rfl rfl
    refine pv_iload_n (M := mX12_least) 0 dX12_least_5 6 rfl rfl rfl ?_
    refine pv_goto (M := mX12_least) (tgt := 10) dX12_least_6 (by decide) ?_
    exact pv_iret (M := mX12_least) dX12_least_10 rfl rfl ⟨_, rfl, rfl, by omega, by omega, (by omega)⟩

set_option maxHeartbeats 2000000 in
set_option maxRecDepth 20000 in
theorem s_X12_laysCheap (g : pv_G) {T : List mv_T} {m : Nat → Nat → Int32} {n : Nat → Nat → Int64} {r : Nat → Value} (hT : TX T) (I : IV BB m) : PM g mX12_laysCheap yX12_laysCheap (sqV T BB (wl [(153, 153, none)]) r m (fun m' => CTk m' (-1))) 2 0 0 [.ref 123] (mk T m n r) := by
  have Kp : fr (wl [(153, 153, none)]) m m := fr.rf
  have z311 : 0 ≤ (m 123 40).toInt ∧ (m 123 40).toInt ≤ 40 := I 123 40
  have z312 : 0 ≤ (m 123 41).toInt ∧ (m 123 41).toInt ≤ 16 := I 123 41
  refine PM.of 3 (lo := [.ref 123, pv_U, pv_U, pv_U]) rfl (by decide) rfl rfl (Nat.le_of_ble_eq_true rfl) ?_
  refine pv_aload_n (M := mX12_laysCheap) 0 dX12_laysCheap_0 1 rfl rfl rfl ?_
  refine iv_get (M := mX12_laysCheap) (l1 := 0) (l2 := 40) dX12_laysCheap_1 FX12 40 wd1213 (by decide) (tl123 hT) rfl I rfl 4 rfl (fun v1 ev1 pv1 qv1 => ?_)
  have wv1 : v1.toInt = (m 123 40).toInt := congrArg Int32.toInt ev1
  refine pv_istore_n (M := mX12_laysCheap) 1 (lo2 := [.ref 123, .int v1, pv_U, pv_U]) dX12_laysCheap_4 5 rfl rfl (by decide) rfl rfl ?_
  have lp8 : ∀ (fuel7 : Nat) (y2 : Int32) (m3 : Nat → Nat → Int32) (n4 : Nat → Nat → Int64), (-1 ≤ y2.toInt) → (y2.toInt ≤ 40) → (y2.toInt ≤ (m3 123 40).toInt) → (CTk m3 y2.toInt) → IV BB m3 → fr (wl [(153, 153, none)]) m m3 → ((y2.toInt - (-1)) : Int).toNat < fuel7 → PV none g mX12_laysCheap (sqV T BB (wl [(153, 153, none)]) r m (fun m' => CTk m' (-1))) 2 0 0 5 [.ref 123, .int y2, pv_U, pv_U] [] (mk T m3 n4 r) := by
    intro fuel7
    induction fuel7 with
    | zero => intro y2 m3 n4 b10 b11 b12 b13 I5 K6 z14; omega
    | succ fuel7 ih9 =>
      intro y2 m3 n4 b10 b11 b12 b13 I5 K6 z14
      have z15 : 0 ≤ (m3 123 40).toInt ∧ (m3 123 40).toInt ≤ 40 := I5 123 40
      have z16 : 0 ≤ (m3 123 41).toInt ∧ (m3 123 41).toInt ≤ 16 := I5 123 41
      have kg1 := (show CTk m3 y2.toInt by assumption)
      refine pv_iload_n (M := mX12_laysCheap) 1 dX12_laysCheap_5 6 rfl rfl rfl ?_
      refine pv_if_lt (M := mX12_laysCheap) (tgt := 157) dX12_laysCheap_6 9 rfl (by decide) (fun c18 => ?_) (fun c18 => ?_)
      · have c18 := iv_lt (X := y2.toInt) (Y := 0) c18 rfl (by decide)
        exact pv_vret (M := mX12_laysCheap) dX12_laysCheap_157 rfl ⟨_, _, rfl, rfl, I5, K6, (by have q := kg1; rw [show y2.toInt = -1 by omega] at q; exact q)⟩
      · have c18 := iv_nlt (X := y2.toInt) (Y := 0) c18 rfl (by decide)
        refine pv_aload_n (M := mX12_laysCheap) 0 dX12_laysCheap_9 10 rfl rfl rfl ?_
        refine iv_get (M := mX12_laysCheap) (l1 := 0) (l2 := 16) dX12_laysCheap_10 FX12 41 wd1214 (by decide) (tl123 hT) rfl I5 rfl 13 rfl (fun v19 ev19 pv19 qv19 => ?_)
        have wv19 : v19.toInt = (m3 123 41).toInt := congrArg Int32.toInt ev19
        refine pv_istore_n (M := mX12_laysCheap) 2 (lo2 := [.ref 123, .int y2, .int v19, pv_U]) dX12_laysCheap_13 14 rfl rfl (by decide) rfl rfl ?_
        have lp26 : ∀ (fuel25 : Nat) (y20 : Int32) (m21 : Nat → Nat → Int32) (n22 : Nat → Nat → Int64), (-1 ≤ y20.toInt) → (y20.toInt ≤ 16) → (y2.toInt ≤ (m21 123 40).toInt) → (y20.toInt ≤ (m21 123 41).toInt) → (CTk m21 y2.toInt) → (CTj m21 y2.toInt y20.toInt) → IV BB m21 → fr (wl [(153, 153, none)]) m m21 → ((y20.toInt - (-1)) : Int).toNat < fuel25 → PV none g mX12_laysCheap (sqV T BB (wl [(153, 153, none)]) r m (fun m' => CTk m' (-1))) 2 0 0 14 [.ref 123, .int y2, .int y20, pv_U] [] (mk T m21 n22 r) := by
          intro fuel25
          induction fuel25 with
          | zero => intro y20 m21 n22 b28 b29 b30 b31 b32 b33 I23 K24 z34; omega
          | succ fuel25 ih27 =>
            intro y20 m21 n22 b28 b29 b30 b31 b32 b33 I23 K24 z34
            have z35 : 0 ≤ (m21 123 40).toInt ∧ (m21 123 40).toInt ≤ 40 := I23 123 40
            have z36 : 0 ≤ (m21 123 41).toInt ∧ (m21 123 41).toInt ≤ 16 := I23 123 41
            have kg2 := (show CTk m21 y2.toInt by assumption)
            have kg3 := (show CTj m21 y2.toInt y20.toInt by assumption)
            refine pv_iload_n (M := mX12_laysCheap) 2 dX12_laysCheap_14 15 rfl rfl rfl ?_
            refine pv_if_lt (M := mX12_laysCheap) (tgt := 151) dX12_laysCheap_15 18 rfl (by decide) (fun c39 => ?_) (fun c39 => ?_)
            · have c39 := iv_lt (X := y20.toInt) (Y := 0) c39 rfl (by decide)
              have k151 := CT_row kg2 (by have q := kg3; rw [show y20.toInt = -1 by omega] at q; exact q) (by omega)
              refine iv_inc (M := mX12_laysCheap) (C := (-1)) dX12_laysCheap_151 154 rfl rfl (by decide) rfl rfl (by decide) (by omega) (by omega) (fun v41 ev41 => ?_)
              show PV _ _ _ _ _ _ _ 154 [.ref 123, .int v41, .int y20, pv_U] [] _
              refine pv_goto (M := mX12_laysCheap) (tgt := 5) dX12_laysCheap_154 (by decide) ?_
              refine pv_fg (lo2 := [.ref 123, .int v41, pv_U, pv_U]) ⟨Or.inr rfl, ⟨Or.inr rfl, ⟨Or.inl rfl, ⟨Or.inl rfl, trivial⟩⟩⟩⟩ ?_
              have kb1 : CTk m21 v41.toInt := by rw [show v41.toInt = y2.toInt - 1 by omega]; exact k151
              exact ih9 v41 m21 n22 (by first | omega | assumption | exact (iv_rng _).2 | exact (iv_rng _).1 | decide) (by first | omega | assumption | exact (iv_rng _).2 | exact (iv_rng _).1 | decide) (by first | omega | assumption | (show v41.toInt ≤ (m21 123 40).toInt; omega) | decide) kb1 I23 K24 (by omega)
            · have c39 := iv_nlt (X := y20.toInt) (Y := 0) c39 rfl (by decide)
              refine pv_iload_n (M := mX12_laysCheap) 1 dX12_laysCheap_18 19 rfl rfl rfl ?_
              refine pv_aload_n (M := mX12_laysCheap) 0 dX12_laysCheap_19 20 rfl rfl rfl ?_
              refine iv_get (M := mX12_laysCheap) (l1 := 0) (l2 := 40) dX12_laysCheap_20 FX12 40 wd1213 (by decide) (tl123 hT) rfl I23 rfl 23 rfl (fun v43 ev43 pv43 qv43 => ?_)
              have wv43 : v43.toInt = (m21 123 40).toInt := congrArg Int32.toInt ev43
              refine pv_icmp_ne (M := mX12_laysCheap) (tgt := 44) dX12_laysCheap_23 26 rfl (by decide) (fun c44 => ?_) (fun c44 => ?_)
              · have c44 := iv_ne (X := y2.toInt) (Y := v43.toInt) c44 rfl rfl
                refine pv_aload_n (M := mX12_laysCheap) 0 dX12_laysCheap_44 45 rfl rfl rfl ?_
                refine mv_get (M := mX12_laysCheap) (v := .ref 152) dX12_laysCheap_45 FX12 45 wd1218 (by decide) (tl123 hT) rfl rfl 48 rfl ?_
                refine pv_iload_n (M := mX12_laysCheap) 1 dX12_laysCheap_48 49 rfl rfl rfl ?_
                refine iv_iald (M := mX12_laysCheap) (X := y2.toInt) (l1 := 0) (l2 := 1999999998) dX12_laysCheap_49 (tl152 hT) rfl (by omega) (by omega) I23 (fun _ => rfl) 50 rfl (fun v45 ev45 pv45 qv45 => ?_)
                refine pv_aload_n (M := mX12_laysCheap) 0 dX12_laysCheap_50 51 rfl rfl rfl ?_
                refine mv_get (M := mX12_laysCheap) (v := .ref 153) dX12_laysCheap_51 FX12 46 wd1219 (by decide) (tl123 hT) rfl rfl 54 rfl ?_
                refine pv_bipush (M := mX12_laysCheap) (v := 17) dX12_laysCheap_54 56 rfl (by decide) ?_
                refine pv_iload_n (M := mX12_laysCheap) 1 dX12_laysCheap_56 57 rfl rfl rfl ?_
                refine pv_iconst (M := mX12_laysCheap) (v := 1) dX12_laysCheap_57 58 rfl (by decide) ?_
                refine iv_iadd (M := mX12_laysCheap) (X := y2.toInt) (Y := 1) dX12_laysCheap_58 59 rfl rfl (by decide) (by omega) (by omega) (fun v46 ev46 => ?_)
                refine iv_imul (M := mX12_laysCheap) (X := 17) (Y := v46.toInt) dX12_laysCheap_59 60 rfl (by decide) rfl (by omega) (by omega) (fun v47 ev47 => ?_)
                refine pv_iload_n (M := mX12_laysCheap) 2 dX12_laysCheap_60 61 rfl rfl rfl ?_
                refine iv_iadd (M := mX12_laysCheap) (X := v47.toInt) (Y := y20.toInt) dX12_laysCheap_61 62 rfl rfl rfl (by omega) (by omega) (fun v48 ev48 => ?_)
                refine iv_iald (M := mX12_laysCheap) (X := v48.toInt) (l1 := 0) (l2 := 1999999998) dX12_laysCheap_62 (tl153 hT) rfl (by omega) (by omega) I23 (fun _ => rfl) 63 rfl (fun v49 ev49 pv49 qv49 => ?_)
                have k63 : v49.toInt = (m21 153 (17 * (y2.toInt + 1) + y20.toInt).toNat).toInt := (congrArg Int32.toInt ev49).trans (congrArg (fun z => (m21 153 z).toInt) (by omega))
                refine pv_calls (M := mX12_laysCheap) (as := [.int v45, .int v49]) (st := []) (kc2 := 0) (ks2 := 0) dX12_laysCheap_63 wd1588 YX12_sum wd1589 (s_X12_sum g hT I23 v45 (by omega) (by omega) v49 (by omega) (by omega)) rfl rfl (Nat.le_of_ble_eq_true rfl) (by decide) rfl rfl 66 rfl (fun rv h1 q51 => ?_)
                obtain ⟨v52, rfl, rfl, pv52, qv52, rv52⟩ := q51
                replace rv52 : v52.toInt < 1000000000 → (v45.toInt < 1000000000 ∧ v49.toInt < 1000000000) := rv52
                show PV _ _ _ _ _ _ _ 66 [.ref 123, .int y2, .int y20, pv_U] [.int v52] _
                try have k66 := rv52
                refine pv_istore_n (M := mX12_laysCheap) 3 (lo2 := [.ref 123, .int y2, .int y20, .int v52]) dX12_laysCheap_66 67 rfl rfl (by decide) rfl rfl ?_
                refine pv_iload_n (M := mX12_laysCheap) 1 dX12_laysCheap_67 68 rfl rfl rfl ?_
                refine pv_aload_n (M := mX12_laysCheap) 0 dX12_laysCheap_68 69 rfl rfl rfl ?_
                refine iv_get (M := mX12_laysCheap) (l1 := 0) (l2 := 40) dX12_laysCheap_69 FX12 40 wd1213 (by decide) (tl123 hT) rfl I23 rfl 72 rfl (fun v54 ev54 pv54 qv54 => ?_)
                have wv54 : v54.toInt = (m21 123 40).toInt := congrArg Int32.toInt ev54
                refine pv_icmp_ge (M := mX12_laysCheap) (tgt := 133) dX12_laysCheap_72 75 rfl (by decide) (fun c55 => ?_) (fun c55 => ?_)
                · have c55 := iv_le (X := v54.toInt) (Y := y2.toInt) c55 rfl rfl
                  have kG : (v52).toInt < 1000000000 → (y2.toInt = (m21 123 40).toInt ∧ y20.toInt = (m21 123 41).toInt) ∨ (y2.toInt < (m21 123 40).toInt ∧ ((y20.toInt < (m21 123 41).toInt ∧ (m21 149 y2.toInt.toNat).toInt = (m21 150 y20.toInt.toNat).toInt ∧ (m21 153 (17 * (y2.toInt + 1) + y20.toInt + 1).toNat).toInt = (v52).toInt) ∨ (m21 153 (17 * (y2.toInt + 1) + y20.toInt).toNat).toInt < 1000000000)) := fun q => by first | omega | exact absurd q (by decide) | (have z := k66 (by omega); omega)
                  refine pv_aload_n (M := mX12_laysCheap) 0 dX12_laysCheap_133 134 rfl rfl rfl ?_
                  refine mv_get (M := mX12_laysCheap) (v := .ref 153) dX12_laysCheap_134 FX12 46 wd1219 (by decide) (tl123 hT) rfl rfl 137 rfl ?_
                  refine pv_bipush (M := mX12_laysCheap) (v := 17) dX12_laysCheap_137 139 rfl (by decide) ?_
                  refine pv_iload_n (M := mX12_laysCheap) 1 dX12_laysCheap_139 140 rfl rfl rfl ?_
                  refine iv_imul (M := mX12_laysCheap) (X := 17) (Y := y2.toInt) dX12_laysCheap_140 141 rfl (by decide) rfl (by omega) (by omega) (fun v57 ev57 => ?_)
                  refine pv_iload_n (M := mX12_laysCheap) 2 dX12_laysCheap_141 142 rfl rfl rfl ?_
                  refine iv_iadd (M := mX12_laysCheap) (X := v57.toInt) (Y := y20.toInt) dX12_laysCheap_142 143 rfl rfl rfl (by omega) (by omega) (fun v58 ev58 => ?_)
                  refine pv_iload_n (M := mX12_laysCheap) 3 dX12_laysCheap_143 144 rfl rfl rfl ?_
                  refine iv_iast (M := mX12_laysCheap) (X := v58.toInt) (l1 := 0) (l2 := 1999999998) dX12_laysCheap_144 (tl153 hT) rfl (by omega) (by omega) I23 (fun _ => rfl) (by omega) (by omega) 145 rfl (fun m59 e62 I60 => ?_)
                  have K61 := K24.set e62 rfl
                  have w63 : (m59 123 40).toInt = (m21 123 40).toInt := by rw [e62, up2_ne (by omega)]
                  have w64 : (m59 123 41).toInt = (m21 123 41).toInt := by rw [e62, up2_ne (by omega)]
                  have k145 := (e62).trans (up2_ix (j := (17 * y2.toInt + y20.toInt).toNat) (by omega))
                  have kS := CT_step kg2 kg3 (by omega) (by omega) (by omega) (by omega) k145 kG
                  refine iv_inc (M := mX12_laysCheap) (C := (-1)) dX12_laysCheap_145 148 rfl rfl (by decide) rfl rfl (by decide) (by omega) (by omega) (fun v67 ev67 => ?_)
                  show PV _ _ _ _ _ _ _ 148 [.ref 123, .int y2, .int v67, .int v52] [] _
                  refine pv_goto (M := mX12_laysCheap) (tgt := 14) dX12_laysCheap_148 (by decide) ?_
                  refine pv_fg (lo2 := [.ref 123, .int y2, .int v67, pv_U]) ⟨Or.inr rfl, ⟨Or.inr rfl, ⟨Or.inr rfl, ⟨Or.inl rfl, trivial⟩⟩⟩⟩ ?_
                  have kb2 := kS.1
                  have kb3 : CTj m59 y2.toInt v67.toInt := by rw [show v67.toInt = y20.toInt - 1 by omega]; exact kS.2
                  exact ih27 v67 m59 n22 (by first | omega | assumption | exact (iv_rng _).2 | exact (iv_rng _).1 | decide) (by first | omega | assumption | exact (iv_rng _).2 | exact (iv_rng _).1 | decide) (by first | omega | assumption | (show y2.toInt ≤ (m59 123 40).toInt; omega) | decide) (by first | omega | assumption | (show v67.toInt ≤ (m59 123 41).toInt; omega) | decide) kb2 kb3 I60 K61 (by omega)
                · have c55 := iv_nle (X := v54.toInt) (Y := y2.toInt) c55 rfl rfl
                  refine pv_iload_n (M := mX12_laysCheap) 2 dX12_laysCheap_75 76 rfl rfl rfl ?_
                  refine pv_aload_n (M := mX12_laysCheap) 0 dX12_laysCheap_76 77 rfl rfl rfl ?_
                  refine iv_get (M := mX12_laysCheap) (l1 := 0) (l2 := 16) dX12_laysCheap_77 FX12 41 wd1214 (by decide) (tl123 hT) rfl I23 rfl 80 rfl (fun v70 ev70 pv70 qv70 => ?_)
                  have wv70 : v70.toInt = (m21 123 41).toInt := congrArg Int32.toInt ev70
                  refine pv_icmp_ge (M := mX12_laysCheap) (tgt := 133) dX12_laysCheap_80 83 rfl (by decide) (fun c71 => ?_) (fun c71 => ?_)
                  · have c71 := iv_le (X := v70.toInt) (Y := y20.toInt) c71 rfl rfl
                    have kG : (v52).toInt < 1000000000 → (y2.toInt = (m21 123 40).toInt ∧ y20.toInt = (m21 123 41).toInt) ∨ (y2.toInt < (m21 123 40).toInt ∧ ((y20.toInt < (m21 123 41).toInt ∧ (m21 149 y2.toInt.toNat).toInt = (m21 150 y20.toInt.toNat).toInt ∧ (m21 153 (17 * (y2.toInt + 1) + y20.toInt + 1).toNat).toInt = (v52).toInt) ∨ (m21 153 (17 * (y2.toInt + 1) + y20.toInt).toNat).toInt < 1000000000)) := fun q => by first | omega | exact absurd q (by decide) | (have z := k66 (by omega); omega)
                    refine pv_aload_n (M := mX12_laysCheap) 0 dX12_laysCheap_133 134 rfl rfl rfl ?_
                    refine mv_get (M := mX12_laysCheap) (v := .ref 153) dX12_laysCheap_134 FX12 46 wd1219 (by decide) (tl123 hT) rfl rfl 137 rfl ?_
                    refine pv_bipush (M := mX12_laysCheap) (v := 17) dX12_laysCheap_137 139 rfl (by decide) ?_
                    refine pv_iload_n (M := mX12_laysCheap) 1 dX12_laysCheap_139 140 rfl rfl rfl ?_
                    refine iv_imul (M := mX12_laysCheap) (X := 17) (Y := y2.toInt) dX12_laysCheap_140 141 rfl (by decide) rfl (by omega) (by omega) (fun v73 ev73 => ?_)
                    refine pv_iload_n (M := mX12_laysCheap) 2 dX12_laysCheap_141 142 rfl rfl rfl ?_
                    refine iv_iadd (M := mX12_laysCheap) (X := v73.toInt) (Y := y20.toInt) dX12_laysCheap_142 143 rfl rfl rfl (by omega) (by omega) (fun v74 ev74 => ?_)
                    refine pv_iload_n (M := mX12_laysCheap) 3 dX12_laysCheap_143 144 rfl rfl rfl ?_
                    refine iv_iast (M := mX12_laysCheap) (X := v74.toInt) (l1 := 0) (l2 := 1999999998) dX12_laysCheap_144 (tl153 hT) rfl (by omega) (by omega) I23 (fun _ => rfl) (by omega) (by omega) 145 rfl (fun m75 e78 I76 => ?_)
                    have K77 := K24.set e78 rfl
                    have w79 : (m75 123 40).toInt = (m21 123 40).toInt := by rw [e78, up2_ne (by omega)]
                    have w80 : (m75 123 41).toInt = (m21 123 41).toInt := by rw [e78, up2_ne (by omega)]
                    have k145 := (e78).trans (up2_ix (j := (17 * y2.toInt + y20.toInt).toNat) (by omega))
                    have kS := CT_step kg2 kg3 (by omega) (by omega) (by omega) (by omega) k145 kG
                    refine iv_inc (M := mX12_laysCheap) (C := (-1)) dX12_laysCheap_145 148 rfl rfl (by decide) rfl rfl (by decide) (by omega) (by omega) (fun v83 ev83 => ?_)
                    show PV _ _ _ _ _ _ _ 148 [.ref 123, .int y2, .int v83, .int v52] [] _
                    refine pv_goto (M := mX12_laysCheap) (tgt := 14) dX12_laysCheap_148 (by decide) ?_
                    refine pv_fg (lo2 := [.ref 123, .int y2, .int v83, pv_U]) ⟨Or.inr rfl, ⟨Or.inr rfl, ⟨Or.inr rfl, ⟨Or.inl rfl, trivial⟩⟩⟩⟩ ?_
                    have kb2 := kS.1
                    have kb3 : CTj m75 y2.toInt v83.toInt := by rw [show v83.toInt = y20.toInt - 1 by omega]; exact kS.2
                    exact ih27 v83 m75 n22 (by first | omega | assumption | exact (iv_rng _).2 | exact (iv_rng _).1 | decide) (by first | omega | assumption | exact (iv_rng _).2 | exact (iv_rng _).1 | decide) (by first | omega | assumption | (show y2.toInt ≤ (m75 123 40).toInt; omega) | decide) (by first | omega | assumption | (show v83.toInt ≤ (m75 123 41).toInt; omega) | decide) kb2 kb3 I76 K77 (by omega)
                  · have c71 := iv_nle (X := v70.toInt) (Y := y20.toInt) c71 rfl rfl
                    refine pv_aload_n (M := mX12_laysCheap) 0 dX12_laysCheap_83 84 rfl rfl rfl ?_
                    refine mv_get (M := mX12_laysCheap) (v := .ref 149) dX12_laysCheap_84 FX12 42 wd1215 (by decide) (tl123 hT) rfl rfl 87 rfl ?_
                    refine pv_iload_n (M := mX12_laysCheap) 1 dX12_laysCheap_87 88 rfl rfl rfl ?_
                    refine iv_iald (M := mX12_laysCheap) (X := y2.toInt) (l1 := 0) (l2 := 25) dX12_laysCheap_88 (tl149 hT) rfl (by omega) (by omega) I23 (fun _ => rfl) 89 rfl (fun v86 ev86 pv86 qv86 => ?_)
                    have k89 : v86.toInt = (m21 149 y2.toInt.toNat).toInt := congrArg Int32.toInt ev86
                    refine pv_aload_n (M := mX12_laysCheap) 0 dX12_laysCheap_89 90 rfl rfl rfl ?_
                    refine mv_get (M := mX12_laysCheap) (v := .ref 150) dX12_laysCheap_90 FX12 43 wd1216 (by decide) (tl123 hT) rfl rfl 93 rfl ?_
                    refine pv_iload_n (M := mX12_laysCheap) 2 dX12_laysCheap_93 94 rfl rfl rfl ?_
                    refine iv_iald (M := mX12_laysCheap) (X := y20.toInt) (l1 := 0) (l2 := 25) dX12_laysCheap_94 (tl150 hT) rfl (by omega) (by omega) I23 (fun _ => rfl) 95 rfl (fun v88 ev88 pv88 qv88 => ?_)
                    have k95 : v88.toInt = (m21 150 y20.toInt.toNat).toInt := congrArg Int32.toInt ev88
                    refine pv_icmp_ne (M := mX12_laysCheap) (tgt := 133) dX12_laysCheap_95 98 rfl (by decide) (fun c90 => ?_) (fun c90 => ?_)
                    · have c90 := iv_ne (X := v86.toInt) (Y := v88.toInt) c90 rfl rfl
                      have kG : (v52).toInt < 1000000000 → (y2.toInt = (m21 123 40).toInt ∧ y20.toInt = (m21 123 41).toInt) ∨ (y2.toInt < (m21 123 40).toInt ∧ ((y20.toInt < (m21 123 41).toInt ∧ (m21 149 y2.toInt.toNat).toInt = (m21 150 y20.toInt.toNat).toInt ∧ (m21 153 (17 * (y2.toInt + 1) + y20.toInt + 1).toNat).toInt = (v52).toInt) ∨ (m21 153 (17 * (y2.toInt + 1) + y20.toInt).toNat).toInt < 1000000000)) := fun q => by first | omega | exact absurd q (by decide) | (have z := k66 (by omega); omega)
                      refine pv_aload_n (M := mX12_laysCheap) 0 dX12_laysCheap_133 134 rfl rfl rfl ?_
                      refine mv_get (M := mX12_laysCheap) (v := .ref 153) dX12_laysCheap_134 FX12 46 wd1219 (by decide) (tl123 hT) rfl rfl 137 rfl ?_
                      refine pv_bipush (M := mX12_laysCheap) (v := 17) dX12_laysCheap_137 139 rfl (by decide) ?_
                      refine pv_iload_n (M := mX12_laysCheap) 1 dX12_laysCheap_139 140 rfl rfl rfl ?_
                      refine iv_imul (M := mX12_laysCheap) (X := 17) (Y := y2.toInt) dX12_laysCheap_140 141 rfl (by decide) rfl (by omega) (by omega) (fun v92 ev92 => ?_)
                      refine pv_iload_n (M := mX12_laysCheap) 2 dX12_laysCheap_141 142 rfl rfl rfl ?_
                      refine iv_iadd (M := mX12_laysCheap) (X := v92.toInt) (Y := y20.toInt) dX12_laysCheap_142 143 rfl rfl rfl (by omega) (by omega) (fun v93 ev93 => ?_)
                      refine pv_iload_n (M := mX12_laysCheap) 3 dX12_laysCheap_143 144 rfl rfl rfl ?_
                      refine iv_iast (M := mX12_laysCheap) (X := v93.toInt) (l1 := 0) (l2 := 1999999998) dX12_laysCheap_144 (tl153 hT) rfl (by omega) (by omega) I23 (fun _ => rfl) (by omega) (by omega) 145 rfl (fun m94 e97 I95 => ?_)
                      have K96 := K24.set e97 rfl
                      have w98 : (m94 123 40).toInt = (m21 123 40).toInt := by rw [e97, up2_ne (by omega)]
                      have w99 : (m94 123 41).toInt = (m21 123 41).toInt := by rw [e97, up2_ne (by omega)]
                      have k145 := (e97).trans (up2_ix (j := (17 * y2.toInt + y20.toInt).toNat) (by omega))
                      have kS := CT_step kg2 kg3 (by omega) (by omega) (by omega) (by omega) k145 kG
                      refine iv_inc (M := mX12_laysCheap) (C := (-1)) dX12_laysCheap_145 148 rfl rfl (by decide) rfl rfl (by decide) (by omega) (by omega) (fun v102 ev102 => ?_)
                      show PV _ _ _ _ _ _ _ 148 [.ref 123, .int y2, .int v102, .int v52] [] _
                      refine pv_goto (M := mX12_laysCheap) (tgt := 14) dX12_laysCheap_148 (by decide) ?_
                      refine pv_fg (lo2 := [.ref 123, .int y2, .int v102, pv_U]) ⟨Or.inr rfl, ⟨Or.inr rfl, ⟨Or.inr rfl, ⟨Or.inl rfl, trivial⟩⟩⟩⟩ ?_
                      have kb2 := kS.1
                      have kb3 : CTj m94 y2.toInt v102.toInt := by rw [show v102.toInt = y20.toInt - 1 by omega]; exact kS.2
                      exact ih27 v102 m94 n22 (by first | omega | assumption | exact (iv_rng _).2 | exact (iv_rng _).1 | decide) (by first | omega | assumption | exact (iv_rng _).2 | exact (iv_rng _).1 | decide) (by first | omega | assumption | (show y2.toInt ≤ (m94 123 40).toInt; omega) | decide) (by first | omega | assumption | (show v102.toInt ≤ (m94 123 41).toInt; omega) | decide) kb2 kb3 I95 K96 (by omega)
                    · have c90 := iv_eq (X := v86.toInt) (Y := v88.toInt) c90 rfl rfl
                      refine pv_aload_n (M := mX12_laysCheap) 0 dX12_laysCheap_98 99 rfl rfl rfl ?_
                      refine mv_get (M := mX12_laysCheap) (v := .ref 153) dX12_laysCheap_99 FX12 46 wd1219 (by decide) (tl123 hT) rfl rfl 102 rfl ?_
                      refine pv_bipush (M := mX12_laysCheap) (v := 17) dX12_laysCheap_102 104 rfl (by decide) ?_
                      refine pv_iload_n (M := mX12_laysCheap) 1 dX12_laysCheap_104 105 rfl rfl rfl ?_
                      refine pv_iconst (M := mX12_laysCheap) (v := 1) dX12_laysCheap_105 106 rfl (by decide) ?_
                      refine iv_iadd (M := mX12_laysCheap) (X := y2.toInt) (Y := 1) dX12_laysCheap_106 107 rfl rfl (by decide) (by omega) (by omega) (fun v105 ev105 => ?_)
                      refine iv_imul (M := mX12_laysCheap) (X := 17) (Y := v105.toInt) dX12_laysCheap_107 108 rfl (by decide) rfl (by omega) (by omega) (fun v106 ev106 => ?_)
                      refine pv_iload_n (M := mX12_laysCheap) 2 dX12_laysCheap_108 109 rfl rfl rfl ?_
                      refine iv_iadd (M := mX12_laysCheap) (X := v106.toInt) (Y := y20.toInt) dX12_laysCheap_109 110 rfl rfl rfl (by omega) (by omega) (fun v107 ev107 => ?_)
                      refine pv_iconst (M := mX12_laysCheap) (v := 1) dX12_laysCheap_110 111 rfl (by decide) ?_
                      refine iv_iadd (M := mX12_laysCheap) (X := v107.toInt) (Y := 1) dX12_laysCheap_111 112 rfl rfl (by decide) (by omega) (by omega) (fun v108 ev108 => ?_)
                      refine iv_iald (M := mX12_laysCheap) (X := v108.toInt) (l1 := 0) (l2 := 1999999998) dX12_laysCheap_112 (tl153 hT) rfl (by omega) (by omega) I23 (fun _ => rfl) 113 rfl (fun v109 ev109 pv109 qv109 => ?_)
                      refine pv_iload_n (M := mX12_laysCheap) 3 dX12_laysCheap_113 114 rfl rfl rfl ?_
                      refine pv_icmp_ge (M := mX12_laysCheap) (tgt := 133) dX12_laysCheap_114 117 rfl (by decide) (fun c110 => ?_) (fun c110 => ?_)
                      · have c110 := iv_le (X := v52.toInt) (Y := v109.toInt) c110 rfl rfl
                        have kG : (v52).toInt < 1000000000 → (y2.toInt = (m21 123 40).toInt ∧ y20.toInt = (m21 123 41).toInt) ∨ (y2.toInt < (m21 123 40).toInt ∧ ((y20.toInt < (m21 123 41).toInt ∧ (m21 149 y2.toInt.toNat).toInt = (m21 150 y20.toInt.toNat).toInt ∧ (m21 153 (17 * (y2.toInt + 1) + y20.toInt + 1).toNat).toInt = (v52).toInt) ∨ (m21 153 (17 * (y2.toInt + 1) + y20.toInt).toNat).toInt < 1000000000)) := fun q => by first | omega | exact absurd q (by decide) | (have z := k66 (by omega); omega)
                        refine pv_aload_n (M := mX12_laysCheap) 0 dX12_laysCheap_133 134 rfl rfl rfl ?_
                        refine mv_get (M := mX12_laysCheap) (v := .ref 153) dX12_laysCheap_134 FX12 46 wd1219 (by decide) (tl123 hT) rfl rfl 137 rfl ?_
                        refine pv_bipush (M := mX12_laysCheap) (v := 17) dX12_laysCheap_137 139 rfl (by decide) ?_
                        refine pv_iload_n (M := mX12_laysCheap) 1 dX12_laysCheap_139 140 rfl rfl rfl ?_
                        refine iv_imul (M := mX12_laysCheap) (X := 17) (Y := y2.toInt) dX12_laysCheap_140 141 rfl (by decide) rfl (by omega) (by omega) (fun v112 ev112 => ?_)
                        refine pv_iload_n (M := mX12_laysCheap) 2 dX12_laysCheap_141 142 rfl rfl rfl ?_
                        refine iv_iadd (M := mX12_laysCheap) (X := v112.toInt) (Y := y20.toInt) dX12_laysCheap_142 143 rfl rfl rfl (by omega) (by omega) (fun v113 ev113 => ?_)
                        refine pv_iload_n (M := mX12_laysCheap) 3 dX12_laysCheap_143 144 rfl rfl rfl ?_
                        refine iv_iast (M := mX12_laysCheap) (X := v113.toInt) (l1 := 0) (l2 := 1999999998) dX12_laysCheap_144 (tl153 hT) rfl (by omega) (by omega) I23 (fun _ => rfl) (by omega) (by omega) 145 rfl (fun m114 e117 I115 => ?_)
                        have K116 := K24.set e117 rfl
                        have w118 : (m114 123 40).toInt = (m21 123 40).toInt := by rw [e117, up2_ne (by omega)]
                        have w119 : (m114 123 41).toInt = (m21 123 41).toInt := by rw [e117, up2_ne (by omega)]
                        have k145 := (e117).trans (up2_ix (j := (17 * y2.toInt + y20.toInt).toNat) (by omega))
                        have kS := CT_step kg2 kg3 (by omega) (by omega) (by omega) (by omega) k145 kG
                        refine iv_inc (M := mX12_laysCheap) (C := (-1)) dX12_laysCheap_145 148 rfl rfl (by decide) rfl rfl (by decide) (by omega) (by omega) (fun v122 ev122 => ?_)
                        show PV _ _ _ _ _ _ _ 148 [.ref 123, .int y2, .int v122, .int v52] [] _
                        refine pv_goto (M := mX12_laysCheap) (tgt := 14) dX12_laysCheap_148 (by decide) ?_
                        refine pv_fg (lo2 := [.ref 123, .int y2, .int v122, pv_U]) ⟨Or.inr rfl, ⟨Or.inr rfl, ⟨Or.inr rfl, ⟨Or.inl rfl, trivial⟩⟩⟩⟩ ?_
                        have kb2 := kS.1
                        have kb3 : CTj m114 y2.toInt v122.toInt := by rw [show v122.toInt = y20.toInt - 1 by omega]; exact kS.2
                        exact ih27 v122 m114 n22 (by first | omega | assumption | exact (iv_rng _).2 | exact (iv_rng _).1 | decide) (by first | omega | assumption | exact (iv_rng _).2 | exact (iv_rng _).1 | decide) (by first | omega | assumption | (show y2.toInt ≤ (m114 123 40).toInt; omega) | decide) (by first | omega | assumption | (show v122.toInt ≤ (m114 123 41).toInt; omega) | decide) kb2 kb3 I115 K116 (by omega)
                      · have c110 := iv_nle (X := v52.toInt) (Y := v109.toInt) c110 rfl rfl
                        refine pv_aload_n (M := mX12_laysCheap) 0 dX12_laysCheap_117 118 rfl rfl rfl ?_
                        refine mv_get (M := mX12_laysCheap) (v := .ref 153) dX12_laysCheap_118 FX12 46 wd1219 (by decide) (tl123 hT) rfl rfl 121 rfl ?_
                        refine pv_bipush (M := mX12_laysCheap) (v := 17) dX12_laysCheap_121 123 rfl (by decide) ?_
                        refine pv_iload_n (M := mX12_laysCheap) 1 dX12_laysCheap_123 124 rfl rfl rfl ?_
                        refine pv_iconst (M := mX12_laysCheap) (v := 1) dX12_laysCheap_124 125 rfl (by decide) ?_
                        refine iv_iadd (M := mX12_laysCheap) (X := y2.toInt) (Y := 1) dX12_laysCheap_125 126 rfl rfl (by decide) (by omega) (by omega) (fun v125 ev125 => ?_)
                        refine iv_imul (M := mX12_laysCheap) (X := 17) (Y := v125.toInt) dX12_laysCheap_126 127 rfl (by decide) rfl (by omega) (by omega) (fun v126 ev126 => ?_)
                        refine pv_iload_n (M := mX12_laysCheap) 2 dX12_laysCheap_127 128 rfl rfl rfl ?_
                        refine iv_iadd (M := mX12_laysCheap) (X := v126.toInt) (Y := y20.toInt) dX12_laysCheap_128 129 rfl rfl rfl (by omega) (by omega) (fun v127 ev127 => ?_)
                        refine pv_iconst (M := mX12_laysCheap) (v := 1) dX12_laysCheap_129 130 rfl (by decide) ?_
                        refine iv_iadd (M := mX12_laysCheap) (X := v127.toInt) (Y := 1) dX12_laysCheap_130 131 rfl rfl (by decide) (by omega) (by omega) (fun v128 ev128 => ?_)
                        refine iv_iald (M := mX12_laysCheap) (X := v128.toInt) (l1 := 0) (l2 := 1999999998) dX12_laysCheap_131 (tl153 hT) rfl (by omega) (by omega) I23 (fun _ => rfl) 132 rfl (fun v129 ev129 pv129 qv129 => ?_)
                        have k132 : v129.toInt = (m21 153 (17 * (y2.toInt + 1) + y20.toInt + 1).toNat).toInt := (congrArg Int32.toInt ev129).trans (congrArg (fun z => (m21 153 z).toInt) (by omega))
                        refine pv_istore_n (M := mX12_laysCheap) 3 (lo2 := [.ref 123, .int y2, .int y20, .int v129]) dX12_laysCheap_132 133 rfl rfl (by decide) rfl rfl ?_
                        have kG : (v129).toInt < 1000000000 → (y2.toInt = (m21 123 40).toInt ∧ y20.toInt = (m21 123 41).toInt) ∨ (y2.toInt < (m21 123 40).toInt ∧ ((y20.toInt < (m21 123 41).toInt ∧ (m21 149 y2.toInt.toNat).toInt = (m21 150 y20.toInt.toNat).toInt ∧ (m21 153 (17 * (y2.toInt + 1) + y20.toInt + 1).toNat).toInt = (v129).toInt) ∨ (m21 153 (17 * (y2.toInt + 1) + y20.toInt).toNat).toInt < 1000000000)) := fun q => by first | omega | exact absurd q (by decide) | (have z := k66 (by omega); omega)
                        refine pv_aload_n (M := mX12_laysCheap) 0 dX12_laysCheap_133 134 rfl rfl rfl ?_
                        refine mv_get (M := mX12_laysCheap) (v := .ref 153) dX12_laysCheap_134 FX12 46 wd1219 (by decide) (tl123 hT) rfl rfl 137 rfl ?_
                        refine pv_bipush (M := mX12_laysCheap) (v := 17) dX12_laysCheap_137 139 rfl (by decide) ?_
                        refine pv_iload_n (M := mX12_laysCheap) 1 dX12_laysCheap_139 140 rfl rfl rfl ?_
                        refine iv_imul (M := mX12_laysCheap) (X := 17) (Y := y2.toInt) dX12_laysCheap_140 141 rfl (by decide) rfl (by omega) (by omega) (fun v132 ev132 => ?_)
                        refine pv_iload_n (M := mX12_laysCheap) 2 dX12_laysCheap_141 142 rfl rfl rfl ?_
                        refine iv_iadd (M := mX12_laysCheap) (X := v132.toInt) (Y := y20.toInt) dX12_laysCheap_142 143 rfl rfl rfl (by omega) (by omega) (fun v133 ev133 => ?_)
                        refine pv_iload_n (M := mX12_laysCheap) 3 dX12_laysCheap_143 144 rfl rfl rfl ?_
                        refine iv_iast (M := mX12_laysCheap) (X := v133.toInt) (l1 := 0) (l2 := 1999999998) dX12_laysCheap_144 (tl153 hT) rfl (by omega) (by omega) I23 (fun _ => rfl) (by omega) (by omega) 145 rfl (fun m134 e137 I135 => ?_)
                        have K136 := K24.set e137 rfl
                        have w138 : (m134 123 40).toInt = (m21 123 40).toInt := by rw [e137, up2_ne (by omega)]
                        have w139 : (m134 123 41).toInt = (m21 123 41).toInt := by rw [e137, up2_ne (by omega)]
                        have k145 := (e137).trans (up2_ix (j := (17 * y2.toInt + y20.toInt).toNat) (by omega))
                        have kS := CT_step kg2 kg3 (by omega) (by omega) (by omega) (by omega) k145 kG
                        refine iv_inc (M := mX12_laysCheap) (C := (-1)) dX12_laysCheap_145 148 rfl rfl (by decide) rfl rfl (by decide) (by omega) (by omega) (fun v142 ev142 => ?_)
                        show PV _ _ _ _ _ _ _ 148 [.ref 123, .int y2, .int v142, .int v129] [] _
                        refine pv_goto (M := mX12_laysCheap) (tgt := 14) dX12_laysCheap_148 (by decide) ?_
                        refine pv_fg (lo2 := [.ref 123, .int y2, .int v142, pv_U]) ⟨Or.inr rfl, ⟨Or.inr rfl, ⟨Or.inr rfl, ⟨Or.inl rfl, trivial⟩⟩⟩⟩ ?_
                        have kb2 := kS.1
                        have kb3 : CTj m134 y2.toInt v142.toInt := by rw [show v142.toInt = y20.toInt - 1 by omega]; exact kS.2
                        exact ih27 v142 m134 n22 (by first | omega | assumption | exact (iv_rng _).2 | exact (iv_rng _).1 | decide) (by first | omega | assumption | exact (iv_rng _).2 | exact (iv_rng _).1 | decide) (by first | omega | assumption | (show y2.toInt ≤ (m134 123 40).toInt; omega) | decide) (by first | omega | assumption | (show v142.toInt ≤ (m134 123 41).toInt; omega) | decide) kb2 kb3 I135 K136 (by omega)
              · have c44 := iv_eq (X := y2.toInt) (Y := v43.toInt) c44 rfl rfl
                refine pv_iload_n (M := mX12_laysCheap) 2 dX12_laysCheap_26 27 rfl rfl rfl ?_
                refine pv_aload_n (M := mX12_laysCheap) 0 dX12_laysCheap_27 28 rfl rfl rfl ?_
                refine iv_get (M := mX12_laysCheap) (l1 := 0) (l2 := 16) dX12_laysCheap_28 FX12 41 wd1214 (by decide) (tl123 hT) rfl I23 rfl 31 rfl (fun v145 ev145 pv145 qv145 => ?_)
                have wv145 : v145.toInt = (m21 123 41).toInt := congrArg Int32.toInt ev145
                refine pv_icmp_ne (M := mX12_laysCheap) (tgt := 38) dX12_laysCheap_31 34 rfl (by decide) (fun c146 => ?_) (fun c146 => ?_)
                · have c146 := iv_ne (X := y20.toInt) (Y := v145.toInt) c146 rfl rfl
                  refine pv_ldcw (M := mX12_laysCheap) (v := 1000000000) dX12_laysCheap_38 41 rfl wd1583 ?_
                  refine pv_goto (M := mX12_laysCheap) (tgt := 66) dX12_laysCheap_41 (by decide) ?_
                  try have k66 := r1000000000
                  refine pv_istore_n (M := mX12_laysCheap) 3 (lo2 := [.ref 123, .int y2, .int y20, .int 1000000000]) dX12_laysCheap_66 67 rfl rfl (by decide) rfl rfl ?_
                  refine pv_iload_n (M := mX12_laysCheap) 1 dX12_laysCheap_67 68 rfl rfl rfl ?_
                  refine pv_aload_n (M := mX12_laysCheap) 0 dX12_laysCheap_68 69 rfl rfl rfl ?_
                  refine iv_get (M := mX12_laysCheap) (l1 := 0) (l2 := 40) dX12_laysCheap_69 FX12 40 wd1213 (by decide) (tl123 hT) rfl I23 rfl 72 rfl (fun v148 ev148 pv148 qv148 => ?_)
                  have wv148 : v148.toInt = (m21 123 40).toInt := congrArg Int32.toInt ev148
                  refine pv_icmp_ge (M := mX12_laysCheap) (tgt := 133) dX12_laysCheap_72 75 rfl (by decide) (fun c149 => ?_) (fun c149 => ?_)
                  · have c149 := iv_le (X := v148.toInt) (Y := y2.toInt) c149 rfl rfl
                    have kG : ((1000000000 : Int32)).toInt < 1000000000 → (y2.toInt = (m21 123 40).toInt ∧ y20.toInt = (m21 123 41).toInt) ∨ (y2.toInt < (m21 123 40).toInt ∧ ((y20.toInt < (m21 123 41).toInt ∧ (m21 149 y2.toInt.toNat).toInt = (m21 150 y20.toInt.toNat).toInt ∧ (m21 153 (17 * (y2.toInt + 1) + y20.toInt + 1).toNat).toInt = ((1000000000 : Int32)).toInt) ∨ (m21 153 (17 * (y2.toInt + 1) + y20.toInt).toNat).toInt < 1000000000)) := fun q => by first | omega | exact absurd q (by decide) | (have z := k66 (by omega); omega)
                    refine pv_aload_n (M := mX12_laysCheap) 0 dX12_laysCheap_133 134 rfl rfl rfl ?_
                    refine mv_get (M := mX12_laysCheap) (v := .ref 153) dX12_laysCheap_134 FX12 46 wd1219 (by decide) (tl123 hT) rfl rfl 137 rfl ?_
                    refine pv_bipush (M := mX12_laysCheap) (v := 17) dX12_laysCheap_137 139 rfl (by decide) ?_
                    refine pv_iload_n (M := mX12_laysCheap) 1 dX12_laysCheap_139 140 rfl rfl rfl ?_
                    refine iv_imul (M := mX12_laysCheap) (X := 17) (Y := y2.toInt) dX12_laysCheap_140 141 rfl (by decide) rfl (by omega) (by omega) (fun v151 ev151 => ?_)
                    refine pv_iload_n (M := mX12_laysCheap) 2 dX12_laysCheap_141 142 rfl rfl rfl ?_
                    refine iv_iadd (M := mX12_laysCheap) (X := v151.toInt) (Y := y20.toInt) dX12_laysCheap_142 143 rfl rfl rfl (by omega) (by omega) (fun v152 ev152 => ?_)
                    refine pv_iload_n (M := mX12_laysCheap) 3 dX12_laysCheap_143 144 rfl rfl rfl ?_
                    refine iv_iast (M := mX12_laysCheap) (X := v152.toInt) (l1 := 0) (l2 := 1999999998) dX12_laysCheap_144 (tl153 hT) rfl (by omega) (by omega) I23 (fun _ => rfl) (by decide) (by decide) 145 rfl (fun m153 e156 I154 => ?_)
                    have K155 := K24.set e156 rfl
                    have w157 : (m153 123 40).toInt = (m21 123 40).toInt := by rw [e156, up2_ne (by omega)]
                    have w158 : (m153 123 41).toInt = (m21 123 41).toInt := by rw [e156, up2_ne (by omega)]
                    have k145 := (e156).trans (up2_ix (j := (17 * y2.toInt + y20.toInt).toNat) (by omega))
                    have kS := CT_step kg2 kg3 (by omega) (by omega) (by omega) (by omega) k145 kG
                    refine iv_inc (M := mX12_laysCheap) (C := (-1)) dX12_laysCheap_145 148 rfl rfl (by decide) rfl rfl (by decide) (by omega) (by omega) (fun v161 ev161 => ?_)
                    show PV _ _ _ _ _ _ _ 148 [.ref 123, .int y2, .int v161, .int 1000000000] [] _
                    refine pv_goto (M := mX12_laysCheap) (tgt := 14) dX12_laysCheap_148 (by decide) ?_
                    refine pv_fg (lo2 := [.ref 123, .int y2, .int v161, pv_U]) ⟨Or.inr rfl, ⟨Or.inr rfl, ⟨Or.inr rfl, ⟨Or.inl rfl, trivial⟩⟩⟩⟩ ?_
                    have kb2 := kS.1
                    have kb3 : CTj m153 y2.toInt v161.toInt := by rw [show v161.toInt = y20.toInt - 1 by omega]; exact kS.2
                    exact ih27 v161 m153 n22 (by first | omega | assumption | exact (iv_rng _).2 | exact (iv_rng _).1 | decide) (by first | omega | assumption | exact (iv_rng _).2 | exact (iv_rng _).1 | decide) (by first | omega | assumption | (show y2.toInt ≤ (m153 123 40).toInt; omega) | decide) (by first | omega | assumption | (show v161.toInt ≤ (m153 123 41).toInt; omega) | decide) kb2 kb3 I154 K155 (by omega)
                  · have c149 := iv_nle (X := v148.toInt) (Y := y2.toInt) c149 rfl rfl
                    refine pv_iload_n (M := mX12_laysCheap) 2 dX12_laysCheap_75 76 rfl rfl rfl ?_
                    refine pv_aload_n (M := mX12_laysCheap) 0 dX12_laysCheap_76 77 rfl rfl rfl ?_
                    refine iv_get (M := mX12_laysCheap) (l1 := 0) (l2 := 16) dX12_laysCheap_77 FX12 41 wd1214 (by decide) (tl123 hT) rfl I23 rfl 80 rfl (fun v164 ev164 pv164 qv164 => ?_)
                    have wv164 : v164.toInt = (m21 123 41).toInt := congrArg Int32.toInt ev164
                    refine pv_icmp_ge (M := mX12_laysCheap) (tgt := 133) dX12_laysCheap_80 83 rfl (by decide) (fun c165 => ?_) (fun c165 => ?_)
                    · have c165 := iv_le (X := v164.toInt) (Y := y20.toInt) c165 rfl rfl
                      have kG : ((1000000000 : Int32)).toInt < 1000000000 → (y2.toInt = (m21 123 40).toInt ∧ y20.toInt = (m21 123 41).toInt) ∨ (y2.toInt < (m21 123 40).toInt ∧ ((y20.toInt < (m21 123 41).toInt ∧ (m21 149 y2.toInt.toNat).toInt = (m21 150 y20.toInt.toNat).toInt ∧ (m21 153 (17 * (y2.toInt + 1) + y20.toInt + 1).toNat).toInt = ((1000000000 : Int32)).toInt) ∨ (m21 153 (17 * (y2.toInt + 1) + y20.toInt).toNat).toInt < 1000000000)) := fun q => by first | omega | exact absurd q (by decide) | (have z := k66 (by omega); omega)
                      refine pv_aload_n (M := mX12_laysCheap) 0 dX12_laysCheap_133 134 rfl rfl rfl ?_
                      refine mv_get (M := mX12_laysCheap) (v := .ref 153) dX12_laysCheap_134 FX12 46 wd1219 (by decide) (tl123 hT) rfl rfl 137 rfl ?_
                      refine pv_bipush (M := mX12_laysCheap) (v := 17) dX12_laysCheap_137 139 rfl (by decide) ?_
                      refine pv_iload_n (M := mX12_laysCheap) 1 dX12_laysCheap_139 140 rfl rfl rfl ?_
                      refine iv_imul (M := mX12_laysCheap) (X := 17) (Y := y2.toInt) dX12_laysCheap_140 141 rfl (by decide) rfl (by omega) (by omega) (fun v167 ev167 => ?_)
                      refine pv_iload_n (M := mX12_laysCheap) 2 dX12_laysCheap_141 142 rfl rfl rfl ?_
                      refine iv_iadd (M := mX12_laysCheap) (X := v167.toInt) (Y := y20.toInt) dX12_laysCheap_142 143 rfl rfl rfl (by omega) (by omega) (fun v168 ev168 => ?_)
                      refine pv_iload_n (M := mX12_laysCheap) 3 dX12_laysCheap_143 144 rfl rfl rfl ?_
                      refine iv_iast (M := mX12_laysCheap) (X := v168.toInt) (l1 := 0) (l2 := 1999999998) dX12_laysCheap_144 (tl153 hT) rfl (by omega) (by omega) I23 (fun _ => rfl) (by decide) (by decide) 145 rfl (fun m169 e172 I170 => ?_)
                      have K171 := K24.set e172 rfl
                      have w173 : (m169 123 40).toInt = (m21 123 40).toInt := by rw [e172, up2_ne (by omega)]
                      have w174 : (m169 123 41).toInt = (m21 123 41).toInt := by rw [e172, up2_ne (by omega)]
                      have k145 := (e172).trans (up2_ix (j := (17 * y2.toInt + y20.toInt).toNat) (by omega))
                      have kS := CT_step kg2 kg3 (by omega) (by omega) (by omega) (by omega) k145 kG
                      refine iv_inc (M := mX12_laysCheap) (C := (-1)) dX12_laysCheap_145 148 rfl rfl (by decide) rfl rfl (by decide) (by omega) (by omega) (fun v177 ev177 => ?_)
                      show PV _ _ _ _ _ _ _ 148 [.ref 123, .int y2, .int v177, .int 1000000000] [] _
                      refine pv_goto (M := mX12_laysCheap) (tgt := 14) dX12_laysCheap_148 (by decide) ?_
                      refine pv_fg (lo2 := [.ref 123, .int y2, .int v177, pv_U]) ⟨Or.inr rfl, ⟨Or.inr rfl, ⟨Or.inr rfl, ⟨Or.inl rfl, trivial⟩⟩⟩⟩ ?_
                      have kb2 := kS.1
                      have kb3 : CTj m169 y2.toInt v177.toInt := by rw [show v177.toInt = y20.toInt - 1 by omega]; exact kS.2
                      exact ih27 v177 m169 n22 (by first | omega | assumption | exact (iv_rng _).2 | exact (iv_rng _).1 | decide) (by first | omega | assumption | exact (iv_rng _).2 | exact (iv_rng _).1 | decide) (by first | omega | assumption | (show y2.toInt ≤ (m169 123 40).toInt; omega) | decide) (by first | omega | assumption | (show v177.toInt ≤ (m169 123 41).toInt; omega) | decide) kb2 kb3 I170 K171 (by omega)
                    · have c165 := iv_nle (X := v164.toInt) (Y := y20.toInt) c165 rfl rfl
                      refine pv_aload_n (M := mX12_laysCheap) 0 dX12_laysCheap_83 84 rfl rfl rfl ?_
                      refine mv_get (M := mX12_laysCheap) (v := .ref 149) dX12_laysCheap_84 FX12 42 wd1215 (by decide) (tl123 hT) rfl rfl 87 rfl ?_
                      refine pv_iload_n (M := mX12_laysCheap) 1 dX12_laysCheap_87 88 rfl rfl rfl ?_
                      refine iv_iald (M := mX12_laysCheap) (X := y2.toInt) (l1 := 0) (l2 := 25) dX12_laysCheap_88 (tl149 hT) rfl (by omega) (by omega) I23 (fun _ => rfl) 89 rfl (fun v180 ev180 pv180 qv180 => ?_)
                      have k89 : v180.toInt = (m21 149 y2.toInt.toNat).toInt := congrArg Int32.toInt ev180
                      refine pv_aload_n (M := mX12_laysCheap) 0 dX12_laysCheap_89 90 rfl rfl rfl ?_
                      refine mv_get (M := mX12_laysCheap) (v := .ref 150) dX12_laysCheap_90 FX12 43 wd1216 (by decide) (tl123 hT) rfl rfl 93 rfl ?_
                      refine pv_iload_n (M := mX12_laysCheap) 2 dX12_laysCheap_93 94 rfl rfl rfl ?_
                      refine iv_iald (M := mX12_laysCheap) (X := y20.toInt) (l1 := 0) (l2 := 25) dX12_laysCheap_94 (tl150 hT) rfl (by omega) (by omega) I23 (fun _ => rfl) 95 rfl (fun v182 ev182 pv182 qv182 => ?_)
                      have k95 : v182.toInt = (m21 150 y20.toInt.toNat).toInt := congrArg Int32.toInt ev182
                      refine pv_icmp_ne (M := mX12_laysCheap) (tgt := 133) dX12_laysCheap_95 98 rfl (by decide) (fun c184 => ?_) (fun c184 => ?_)
                      · have c184 := iv_ne (X := v180.toInt) (Y := v182.toInt) c184 rfl rfl
                        have kG : ((1000000000 : Int32)).toInt < 1000000000 → (y2.toInt = (m21 123 40).toInt ∧ y20.toInt = (m21 123 41).toInt) ∨ (y2.toInt < (m21 123 40).toInt ∧ ((y20.toInt < (m21 123 41).toInt ∧ (m21 149 y2.toInt.toNat).toInt = (m21 150 y20.toInt.toNat).toInt ∧ (m21 153 (17 * (y2.toInt + 1) + y20.toInt + 1).toNat).toInt = ((1000000000 : Int32)).toInt) ∨ (m21 153 (17 * (y2.toInt + 1) + y20.toInt).toNat).toInt < 1000000000)) := fun q => by first | omega | exact absurd q (by decide) | (have z := k66 (by omega); omega)
                        refine pv_aload_n (M := mX12_laysCheap) 0 dX12_laysCheap_133 134 rfl rfl rfl ?_
                        refine mv_get (M := mX12_laysCheap) (v := .ref 153) dX12_laysCheap_134 FX12 46 wd1219 (by decide) (tl123 hT) rfl rfl 137 rfl ?_
                        refine pv_bipush (M := mX12_laysCheap) (v := 17) dX12_laysCheap_137 139 rfl (by decide) ?_
                        refine pv_iload_n (M := mX12_laysCheap) 1 dX12_laysCheap_139 140 rfl rfl rfl ?_
                        refine iv_imul (M := mX12_laysCheap) (X := 17) (Y := y2.toInt) dX12_laysCheap_140 141 rfl (by decide) rfl (by omega) (by omega) (fun v186 ev186 => ?_)
                        refine pv_iload_n (M := mX12_laysCheap) 2 dX12_laysCheap_141 142 rfl rfl rfl ?_
                        refine iv_iadd (M := mX12_laysCheap) (X := v186.toInt) (Y := y20.toInt) dX12_laysCheap_142 143 rfl rfl rfl (by omega) (by omega) (fun v187 ev187 => ?_)
                        refine pv_iload_n (M := mX12_laysCheap) 3 dX12_laysCheap_143 144 rfl rfl rfl ?_
                        refine iv_iast (M := mX12_laysCheap) (X := v187.toInt) (l1 := 0) (l2 := 1999999998) dX12_laysCheap_144 (tl153 hT) rfl (by omega) (by omega) I23 (fun _ => rfl) (by decide) (by decide) 145 rfl (fun m188 e191 I189 => ?_)
                        have K190 := K24.set e191 rfl
                        have w192 : (m188 123 40).toInt = (m21 123 40).toInt := by rw [e191, up2_ne (by omega)]
                        have w193 : (m188 123 41).toInt = (m21 123 41).toInt := by rw [e191, up2_ne (by omega)]
                        have k145 := (e191).trans (up2_ix (j := (17 * y2.toInt + y20.toInt).toNat) (by omega))
                        have kS := CT_step kg2 kg3 (by omega) (by omega) (by omega) (by omega) k145 kG
                        refine iv_inc (M := mX12_laysCheap) (C := (-1)) dX12_laysCheap_145 148 rfl rfl (by decide) rfl rfl (by decide) (by omega) (by omega) (fun v196 ev196 => ?_)
                        show PV _ _ _ _ _ _ _ 148 [.ref 123, .int y2, .int v196, .int 1000000000] [] _
                        refine pv_goto (M := mX12_laysCheap) (tgt := 14) dX12_laysCheap_148 (by decide) ?_
                        refine pv_fg (lo2 := [.ref 123, .int y2, .int v196, pv_U]) ⟨Or.inr rfl, ⟨Or.inr rfl, ⟨Or.inr rfl, ⟨Or.inl rfl, trivial⟩⟩⟩⟩ ?_
                        have kb2 := kS.1
                        have kb3 : CTj m188 y2.toInt v196.toInt := by rw [show v196.toInt = y20.toInt - 1 by omega]; exact kS.2
                        exact ih27 v196 m188 n22 (by first | omega | assumption | exact (iv_rng _).2 | exact (iv_rng _).1 | decide) (by first | omega | assumption | exact (iv_rng _).2 | exact (iv_rng _).1 | decide) (by first | omega | assumption | (show y2.toInt ≤ (m188 123 40).toInt; omega) | decide) (by first | omega | assumption | (show v196.toInt ≤ (m188 123 41).toInt; omega) | decide) kb2 kb3 I189 K190 (by omega)
                      · have c184 := iv_eq (X := v180.toInt) (Y := v182.toInt) c184 rfl rfl
                        refine pv_aload_n (M := mX12_laysCheap) 0 dX12_laysCheap_98 99 rfl rfl rfl ?_
                        refine mv_get (M := mX12_laysCheap) (v := .ref 153) dX12_laysCheap_99 FX12 46 wd1219 (by decide) (tl123 hT) rfl rfl 102 rfl ?_
                        refine pv_bipush (M := mX12_laysCheap) (v := 17) dX12_laysCheap_102 104 rfl (by decide) ?_
                        refine pv_iload_n (M := mX12_laysCheap) 1 dX12_laysCheap_104 105 rfl rfl rfl ?_
                        refine pv_iconst (M := mX12_laysCheap) (v := 1) dX12_laysCheap_105 106 rfl (by decide) ?_
                        refine iv_iadd (M := mX12_laysCheap) (X := y2.toInt) (Y := 1) dX12_laysCheap_106 107 rfl rfl (by decide) (by omega) (by omega) (fun v199 ev199 => ?_)
                        refine iv_imul (M := mX12_laysCheap) (X := 17) (Y := v199.toInt) dX12_laysCheap_107 108 rfl (by decide) rfl (by omega) (by omega) (fun v200 ev200 => ?_)
                        refine pv_iload_n (M := mX12_laysCheap) 2 dX12_laysCheap_108 109 rfl rfl rfl ?_
                        refine iv_iadd (M := mX12_laysCheap) (X := v200.toInt) (Y := y20.toInt) dX12_laysCheap_109 110 rfl rfl rfl (by omega) (by omega) (fun v201 ev201 => ?_)
                        refine pv_iconst (M := mX12_laysCheap) (v := 1) dX12_laysCheap_110 111 rfl (by decide) ?_
                        refine iv_iadd (M := mX12_laysCheap) (X := v201.toInt) (Y := 1) dX12_laysCheap_111 112 rfl rfl (by decide) (by omega) (by omega) (fun v202 ev202 => ?_)
                        refine iv_iald (M := mX12_laysCheap) (X := v202.toInt) (l1 := 0) (l2 := 1999999998) dX12_laysCheap_112 (tl153 hT) rfl (by omega) (by omega) I23 (fun _ => rfl) 113 rfl (fun v203 ev203 pv203 qv203 => ?_)
                        refine pv_iload_n (M := mX12_laysCheap) 3 dX12_laysCheap_113 114 rfl rfl rfl ?_
                        refine pv_icmp_ge (M := mX12_laysCheap) (tgt := 133) dX12_laysCheap_114 117 rfl (by decide) (fun c204 => ?_) (fun c204 => ?_)
                        · have c204 := iv_le (X := 1000000000) (Y := v203.toInt) c204 (by decide) rfl
                          have kG : ((1000000000 : Int32)).toInt < 1000000000 → (y2.toInt = (m21 123 40).toInt ∧ y20.toInt = (m21 123 41).toInt) ∨ (y2.toInt < (m21 123 40).toInt ∧ ((y20.toInt < (m21 123 41).toInt ∧ (m21 149 y2.toInt.toNat).toInt = (m21 150 y20.toInt.toNat).toInt ∧ (m21 153 (17 * (y2.toInt + 1) + y20.toInt + 1).toNat).toInt = ((1000000000 : Int32)).toInt) ∨ (m21 153 (17 * (y2.toInt + 1) + y20.toInt).toNat).toInt < 1000000000)) := fun q => by first | omega | exact absurd q (by decide) | (have z := k66 (by omega); omega)
                          refine pv_aload_n (M := mX12_laysCheap) 0 dX12_laysCheap_133 134 rfl rfl rfl ?_
                          refine mv_get (M := mX12_laysCheap) (v := .ref 153) dX12_laysCheap_134 FX12 46 wd1219 (by decide) (tl123 hT) rfl rfl 137 rfl ?_
                          refine pv_bipush (M := mX12_laysCheap) (v := 17) dX12_laysCheap_137 139 rfl (by decide) ?_
                          refine pv_iload_n (M := mX12_laysCheap) 1 dX12_laysCheap_139 140 rfl rfl rfl ?_
                          refine iv_imul (M := mX12_laysCheap) (X := 17) (Y := y2.toInt) dX12_laysCheap_140 141 rfl (by decide) rfl (by omega) (by omega) (fun v206 ev206 => ?_)
                          refine pv_iload_n (M := mX12_laysCheap) 2 dX12_laysCheap_141 142 rfl rfl rfl ?_
                          refine iv_iadd (M := mX12_laysCheap) (X := v206.toInt) (Y := y20.toInt) dX12_laysCheap_142 143 rfl rfl rfl (by omega) (by omega) (fun v207 ev207 => ?_)
                          refine pv_iload_n (M := mX12_laysCheap) 3 dX12_laysCheap_143 144 rfl rfl rfl ?_
                          refine iv_iast (M := mX12_laysCheap) (X := v207.toInt) (l1 := 0) (l2 := 1999999998) dX12_laysCheap_144 (tl153 hT) rfl (by omega) (by omega) I23 (fun _ => rfl) (by decide) (by decide) 145 rfl (fun m208 e211 I209 => ?_)
                          have K210 := K24.set e211 rfl
                          have w212 : (m208 123 40).toInt = (m21 123 40).toInt := by rw [e211, up2_ne (by omega)]
                          have w213 : (m208 123 41).toInt = (m21 123 41).toInt := by rw [e211, up2_ne (by omega)]
                          have k145 := (e211).trans (up2_ix (j := (17 * y2.toInt + y20.toInt).toNat) (by omega))
                          have kS := CT_step kg2 kg3 (by omega) (by omega) (by omega) (by omega) k145 kG
                          refine iv_inc (M := mX12_laysCheap) (C := (-1)) dX12_laysCheap_145 148 rfl rfl (by decide) rfl rfl (by decide) (by omega) (by omega) (fun v216 ev216 => ?_)
                          show PV _ _ _ _ _ _ _ 148 [.ref 123, .int y2, .int v216, .int 1000000000] [] _
                          refine pv_goto (M := mX12_laysCheap) (tgt := 14) dX12_laysCheap_148 (by decide) ?_
                          refine pv_fg (lo2 := [.ref 123, .int y2, .int v216, pv_U]) ⟨Or.inr rfl, ⟨Or.inr rfl, ⟨Or.inr rfl, ⟨Or.inl rfl, trivial⟩⟩⟩⟩ ?_
                          have kb2 := kS.1
                          have kb3 : CTj m208 y2.toInt v216.toInt := by rw [show v216.toInt = y20.toInt - 1 by omega]; exact kS.2
                          exact ih27 v216 m208 n22 (by first | omega | assumption | exact (iv_rng _).2 | exact (iv_rng _).1 | decide) (by first | omega | assumption | exact (iv_rng _).2 | exact (iv_rng _).1 | decide) (by first | omega | assumption | (show y2.toInt ≤ (m208 123 40).toInt; omega) | decide) (by first | omega | assumption | (show v216.toInt ≤ (m208 123 41).toInt; omega) | decide) kb2 kb3 I209 K210 (by omega)
                        · have c204 := iv_nle (X := 1000000000) (Y := v203.toInt) c204 (by decide) rfl
                          refine pv_aload_n (M := mX12_laysCheap) 0 dX12_laysCheap_117 118 rfl rfl rfl ?_
                          refine mv_get (M := mX12_laysCheap) (v := .ref 153) dX12_laysCheap_118 FX12 46 wd1219 (by decide) (tl123 hT) rfl rfl 121 rfl ?_
                          refine pv_bipush (M := mX12_laysCheap) (v := 17) dX12_laysCheap_121 123 rfl (by decide) ?_
                          refine pv_iload_n (M := mX12_laysCheap) 1 dX12_laysCheap_123 124 rfl rfl rfl ?_
                          refine pv_iconst (M := mX12_laysCheap) (v := 1) dX12_laysCheap_124 125 rfl (by decide) ?_
                          refine iv_iadd (M := mX12_laysCheap) (X := y2.toInt) (Y := 1) dX12_laysCheap_125 126 rfl rfl (by decide) (by omega) (by omega) (fun v219 ev219 => ?_)
                          refine iv_imul (M := mX12_laysCheap) (X := 17) (Y := v219.toInt) dX12_laysCheap_126 127 rfl (by decide) rfl (by omega) (by omega) (fun v220 ev220 => ?_)
                          refine pv_iload_n (M := mX12_laysCheap) 2 dX12_laysCheap_127 128 rfl rfl rfl ?_
                          refine iv_iadd (M := mX12_laysCheap) (X := v220.toInt) (Y := y20.toInt) dX12_laysCheap_128 129 rfl rfl rfl (by omega) (by omega) (fun v221 ev221 => ?_)
                          refine pv_iconst (M := mX12_laysCheap) (v := 1) dX12_laysCheap_129 130 rfl (by decide) ?_
                          refine iv_iadd (M := mX12_laysCheap) (X := v221.toInt) (Y := 1) dX12_laysCheap_130 131 rfl rfl (by decide) (by omega) (by omega) (fun v222 ev222 => ?_)
                          refine iv_iald (M := mX12_laysCheap) (X := v222.toInt) (l1 := 0) (l2 := 1999999998) dX12_laysCheap_131 (tl153 hT) rfl (by omega) (by omega) I23 (fun _ => rfl) 132 rfl (fun v223 ev223 pv223 qv223 => ?_)
                          have k132 : v223.toInt = (m21 153 (17 * (y2.toInt + 1) + y20.toInt + 1).toNat).toInt := (congrArg Int32.toInt ev223).trans (congrArg (fun z => (m21 153 z).toInt) (by omega))
                          refine pv_istore_n (M := mX12_laysCheap) 3 (lo2 := [.ref 123, .int y2, .int y20, .int v223]) dX12_laysCheap_132 133 rfl rfl (by decide) rfl rfl ?_
                          have kG : (v223).toInt < 1000000000 → (y2.toInt = (m21 123 40).toInt ∧ y20.toInt = (m21 123 41).toInt) ∨ (y2.toInt < (m21 123 40).toInt ∧ ((y20.toInt < (m21 123 41).toInt ∧ (m21 149 y2.toInt.toNat).toInt = (m21 150 y20.toInt.toNat).toInt ∧ (m21 153 (17 * (y2.toInt + 1) + y20.toInt + 1).toNat).toInt = (v223).toInt) ∨ (m21 153 (17 * (y2.toInt + 1) + y20.toInt).toNat).toInt < 1000000000)) := fun q => by first | omega | exact absurd q (by decide) | (have z := k66 (by omega); omega)
                          refine pv_aload_n (M := mX12_laysCheap) 0 dX12_laysCheap_133 134 rfl rfl rfl ?_
                          refine mv_get (M := mX12_laysCheap) (v := .ref 153) dX12_laysCheap_134 FX12 46 wd1219 (by decide) (tl123 hT) rfl rfl 137 rfl ?_
                          refine pv_bipush (M := mX12_laysCheap) (v := 17) dX12_laysCheap_137 139 rfl (by decide) ?_
                          refine pv_iload_n (M := mX12_laysCheap) 1 dX12_laysCheap_139 140 rfl rfl rfl ?_
                          refine iv_imul (M := mX12_laysCheap) (X := 17) (Y := y2.toInt) dX12_laysCheap_140 141 rfl (by decide) rfl (by omega) (by omega) (fun v226 ev226 => ?_)
                          refine pv_iload_n (M := mX12_laysCheap) 2 dX12_laysCheap_141 142 rfl rfl rfl ?_
                          refine iv_iadd (M := mX12_laysCheap) (X := v226.toInt) (Y := y20.toInt) dX12_laysCheap_142 143 rfl rfl rfl (by omega) (by omega) (fun v227 ev227 => ?_)
                          refine pv_iload_n (M := mX12_laysCheap) 3 dX12_laysCheap_143 144 rfl rfl rfl ?_
                          refine iv_iast (M := mX12_laysCheap) (X := v227.toInt) (l1 := 0) (l2 := 1999999998) dX12_laysCheap_144 (tl153 hT) rfl (by omega) (by omega) I23 (fun _ => rfl) (by omega) (by omega) 145 rfl (fun m228 e231 I229 => ?_)
                          have K230 := K24.set e231 rfl
                          have w232 : (m228 123 40).toInt = (m21 123 40).toInt := by rw [e231, up2_ne (by omega)]
                          have w233 : (m228 123 41).toInt = (m21 123 41).toInt := by rw [e231, up2_ne (by omega)]
                          have k145 := (e231).trans (up2_ix (j := (17 * y2.toInt + y20.toInt).toNat) (by omega))
                          have kS := CT_step kg2 kg3 (by omega) (by omega) (by omega) (by omega) k145 kG
                          refine iv_inc (M := mX12_laysCheap) (C := (-1)) dX12_laysCheap_145 148 rfl rfl (by decide) rfl rfl (by decide) (by omega) (by omega) (fun v236 ev236 => ?_)
                          show PV _ _ _ _ _ _ _ 148 [.ref 123, .int y2, .int v236, .int v223] [] _
                          refine pv_goto (M := mX12_laysCheap) (tgt := 14) dX12_laysCheap_148 (by decide) ?_
                          refine pv_fg (lo2 := [.ref 123, .int y2, .int v236, pv_U]) ⟨Or.inr rfl, ⟨Or.inr rfl, ⟨Or.inr rfl, ⟨Or.inl rfl, trivial⟩⟩⟩⟩ ?_
                          have kb2 := kS.1
                          have kb3 : CTj m228 y2.toInt v236.toInt := by rw [show v236.toInt = y20.toInt - 1 by omega]; exact kS.2
                          exact ih27 v236 m228 n22 (by first | omega | assumption | exact (iv_rng _).2 | exact (iv_rng _).1 | decide) (by first | omega | assumption | exact (iv_rng _).2 | exact (iv_rng _).1 | decide) (by first | omega | assumption | (show y2.toInt ≤ (m228 123 40).toInt; omega) | decide) (by first | omega | assumption | (show v236.toInt ≤ (m228 123 41).toInt; omega) | decide) kb2 kb3 I229 K230 (by omega)
                · have c146 := iv_eq (X := y20.toInt) (Y := v145.toInt) c146 rfl rfl
                  refine pv_iconst (M := mX12_laysCheap) (v := 0) dX12_laysCheap_34 35 rfl (by decide) ?_
                  refine pv_goto (M := mX12_laysCheap) (tgt := 66) dX12_laysCheap_35 (by decide) ?_
                  try have k66 := r0
                  refine pv_istore_n (M := mX12_laysCheap) 3 (lo2 := [.ref 123, .int y2, .int y20, .int 0]) dX12_laysCheap_66 67 rfl rfl (by decide) rfl rfl ?_
                  refine pv_iload_n (M := mX12_laysCheap) 1 dX12_laysCheap_67 68 rfl rfl rfl ?_
                  refine pv_aload_n (M := mX12_laysCheap) 0 dX12_laysCheap_68 69 rfl rfl rfl ?_
                  refine iv_get (M := mX12_laysCheap) (l1 := 0) (l2 := 40) dX12_laysCheap_69 FX12 40 wd1213 (by decide) (tl123 hT) rfl I23 rfl 72 rfl (fun v240 ev240 pv240 qv240 => ?_)
                  have wv240 : v240.toInt = (m21 123 40).toInt := congrArg Int32.toInt ev240
                  refine pv_icmp_ge (M := mX12_laysCheap) (tgt := 133) dX12_laysCheap_72 75 rfl (by decide) (fun c241 => ?_) (fun c241 => ?_)
                  · have c241 := iv_le (X := v240.toInt) (Y := y2.toInt) c241 rfl rfl
                    have kG : ((0 : Int32)).toInt < 1000000000 → (y2.toInt = (m21 123 40).toInt ∧ y20.toInt = (m21 123 41).toInt) ∨ (y2.toInt < (m21 123 40).toInt ∧ ((y20.toInt < (m21 123 41).toInt ∧ (m21 149 y2.toInt.toNat).toInt = (m21 150 y20.toInt.toNat).toInt ∧ (m21 153 (17 * (y2.toInt + 1) + y20.toInt + 1).toNat).toInt = ((0 : Int32)).toInt) ∨ (m21 153 (17 * (y2.toInt + 1) + y20.toInt).toNat).toInt < 1000000000)) := fun q => by first | omega | exact absurd q (by decide) | (have z := k66 (by omega); omega)
                    refine pv_aload_n (M := mX12_laysCheap) 0 dX12_laysCheap_133 134 rfl rfl rfl ?_
                    refine mv_get (M := mX12_laysCheap) (v := .ref 153) dX12_laysCheap_134 FX12 46 wd1219 (by decide) (tl123 hT) rfl rfl 137 rfl ?_
                    refine pv_bipush (M := mX12_laysCheap) (v := 17) dX12_laysCheap_137 139 rfl (by decide) ?_
                    refine pv_iload_n (M := mX12_laysCheap) 1 dX12_laysCheap_139 140 rfl rfl rfl ?_
                    refine iv_imul (M := mX12_laysCheap) (X := 17) (Y := y2.toInt) dX12_laysCheap_140 141 rfl (by decide) rfl (by omega) (by omega) (fun v243 ev243 => ?_)
                    refine pv_iload_n (M := mX12_laysCheap) 2 dX12_laysCheap_141 142 rfl rfl rfl ?_
                    refine iv_iadd (M := mX12_laysCheap) (X := v243.toInt) (Y := y20.toInt) dX12_laysCheap_142 143 rfl rfl rfl (by omega) (by omega) (fun v244 ev244 => ?_)
                    refine pv_iload_n (M := mX12_laysCheap) 3 dX12_laysCheap_143 144 rfl rfl rfl ?_
                    refine iv_iast (M := mX12_laysCheap) (X := v244.toInt) (l1 := 0) (l2 := 1999999998) dX12_laysCheap_144 (tl153 hT) rfl (by omega) (by omega) I23 (fun _ => rfl) (by decide) (by decide) 145 rfl (fun m245 e248 I246 => ?_)
                    have K247 := K24.set e248 rfl
                    have w249 : (m245 123 40).toInt = (m21 123 40).toInt := by rw [e248, up2_ne (by omega)]
                    have w250 : (m245 123 41).toInt = (m21 123 41).toInt := by rw [e248, up2_ne (by omega)]
                    have k145 := (e248).trans (up2_ix (j := (17 * y2.toInt + y20.toInt).toNat) (by omega))
                    have kS := CT_step kg2 kg3 (by omega) (by omega) (by omega) (by omega) k145 kG
                    refine iv_inc (M := mX12_laysCheap) (C := (-1)) dX12_laysCheap_145 148 rfl rfl (by decide) rfl rfl (by decide) (by omega) (by omega) (fun v253 ev253 => ?_)
                    show PV _ _ _ _ _ _ _ 148 [.ref 123, .int y2, .int v253, .int 0] [] _
                    refine pv_goto (M := mX12_laysCheap) (tgt := 14) dX12_laysCheap_148 (by decide) ?_
                    refine pv_fg (lo2 := [.ref 123, .int y2, .int v253, pv_U]) ⟨Or.inr rfl, ⟨Or.inr rfl, ⟨Or.inr rfl, ⟨Or.inl rfl, trivial⟩⟩⟩⟩ ?_
                    have kb2 := kS.1
                    have kb3 : CTj m245 y2.toInt v253.toInt := by rw [show v253.toInt = y20.toInt - 1 by omega]; exact kS.2
                    exact ih27 v253 m245 n22 (by first | omega | assumption | exact (iv_rng _).2 | exact (iv_rng _).1 | decide) (by first | omega | assumption | exact (iv_rng _).2 | exact (iv_rng _).1 | decide) (by first | omega | assumption | (show y2.toInt ≤ (m245 123 40).toInt; omega) | decide) (by first | omega | assumption | (show v253.toInt ≤ (m245 123 41).toInt; omega) | decide) kb2 kb3 I246 K247 (by omega)
                  · have c241 := iv_nle (X := v240.toInt) (Y := y2.toInt) c241 rfl rfl
                    refine pv_iload_n (M := mX12_laysCheap) 2 dX12_laysCheap_75 76 rfl rfl rfl ?_
                    refine pv_aload_n (M := mX12_laysCheap) 0 dX12_laysCheap_76 77 rfl rfl rfl ?_
                    refine iv_get (M := mX12_laysCheap) (l1 := 0) (l2 := 16) dX12_laysCheap_77 FX12 41 wd1214 (by decide) (tl123 hT) rfl I23 rfl 80 rfl (fun v256 ev256 pv256 qv256 => ?_)
                    have wv256 : v256.toInt = (m21 123 41).toInt := congrArg Int32.toInt ev256
                    refine pv_icmp_ge (M := mX12_laysCheap) (tgt := 133) dX12_laysCheap_80 83 rfl (by decide) (fun c257 => ?_) (fun c257 => ?_)
                    · have c257 := iv_le (X := v256.toInt) (Y := y20.toInt) c257 rfl rfl
                      have kG : ((0 : Int32)).toInt < 1000000000 → (y2.toInt = (m21 123 40).toInt ∧ y20.toInt = (m21 123 41).toInt) ∨ (y2.toInt < (m21 123 40).toInt ∧ ((y20.toInt < (m21 123 41).toInt ∧ (m21 149 y2.toInt.toNat).toInt = (m21 150 y20.toInt.toNat).toInt ∧ (m21 153 (17 * (y2.toInt + 1) + y20.toInt + 1).toNat).toInt = ((0 : Int32)).toInt) ∨ (m21 153 (17 * (y2.toInt + 1) + y20.toInt).toNat).toInt < 1000000000)) := fun q => by first | omega | exact absurd q (by decide) | (have z := k66 (by omega); omega)
                      refine pv_aload_n (M := mX12_laysCheap) 0 dX12_laysCheap_133 134 rfl rfl rfl ?_
                      refine mv_get (M := mX12_laysCheap) (v := .ref 153) dX12_laysCheap_134 FX12 46 wd1219 (by decide) (tl123 hT) rfl rfl 137 rfl ?_
                      refine pv_bipush (M := mX12_laysCheap) (v := 17) dX12_laysCheap_137 139 rfl (by decide) ?_
                      refine pv_iload_n (M := mX12_laysCheap) 1 dX12_laysCheap_139 140 rfl rfl rfl ?_
                      refine iv_imul (M := mX12_laysCheap) (X := 17) (Y := y2.toInt) dX12_laysCheap_140 141 rfl (by decide) rfl (by omega) (by omega) (fun v259 ev259 => ?_)
                      refine pv_iload_n (M := mX12_laysCheap) 2 dX12_laysCheap_141 142 rfl rfl rfl ?_
                      refine iv_iadd (M := mX12_laysCheap) (X := v259.toInt) (Y := y20.toInt) dX12_laysCheap_142 143 rfl rfl rfl (by omega) (by omega) (fun v260 ev260 => ?_)
                      refine pv_iload_n (M := mX12_laysCheap) 3 dX12_laysCheap_143 144 rfl rfl rfl ?_
                      refine iv_iast (M := mX12_laysCheap) (X := v260.toInt) (l1 := 0) (l2 := 1999999998) dX12_laysCheap_144 (tl153 hT) rfl (by omega) (by omega) I23 (fun _ => rfl) (by decide) (by decide) 145 rfl (fun m261 e264 I262 => ?_)
                      have K263 := K24.set e264 rfl
                      have w265 : (m261 123 40).toInt = (m21 123 40).toInt := by rw [e264, up2_ne (by omega)]
                      have w266 : (m261 123 41).toInt = (m21 123 41).toInt := by rw [e264, up2_ne (by omega)]
                      have k145 := (e264).trans (up2_ix (j := (17 * y2.toInt + y20.toInt).toNat) (by omega))
                      have kS := CT_step kg2 kg3 (by omega) (by omega) (by omega) (by omega) k145 kG
                      refine iv_inc (M := mX12_laysCheap) (C := (-1)) dX12_laysCheap_145 148 rfl rfl (by decide) rfl rfl (by decide) (by omega) (by omega) (fun v269 ev269 => ?_)
                      show PV _ _ _ _ _ _ _ 148 [.ref 123, .int y2, .int v269, .int 0] [] _
                      refine pv_goto (M := mX12_laysCheap) (tgt := 14) dX12_laysCheap_148 (by decide) ?_
                      refine pv_fg (lo2 := [.ref 123, .int y2, .int v269, pv_U]) ⟨Or.inr rfl, ⟨Or.inr rfl, ⟨Or.inr rfl, ⟨Or.inl rfl, trivial⟩⟩⟩⟩ ?_
                      have kb2 := kS.1
                      have kb3 : CTj m261 y2.toInt v269.toInt := by rw [show v269.toInt = y20.toInt - 1 by omega]; exact kS.2
                      exact ih27 v269 m261 n22 (by first | omega | assumption | exact (iv_rng _).2 | exact (iv_rng _).1 | decide) (by first | omega | assumption | exact (iv_rng _).2 | exact (iv_rng _).1 | decide) (by first | omega | assumption | (show y2.toInt ≤ (m261 123 40).toInt; omega) | decide) (by first | omega | assumption | (show v269.toInt ≤ (m261 123 41).toInt; omega) | decide) kb2 kb3 I262 K263 (by omega)
                    · have c257 := iv_nle (X := v256.toInt) (Y := y20.toInt) c257 rfl rfl
                      refine pv_aload_n (M := mX12_laysCheap) 0 dX12_laysCheap_83 84 rfl rfl rfl ?_
                      refine mv_get (M := mX12_laysCheap) (v := .ref 149) dX12_laysCheap_84 FX12 42 wd1215 (by decide) (tl123 hT) rfl rfl 87 rfl ?_
                      refine pv_iload_n (M := mX12_laysCheap) 1 dX12_laysCheap_87 88 rfl rfl rfl ?_
                      refine iv_iald (M := mX12_laysCheap) (X := y2.toInt) (l1 := 0) (l2 := 25) dX12_laysCheap_88 (tl149 hT) rfl (by omega) (by omega) I23 (fun _ => rfl) 89 rfl (fun v272 ev272 pv272 qv272 => ?_)
                      have k89 : v272.toInt = (m21 149 y2.toInt.toNat).toInt := congrArg Int32.toInt ev272
                      refine pv_aload_n (M := mX12_laysCheap) 0 dX12_laysCheap_89 90 rfl rfl rfl ?_
                      refine mv_get (M := mX12_laysCheap) (v := .ref 150) dX12_laysCheap_90 FX12 43 wd1216 (by decide) (tl123 hT) rfl rfl 93 rfl ?_
                      refine pv_iload_n (M := mX12_laysCheap) 2 dX12_laysCheap_93 94 rfl rfl rfl ?_
                      refine iv_iald (M := mX12_laysCheap) (X := y20.toInt) (l1 := 0) (l2 := 25) dX12_laysCheap_94 (tl150 hT) rfl (by omega) (by omega) I23 (fun _ => rfl) 95 rfl (fun v274 ev274 pv274 qv274 => ?_)
                      have k95 : v274.toInt = (m21 150 y20.toInt.toNat).toInt := congrArg Int32.toInt ev274
                      refine pv_icmp_ne (M := mX12_laysCheap) (tgt := 133) dX12_laysCheap_95 98 rfl (by decide) (fun c276 => ?_) (fun c276 => ?_)
                      · have c276 := iv_ne (X := v272.toInt) (Y := v274.toInt) c276 rfl rfl
                        have kG : ((0 : Int32)).toInt < 1000000000 → (y2.toInt = (m21 123 40).toInt ∧ y20.toInt = (m21 123 41).toInt) ∨ (y2.toInt < (m21 123 40).toInt ∧ ((y20.toInt < (m21 123 41).toInt ∧ (m21 149 y2.toInt.toNat).toInt = (m21 150 y20.toInt.toNat).toInt ∧ (m21 153 (17 * (y2.toInt + 1) + y20.toInt + 1).toNat).toInt = ((0 : Int32)).toInt) ∨ (m21 153 (17 * (y2.toInt + 1) + y20.toInt).toNat).toInt < 1000000000)) := fun q => by first | omega | exact absurd q (by decide) | (have z := k66 (by omega); omega)
                        refine pv_aload_n (M := mX12_laysCheap) 0 dX12_laysCheap_133 134 rfl rfl rfl ?_
                        refine mv_get (M := mX12_laysCheap) (v := .ref 153) dX12_laysCheap_134 FX12 46 wd1219 (by decide) (tl123 hT) rfl rfl 137 rfl ?_
                        refine pv_bipush (M := mX12_laysCheap) (v := 17) dX12_laysCheap_137 139 rfl (by decide) ?_
                        refine pv_iload_n (M := mX12_laysCheap) 1 dX12_laysCheap_139 140 rfl rfl rfl ?_
                        refine iv_imul (M := mX12_laysCheap) (X := 17) (Y := y2.toInt) dX12_laysCheap_140 141 rfl (by decide) rfl (by omega) (by omega) (fun v278 ev278 => ?_)
                        refine pv_iload_n (M := mX12_laysCheap) 2 dX12_laysCheap_141 142 rfl rfl rfl ?_
                        refine iv_iadd (M := mX12_laysCheap) (X := v278.toInt) (Y := y20.toInt) dX12_laysCheap_142 143 rfl rfl rfl (by omega) (by omega) (fun v279 ev279 => ?_)
                        refine pv_iload_n (M := mX12_laysCheap) 3 dX12_laysCheap_143 144 rfl rfl rfl ?_
                        refine iv_iast (M := mX12_laysCheap) (X := v279.toInt) (l1 := 0) (l2 := 1999999998) dX12_laysCheap_144 (tl153 hT) rfl (by omega) (by omega) I23 (fun _ => rfl) (by decide) (by decide) 145 rfl (fun m280 e283 I281 => ?_)
                        have K282 := K24.set e283 rfl
                        have w284 : (m280 123 40).toInt = (m21 123 40).toInt := by rw [e283, up2_ne (by omega)]
                        have w285 : (m280 123 41).toInt = (m21 123 41).toInt := by rw [e283, up2_ne (by omega)]
                        have k145 := (e283).trans (up2_ix (j := (17 * y2.toInt + y20.toInt).toNat) (by omega))
                        have kS := CT_step kg2 kg3 (by omega) (by omega) (by omega) (by omega) k145 kG
                        refine iv_inc (M := mX12_laysCheap) (C := (-1)) dX12_laysCheap_145 148 rfl rfl (by decide) rfl rfl (by decide) (by omega) (by omega) (fun v288 ev288 => ?_)
                        show PV _ _ _ _ _ _ _ 148 [.ref 123, .int y2, .int v288, .int 0] [] _
                        refine pv_goto (M := mX12_laysCheap) (tgt := 14) dX12_laysCheap_148 (by decide) ?_
                        refine pv_fg (lo2 := [.ref 123, .int y2, .int v288, pv_U]) ⟨Or.inr rfl, ⟨Or.inr rfl, ⟨Or.inr rfl, ⟨Or.inl rfl, trivial⟩⟩⟩⟩ ?_
                        have kb2 := kS.1
                        have kb3 : CTj m280 y2.toInt v288.toInt := by rw [show v288.toInt = y20.toInt - 1 by omega]; exact kS.2
                        exact ih27 v288 m280 n22 (by first | omega | assumption | exact (iv_rng _).2 | exact (iv_rng _).1 | decide) (by first | omega | assumption | exact (iv_rng _).2 | exact (iv_rng _).1 | decide) (by first | omega | assumption | (show y2.toInt ≤ (m280 123 40).toInt; omega) | decide) (by first | omega | assumption | (show v288.toInt ≤ (m280 123 41).toInt; omega) | decide) kb2 kb3 I281 K282 (by omega)
                      · have c276 := iv_eq (X := v272.toInt) (Y := v274.toInt) c276 rfl rfl
                        refine pv_aload_n (M := mX12_laysCheap) 0 dX12_laysCheap_98 99 rfl rfl rfl ?_
                        refine mv_get (M := mX12_laysCheap) (v := .ref 153) dX12_laysCheap_99 FX12 46 wd1219 (by decide) (tl123 hT) rfl rfl 102 rfl ?_
                        refine pv_bipush (M := mX12_laysCheap) (v := 17) dX12_laysCheap_102 104 rfl (by decide) ?_
                        refine pv_iload_n (M := mX12_laysCheap) 1 dX12_laysCheap_104 105 rfl rfl rfl ?_
                        refine pv_iconst (M := mX12_laysCheap) (v := 1) dX12_laysCheap_105 106 rfl (by decide) ?_
                        refine iv_iadd (M := mX12_laysCheap) (X := y2.toInt) (Y := 1) dX12_laysCheap_106 107 rfl rfl (by decide) (by omega) (by omega) (fun v291 ev291 => ?_)
                        refine iv_imul (M := mX12_laysCheap) (X := 17) (Y := v291.toInt) dX12_laysCheap_107 108 rfl (by decide) rfl (by omega) (by omega) (fun v292 ev292 => ?_)
                        refine pv_iload_n (M := mX12_laysCheap) 2 dX12_laysCheap_108 109 rfl rfl rfl ?_
                        refine iv_iadd (M := mX12_laysCheap) (X := v292.toInt) (Y := y20.toInt) dX12_laysCheap_109 110 rfl rfl rfl (by omega) (by omega) (fun v293 ev293 => ?_)
                        refine pv_iconst (M := mX12_laysCheap) (v := 1) dX12_laysCheap_110 111 rfl (by decide) ?_
                        refine iv_iadd (M := mX12_laysCheap) (X := v293.toInt) (Y := 1) dX12_laysCheap_111 112 rfl rfl (by decide) (by omega) (by omega) (fun v294 ev294 => ?_)
                        refine iv_iald (M := mX12_laysCheap) (X := v294.toInt) (l1 := 0) (l2 := 1999999998) dX12_laysCheap_112 (tl153 hT) rfl (by omega) (by omega) I23 (fun _ => rfl) 113 rfl (fun v295 ev295 pv295 qv295 => ?_)
                        refine pv_iload_n (M := mX12_laysCheap) 3 dX12_laysCheap_113 114 rfl rfl rfl ?_
                        refine pv_icmp_ge (M := mX12_laysCheap) (tgt := 133) dX12_laysCheap_114 117 rfl (by decide) (fun c296 => ?_) (fun c296 => ?_)
                        · have c296 := iv_le (X := 0) (Y := v295.toInt) c296 (by decide) rfl
                          have kG : ((0 : Int32)).toInt < 1000000000 → (y2.toInt = (m21 123 40).toInt ∧ y20.toInt = (m21 123 41).toInt) ∨ (y2.toInt < (m21 123 40).toInt ∧ ((y20.toInt < (m21 123 41).toInt ∧ (m21 149 y2.toInt.toNat).toInt = (m21 150 y20.toInt.toNat).toInt ∧ (m21 153 (17 * (y2.toInt + 1) + y20.toInt + 1).toNat).toInt = ((0 : Int32)).toInt) ∨ (m21 153 (17 * (y2.toInt + 1) + y20.toInt).toNat).toInt < 1000000000)) := fun q => by first | omega | exact absurd q (by decide) | (have z := k66 (by omega); omega)
                          refine pv_aload_n (M := mX12_laysCheap) 0 dX12_laysCheap_133 134 rfl rfl rfl ?_
                          refine mv_get (M := mX12_laysCheap) (v := .ref 153) dX12_laysCheap_134 FX12 46 wd1219 (by decide) (tl123 hT) rfl rfl 137 rfl ?_
                          refine pv_bipush (M := mX12_laysCheap) (v := 17) dX12_laysCheap_137 139 rfl (by decide) ?_
                          refine pv_iload_n (M := mX12_laysCheap) 1 dX12_laysCheap_139 140 rfl rfl rfl ?_
                          refine iv_imul (M := mX12_laysCheap) (X := 17) (Y := y2.toInt) dX12_laysCheap_140 141 rfl (by decide) rfl (by omega) (by omega) (fun v298 ev298 => ?_)
                          refine pv_iload_n (M := mX12_laysCheap) 2 dX12_laysCheap_141 142 rfl rfl rfl ?_
                          refine iv_iadd (M := mX12_laysCheap) (X := v298.toInt) (Y := y20.toInt) dX12_laysCheap_142 143 rfl rfl rfl (by omega) (by omega) (fun v299 ev299 => ?_)
                          refine pv_iload_n (M := mX12_laysCheap) 3 dX12_laysCheap_143 144 rfl rfl rfl ?_
                          refine iv_iast (M := mX12_laysCheap) (X := v299.toInt) (l1 := 0) (l2 := 1999999998) dX12_laysCheap_144 (tl153 hT) rfl (by omega) (by omega) I23 (fun _ => rfl) (by decide) (by decide) 145 rfl (fun m300 e303 I301 => ?_)
                          have K302 := K24.set e303 rfl
                          have w304 : (m300 123 40).toInt = (m21 123 40).toInt := by rw [e303, up2_ne (by omega)]
                          have w305 : (m300 123 41).toInt = (m21 123 41).toInt := by rw [e303, up2_ne (by omega)]
                          have k145 := (e303).trans (up2_ix (j := (17 * y2.toInt + y20.toInt).toNat) (by omega))
                          have kS := CT_step kg2 kg3 (by omega) (by omega) (by omega) (by omega) k145 kG
                          refine iv_inc (M := mX12_laysCheap) (C := (-1)) dX12_laysCheap_145 148 rfl rfl (by decide) rfl rfl (by decide) (by omega) (by omega) (fun v308 ev308 => ?_)
                          show PV _ _ _ _ _ _ _ 148 [.ref 123, .int y2, .int v308, .int 0] [] _
                          refine pv_goto (M := mX12_laysCheap) (tgt := 14) dX12_laysCheap_148 (by decide) ?_
                          refine pv_fg (lo2 := [.ref 123, .int y2, .int v308, pv_U]) ⟨Or.inr rfl, ⟨Or.inr rfl, ⟨Or.inr rfl, ⟨Or.inl rfl, trivial⟩⟩⟩⟩ ?_
                          have kb2 := kS.1
                          have kb3 : CTj m300 y2.toInt v308.toInt := by rw [show v308.toInt = y20.toInt - 1 by omega]; exact kS.2
                          exact ih27 v308 m300 n22 (by first | omega | assumption | exact (iv_rng _).2 | exact (iv_rng _).1 | decide) (by first | omega | assumption | exact (iv_rng _).2 | exact (iv_rng _).1 | decide) (by first | omega | assumption | (show y2.toInt ≤ (m300 123 40).toInt; omega) | decide) (by first | omega | assumption | (show v308.toInt ≤ (m300 123 41).toInt; omega) | decide) kb2 kb3 I301 K302 (by omega)
                        · have c296 := iv_nle (X := 0) (Y := v295.toInt) c296 (by decide) rfl
                          omega
        exact lp26 (((v19.toInt - (-1)) : Int).toNat + 1) v19 m3 n4 (by first | omega | assumption | exact (iv_rng _).2 | exact (iv_rng _).1 | decide) (by first | omega | assumption | exact (iv_rng _).2 | exact (iv_rng _).1 | decide) (by first | omega | assumption | (show y2.toInt ≤ (m3 123 40).toInt; omega) | decide) (by first | omega | assumption | (show v19.toInt ≤ (m3 123 41).toInt; omega) | decide) kg1 (fun j a1 a2 => by omega) I5 K6 (by omega)
  exact lp8 (((v1.toInt - (-1)) : Int).toNat + 1) v1 m n (by first | omega | assumption | exact (iv_rng _).2 | exact (iv_rng _).1 | decide) (by first | omega | assumption | exact (iv_rng _).2 | exact (iv_rng _).1 | decide) (by first | omega | assumption | (show v1.toInt ≤ (m 123 40).toInt; omega) | decide) (fun k j a1 a2 a3 => by omega) I Kp (by omega)

set_option maxHeartbeats 2000000 in
set_option maxRecDepth 20000 in
theorem s_X12_laysStays (g : pv_G) {T : List mv_T} {m : Nat → Nat → Int32} {n : Nat → Nat → Int64} {r : Nat → Value} (hT : TX T) (I : IV BB m) (hp0 : CTk m (-1)) (hp1 : (m 153 0).toInt < 1000000000) : PM g mX12_laysStays yX12_laysStays (sqV T BB (wl [(154, 154, none)]) r m (fun m' => STk m' (m' 123 41).toInt (m' 123 40).toInt)) 1 0 0 [.ref 123] (mk T m n r) := by
  have Kp : fr (wl [(154, 154, none)]) m m := fr.rf
  have z73 : 0 ≤ (m 123 40).toInt ∧ (m 123 40).toInt ≤ 40 := I 123 40
  have z74 : 0 ≤ (m 123 41).toInt ∧ (m 123 41).toInt ≤ 16 := I 123 41
  refine PM.of 2 (lo := [.ref 123, pv_U, pv_U]) rfl (by decide) rfl rfl (Nat.le_of_ble_eq_true rfl) ?_
  refine pv_iconst (M := mX12_laysStays) (v := 0) dX12_laysStays_0 1 rfl (by decide) ?_
  refine pv_istore_n (M := mX12_laysStays) 1 (lo2 := [.ref 123, .int 0, pv_U]) dX12_laysStays_1 2 rfl rfl (by decide) rfl rfl ?_
  refine pv_iconst (M := mX12_laysStays) (v := 0) dX12_laysStays_2 3 rfl (by decide) ?_
  refine pv_istore_n (M := mX12_laysStays) 2 (lo2 := [.ref 123, .int 0, .int 0]) dX12_laysStays_3 4 rfl rfl (by decide) rfl rfl ?_
  have lp8 : ∀ (fuel7 : Nat) (y1 : Int32) (y2 : Int32) (m3 : Nat → Nat → Int32) (n4 : Nat → Nat → Int64), (0 ≤ y1.toInt) → (y1.toInt ≤ 16) → (0 ≤ y2.toInt) → (y2.toInt ≤ 40) → (y1.toInt ≤ (m3 123 41).toInt) → (y2.toInt ≤ (m3 123 40).toInt) → ((m3 153 (17 * y2.toInt + y1.toInt).toNat).toInt < 1000000000) → (STk m3 y1.toInt y2.toInt) → (∀ j, m3 149 j = m 149 j ∧ m3 150 j = m 150 j ∧ m3 153 j = m 153 j) → ((m3 123 40).toInt = (m 123 40).toInt) → ((m3 123 41).toInt = (m 123 41).toInt) → IV BB m3 → fr (wl [(154, 154, none)]) m m3 → ((40 - y2.toInt) : Int).toNat < fuel7 → PV none g mX12_laysStays (sqV T BB (wl [(154, 154, none)]) r m (fun m' => STk m' (m' 123 41).toInt (m' 123 40).toInt)) 1 0 0 4 [.ref 123, .int y1, .int y2] [] (mk T m3 n4 r) := by
    intro fuel7
    induction fuel7 with
    | zero => intro y1 y2 m3 n4 b10 b11 b12 b13 b14 b15 b16 b17 b18 b19 b20 I5 K6 z21; omega
    | succ fuel7 ih9 =>
      intro y1 y2 m3 n4 b10 b11 b12 b13 b14 b15 b16 b17 b18 b19 b20 I5 K6 z21
      have z22 : 0 ≤ (m3 123 40).toInt ∧ (m3 123 40).toInt ≤ 40 := I5 123 40
      have z23 : 0 ≤ (m3 123 41).toInt ∧ (m3 123 41).toInt ≤ 16 := I5 123 41
      have kg := (show (m3 153 (17 * y2.toInt + y1.toInt).toNat).toInt < 1000000000 by assumption)
      have kt := (show STk m3 y1.toInt y2.toInt by assumption)
      have kq := (show ∀ j, m3 149 j = m 149 j ∧ m3 150 j = m 150 j ∧ m3 153 j = m 153 j by assumption)
      have kC := hp0 y2.toInt.toNat y1.toInt.toNat (by omega) (by omega) (by omega)
      unfold CT1 at kC
      rw [← (kq _).1, ← (kq _).2.1, ← (kq _).2.2, ← (kq _).2.2, ← (kq _).2.2, show 17 * y2.toInt.toNat + y1.toInt.toNat = (17 * y2.toInt + y1.toInt).toNat by omega, show 17 * (y2.toInt.toNat + 1) + y1.toInt.toNat + 1 = (17 * (y2.toInt + 1) + y1.toInt + 1).toNat by omega, show 17 * (y2.toInt.toNat + 1) + y1.toInt.toNat = (17 * (y2.toInt + 1) + y1.toInt).toNat by omega] at kC
      have kC := kC kg
      refine pv_iload_n (M := mX12_laysStays) 2 dX12_laysStays_4 5 rfl rfl rfl ?_
      refine pv_aload_n (M := mX12_laysStays) 0 dX12_laysStays_5 6 rfl rfl rfl ?_
      refine iv_get (M := mX12_laysStays) (l1 := 0) (l2 := 40) dX12_laysStays_6 FX12 40 wd1213 (by decide) (tl123 hT) rfl I5 rfl 9 rfl (fun v31 ev31 pv31 qv31 => ?_)
      have wv31 : v31.toInt = (m3 123 40).toInt := congrArg Int32.toInt ev31
      refine pv_icmp_ge (M := mX12_laysStays) (tgt := 84) dX12_laysStays_9 12 rfl (by decide) (fun c32 => ?_) (fun c32 => ?_)
      · have c32 := iv_le (X := v31.toInt) (Y := y2.toInt) c32 rfl rfl
        exact pv_vret (M := mX12_laysStays) dX12_laysStays_84 rfl ⟨_, _, rfl, rfl, I5, K6, (by have q := STk_mono kt (k2 := (m3 123 40).toInt) (by omega); rw [show y1.toInt = (m3 123 41).toInt by omega] at q; exact q)⟩
      · have c32 := iv_nle (X := v31.toInt) (Y := y2.toInt) c32 rfl rfl
        refine pv_iload_n (M := mX12_laysStays) 1 dX12_laysStays_12 13 rfl rfl rfl ?_
        refine pv_aload_n (M := mX12_laysStays) 0 dX12_laysStays_13 14 rfl rfl rfl ?_
        refine iv_get (M := mX12_laysStays) (l1 := 0) (l2 := 16) dX12_laysStays_14 FX12 41 wd1214 (by decide) (tl123 hT) rfl I5 rfl 17 rfl (fun v33 ev33 pv33 qv33 => ?_)
        have wv33 : v33.toInt = (m3 123 41).toInt := congrArg Int32.toInt ev33
        refine pv_icmp_ge (M := mX12_laysStays) (tgt := 84) dX12_laysStays_17 20 rfl (by decide) (fun c34 => ?_) (fun c34 => ?_)
        · have c34 := iv_le (X := v33.toInt) (Y := y1.toInt) c34 rfl rfl
          exact pv_vret (M := mX12_laysStays) dX12_laysStays_84 rfl ⟨_, _, rfl, rfl, I5, K6, (by have q := STk_mono kt (k2 := (m3 123 40).toInt) (by omega); rw [show y1.toInt = (m3 123 41).toInt by omega] at q; exact q)⟩
        · have c34 := iv_nle (X := v33.toInt) (Y := y1.toInt) c34 rfl rfl
          refine pv_aload_n (M := mX12_laysStays) 0 dX12_laysStays_20 21 rfl rfl rfl ?_
          refine mv_get (M := mX12_laysStays) (v := .ref 149) dX12_laysStays_21 FX12 42 wd1215 (by decide) (tl123 hT) rfl rfl 24 rfl ?_
          refine pv_iload_n (M := mX12_laysStays) 2 dX12_laysStays_24 25 rfl rfl rfl ?_
          refine iv_iald (M := mX12_laysStays) (X := y2.toInt) (l1 := 0) (l2 := 25) dX12_laysStays_25 (tl149 hT) rfl (by omega) (by omega) I5 (fun _ => rfl) 26 rfl (fun v35 ev35 pv35 qv35 => ?_)
          have k26 : v35.toInt = (m3 149 y2.toInt.toNat).toInt := congrArg Int32.toInt ev35
          refine pv_aload_n (M := mX12_laysStays) 0 dX12_laysStays_26 27 rfl rfl rfl ?_
          refine mv_get (M := mX12_laysStays) (v := .ref 150) dX12_laysStays_27 FX12 43 wd1216 (by decide) (tl123 hT) rfl rfl 30 rfl ?_
          refine pv_iload_n (M := mX12_laysStays) 1 dX12_laysStays_30 31 rfl rfl rfl ?_
          refine iv_iald (M := mX12_laysStays) (X := y1.toInt) (l1 := 0) (l2 := 25) dX12_laysStays_31 (tl150 hT) rfl (by omega) (by omega) I5 (fun _ => rfl) 32 rfl (fun v37 ev37 pv37 qv37 => ?_)
          have k32 : v37.toInt = (m3 150 y1.toInt.toNat).toInt := congrArg Int32.toInt ev37
          refine pv_icmp_ne (M := mX12_laysStays) (tgt := 78) dX12_laysStays_32 35 rfl (by decide) (fun c39 => ?_) (fun c39 => ?_)
          · have c39 := iv_ne (X := v35.toInt) (Y := v37.toInt) c39 rfl rfl
            refine iv_inc (M := mX12_laysStays) (C := 1) dX12_laysStays_78 81 rfl rfl (by decide) rfl rfl (by decide) (by omega) (by omega) (fun v40 ev40 => ?_)
            show PV _ _ _ _ _ _ _ 81 [.ref 123, .int y1, .int v40] [] _
            refine pv_goto (M := mX12_laysStays) (tgt := 4) dX12_laysStays_81 (by decide) ?_
            have kc : (m3 153 (17 * v40.toInt + y1.toInt).toNat).toInt < 1000000000 := by first | (rw [show (17 * v40.toInt + y1.toInt).toNat = (17 * (y2.toInt + 1) + y1.toInt + 1).toNat by omega, show m3 153 (17 * (y2.toInt + 1) + y1.toInt + 1).toNat = m3 153 (17 * (y2.toInt + 1) + y1.toInt + 1).toNat by rw [noE, up2_ne (by omega)]]; omega) | (rw [show (17 * v40.toInt + y1.toInt).toNat = (17 * (y2.toInt + 1) + y1.toInt).toNat by omega]; omega)
            have ks : STk m3 y1.toInt v40.toInt := by first | (rw [show y1.toInt = y1.toInt + 1 by omega, show v40.toInt = y2.toInt + 1 by omega]; exact k74) | (rw [show v40.toInt = y2.toInt + 1 by omega]; exact STk_mono kt (by omega))
            have kf : ∀ j, m3 149 j = m 149 j ∧ m3 150 j = m 150 j ∧ m3 153 j = m 153 j := by first | exact kq | exact fun j => ⟨by rw [noE, up2_ne (by omega)]; exact (kq j).1, by rw [noE, up2_ne (by omega)]; exact (kq j).2.1, by rw [noE, up2_ne (by omega)]; exact (kq j).2.2⟩
            exact ih9 y1 v40 m3 n4 (by first | omega | assumption | exact (iv_rng _).2 | exact (iv_rng _).1 | decide) (by first | omega | assumption | exact (iv_rng _).2 | exact (iv_rng _).1 | decide) (by first | omega | assumption | exact (iv_rng _).2 | exact (iv_rng _).1 | decide) (by first | omega | assumption | exact (iv_rng _).2 | exact (iv_rng _).1 | decide) (by first | omega | assumption | (show y1.toInt ≤ (m3 123 41).toInt; omega) | decide) (by first | omega | assumption | (show v40.toInt ≤ (m3 123 40).toInt; omega) | decide) kc ks kf (by first | omega | assumption | (show (m3 123 40).toInt = (m 123 40).toInt; omega) | decide) (by first | omega | assumption | (show (m3 123 41).toInt = (m 123 41).toInt; omega) | decide) I5 K6 (by omega)
          · have c39 := iv_eq (X := v35.toInt) (Y := v37.toInt) c39 rfl rfl
            refine pv_aload_n (M := mX12_laysStays) 0 dX12_laysStays_35 36 rfl rfl rfl ?_
            refine mv_get (M := mX12_laysStays) (v := .ref 153) dX12_laysStays_36 FX12 46 wd1219 (by decide) (tl123 hT) rfl rfl 39 rfl ?_
            refine pv_bipush (M := mX12_laysStays) (v := 17) dX12_laysStays_39 41 rfl (by decide) ?_
            refine pv_iload_n (M := mX12_laysStays) 2 dX12_laysStays_41 42 rfl rfl rfl ?_
            refine pv_iconst (M := mX12_laysStays) (v := 1) dX12_laysStays_42 43 rfl (by decide) ?_
            refine iv_iadd (M := mX12_laysStays) (X := y2.toInt) (Y := 1) dX12_laysStays_43 44 rfl rfl (by decide) (by omega) (by omega) (fun v44 ev44 => ?_)
            refine iv_imul (M := mX12_laysStays) (X := 17) (Y := v44.toInt) dX12_laysStays_44 45 rfl (by decide) rfl (by omega) (by omega) (fun v45 ev45 => ?_)
            refine pv_iload_n (M := mX12_laysStays) 1 dX12_laysStays_45 46 rfl rfl rfl ?_
            refine iv_iadd (M := mX12_laysStays) (X := v45.toInt) (Y := y1.toInt) dX12_laysStays_46 47 rfl rfl rfl (by omega) (by omega) (fun v46 ev46 => ?_)
            refine pv_iconst (M := mX12_laysStays) (v := 1) dX12_laysStays_47 48 rfl (by decide) ?_
            refine iv_iadd (M := mX12_laysStays) (X := v46.toInt) (Y := 1) dX12_laysStays_48 49 rfl rfl (by decide) (by omega) (by omega) (fun v47 ev47 => ?_)
            refine iv_iald (M := mX12_laysStays) (X := v47.toInt) (l1 := 0) (l2 := 1999999998) dX12_laysStays_49 (tl153 hT) rfl (by omega) (by omega) I5 (fun _ => rfl) 50 rfl (fun v48 ev48 pv48 qv48 => ?_)
            have k50 : v48.toInt = (m3 153 (17 * (y2.toInt + 1) + y1.toInt + 1).toNat).toInt := (congrArg Int32.toInt ev48).trans (congrArg (fun z => (m3 153 z).toInt) (by omega))
            refine pv_aload_n (M := mX12_laysStays) 0 dX12_laysStays_50 51 rfl rfl rfl ?_
            refine mv_get (M := mX12_laysStays) (v := .ref 153) dX12_laysStays_51 FX12 46 wd1219 (by decide) (tl123 hT) rfl rfl 54 rfl ?_
            refine pv_bipush (M := mX12_laysStays) (v := 17) dX12_laysStays_54 56 rfl (by decide) ?_
            refine pv_iload_n (M := mX12_laysStays) 2 dX12_laysStays_56 57 rfl rfl rfl ?_
            refine iv_imul (M := mX12_laysStays) (X := 17) (Y := y2.toInt) dX12_laysStays_57 58 rfl (by decide) rfl (by omega) (by omega) (fun v50 ev50 => ?_)
            refine pv_iload_n (M := mX12_laysStays) 1 dX12_laysStays_58 59 rfl rfl rfl ?_
            refine iv_iadd (M := mX12_laysStays) (X := v50.toInt) (Y := y1.toInt) dX12_laysStays_59 60 rfl rfl rfl (by omega) (by omega) (fun v51 ev51 => ?_)
            refine iv_iald (M := mX12_laysStays) (X := v51.toInt) (l1 := 0) (l2 := 1999999998) dX12_laysStays_60 (tl153 hT) rfl (by omega) (by omega) I5 (fun _ => rfl) 61 rfl (fun v52 ev52 pv52 qv52 => ?_)
            have k61 : v52.toInt = (m3 153 (17 * y2.toInt + y1.toInt).toNat).toInt := (congrArg Int32.toInt ev52).trans (congrArg (fun z => (m3 153 z).toInt) (by omega))
            refine pv_icmp_eq (M := mX12_laysStays) (tgt := 67) dX12_laysStays_61 64 rfl (by decide) (fun c54 => ?_) (fun c54 => ?_)
            · have c54 := iv_eq (X := v48.toInt) (Y := v52.toInt) c54 rfl rfl
              refine pv_aload_n (M := mX12_laysStays) 0 dX12_laysStays_67 68 rfl rfl rfl ?_
              refine mv_get (M := mX12_laysStays) (v := .ref 154) dX12_laysStays_68 FX12 47 wd1220 (by decide) (tl123 hT) rfl rfl 71 rfl ?_
              refine pv_iload_n (M := mX12_laysStays) 1 dX12_laysStays_71 72 rfl rfl rfl ?_
              refine pv_iload_n (M := mX12_laysStays) 2 dX12_laysStays_72 73 rfl rfl rfl ?_
              refine iv_iast (M := mX12_laysStays) (X := y1.toInt) (l1 := 0) (l2 := 39) dX12_laysStays_73 (tl154 hT) rfl (by omega) (by omega) I5 (fun _ => rfl) (by omega) (by omega) 74 rfl (fun m55 e58 I56 => ?_)
              have K57 := K6.set e58 rfl
              have w59 : (m55 123 40).toInt = (m3 123 40).toInt := by rw [e58, up2_ne (by omega)]
              have w60 : (m55 123 41).toInt = (m3 123 41).toInt := by rw [e58, up2_ne (by omega)]
              have k74 := STk_add (n := y1.toInt) (k := y2.toInt) kt (by omega) (by omega) e58 rfl
              refine pv_iload_n (M := mX12_laysStays) 1 dX12_laysStays_74 75 rfl rfl rfl ?_
              refine pv_iconst (M := mX12_laysStays) (v := 1) dX12_laysStays_75 76 rfl (by decide) ?_
              refine iv_iadd (M := mX12_laysStays) (X := y1.toInt) (Y := 1) dX12_laysStays_76 77 rfl rfl (by decide) (by omega) (by omega) (fun v62 ev62 => ?_)
              refine pv_istore_n (M := mX12_laysStays) 1 (lo2 := [.ref 123, .int v62, .int y2]) dX12_laysStays_77 78 rfl rfl (by decide) rfl rfl ?_
              refine iv_inc (M := mX12_laysStays) (C := 1) dX12_laysStays_78 81 rfl rfl (by decide) rfl rfl (by decide) (by omega) (by omega) (fun v63 ev63 => ?_)
              show PV _ _ _ _ _ _ _ 81 [.ref 123, .int v62, .int v63] [] _
              refine pv_goto (M := mX12_laysStays) (tgt := 4) dX12_laysStays_81 (by decide) ?_
              have kc : (m55 153 (17 * v63.toInt + v62.toInt).toNat).toInt < 1000000000 := by first | (rw [show (17 * v63.toInt + v62.toInt).toNat = (17 * (y2.toInt + 1) + y1.toInt + 1).toNat by omega, show m55 153 (17 * (y2.toInt + 1) + y1.toInt + 1).toNat = m3 153 (17 * (y2.toInt + 1) + y1.toInt + 1).toNat by rw [e58, up2_ne (by omega)]]; omega) | (rw [show (17 * v63.toInt + v62.toInt).toNat = (17 * (y2.toInt + 1) + y1.toInt).toNat by omega]; omega)
              have ks : STk m55 v62.toInt v63.toInt := by first | (rw [show v62.toInt = y1.toInt + 1 by omega, show v63.toInt = y2.toInt + 1 by omega]; exact k74) | (rw [show v63.toInt = y2.toInt + 1 by omega]; exact STk_mono kt (by omega))
              have kf : ∀ j, m55 149 j = m 149 j ∧ m55 150 j = m 150 j ∧ m55 153 j = m 153 j := by first | exact kq | exact fun j => ⟨by rw [e58, up2_ne (by omega)]; exact (kq j).1, by rw [e58, up2_ne (by omega)]; exact (kq j).2.1, by rw [e58, up2_ne (by omega)]; exact (kq j).2.2⟩
              exact ih9 v62 v63 m55 n4 (by first | omega | assumption | exact (iv_rng _).2 | exact (iv_rng _).1 | decide) (by first | omega | assumption | exact (iv_rng _).2 | exact (iv_rng _).1 | decide) (by first | omega | assumption | exact (iv_rng _).2 | exact (iv_rng _).1 | decide) (by first | omega | assumption | exact (iv_rng _).2 | exact (iv_rng _).1 | decide) (by first | omega | assumption | (show v62.toInt ≤ (m55 123 41).toInt; omega) | decide) (by first | omega | assumption | (show v63.toInt ≤ (m55 123 40).toInt; omega) | decide) kc ks kf (by first | omega | assumption | (show (m55 123 40).toInt = (m 123 40).toInt; omega) | decide) (by first | omega | assumption | (show (m55 123 41).toInt = (m 123 41).toInt; omega) | decide) I56 K57 (by omega)
            · have c54 := iv_ne (X := v48.toInt) (Y := v52.toInt) c54 rfl rfl
              refine pv_goto (M := mX12_laysStays) (tgt := 78) dX12_laysStays_64 (by decide) ?_
              refine iv_inc (M := mX12_laysStays) (C := 1) dX12_laysStays_78 81 rfl rfl (by decide) rfl rfl (by decide) (by omega) (by omega) (fun v67 ev67 => ?_)
              show PV _ _ _ _ _ _ _ 81 [.ref 123, .int y1, .int v67] [] _
              refine pv_goto (M := mX12_laysStays) (tgt := 4) dX12_laysStays_81 (by decide) ?_
              have kc : (m3 153 (17 * v67.toInt + y1.toInt).toNat).toInt < 1000000000 := by first | (rw [show (17 * v67.toInt + y1.toInt).toNat = (17 * (y2.toInt + 1) + y1.toInt + 1).toNat by omega, show m3 153 (17 * (y2.toInt + 1) + y1.toInt + 1).toNat = m3 153 (17 * (y2.toInt + 1) + y1.toInt + 1).toNat by rw [noE, up2_ne (by omega)]]; omega) | (rw [show (17 * v67.toInt + y1.toInt).toNat = (17 * (y2.toInt + 1) + y1.toInt).toNat by omega]; omega)
              have ks : STk m3 y1.toInt v67.toInt := by first | (rw [show y1.toInt = y1.toInt + 1 by omega, show v67.toInt = y2.toInt + 1 by omega]; exact k74) | (rw [show v67.toInt = y2.toInt + 1 by omega]; exact STk_mono kt (by omega))
              have kf : ∀ j, m3 149 j = m 149 j ∧ m3 150 j = m 150 j ∧ m3 153 j = m 153 j := by first | exact kq | exact fun j => ⟨by rw [noE, up2_ne (by omega)]; exact (kq j).1, by rw [noE, up2_ne (by omega)]; exact (kq j).2.1, by rw [noE, up2_ne (by omega)]; exact (kq j).2.2⟩
              exact ih9 y1 v67 m3 n4 (by first | omega | assumption | exact (iv_rng _).2 | exact (iv_rng _).1 | decide) (by first | omega | assumption | exact (iv_rng _).2 | exact (iv_rng _).1 | decide) (by first | omega | assumption | exact (iv_rng _).2 | exact (iv_rng _).1 | decide) (by first | omega | assumption | exact (iv_rng _).2 | exact (iv_rng _).1 | decide) (by first | omega | assumption | (show y1.toInt ≤ (m3 123 41).toInt; omega) | decide) (by first | omega | assumption | (show v67.toInt ≤ (m3 123 40).toInt; omega) | decide) kc ks kf (by first | omega | assumption | (show (m3 123 40).toInt = (m 123 40).toInt; omega) | decide) (by first | omega | assumption | (show (m3 123 41).toInt = (m 123 41).toInt; omega) | decide) I5 K6 (by omega)
  have z71 : (0 : Int32).toInt = 0 := by decide
  have z72 : (0 : Int32).toInt = 0 := by decide
  exact lp8 (((40 - 0) : Int).toNat + 1) 0 0 m n (by first | omega | assumption | exact (iv_rng _).2 | exact (iv_rng _).1 | decide) (by first | omega | assumption | exact (iv_rng _).2 | exact (iv_rng _).1 | decide) (by first | omega | assumption | exact (iv_rng _).2 | exact (iv_rng _).1 | decide) (by first | omega | assumption | exact (iv_rng _).2 | exact (iv_rng _).1 | decide) (by first | omega | assumption | (show 0 ≤ (m 123 41).toInt; omega) | decide) (by first | omega | assumption | (show 0 ≤ (m 123 40).toInt; omega) | decide) (by show (m 153 (17 * (0 : Int32).toInt + (0 : Int32).toInt).toNat).toInt < 1000000000; rw [show (17 * (0 : Int32).toInt + (0 : Int32).toInt).toNat = 0 by decide]; exact hp1) (fun j hj => by omega) (fun _ => ⟨rfl, rfl, rfl⟩) (by first | omega | assumption | (show (m 123 40).toInt = (m 123 40).toInt; omega) | decide) (by first | omega | assumption | (show (m 123 41).toInt = (m 123 41).toInt; omega) | decide) I Kp (by omega)

set_option maxHeartbeats 2000000 in
set_option maxRecDepth 20000 in
theorem s_X12_areSet (g : pv_G) {T : List mv_T} {m : Nat → Nat → Int32} {n : Nat → Nat → Int64} {r : Nat → Value} (hT : TX T) (I : IV BB m) (x0 : Int32) : PM g mX12_areSet yX12_areSet (sqP (mk T m n r) 0 1 (fun v => v = 0 ∨ (0 ≤ x0.toInt ∧ x0.toInt ≤ 255))) 2 0 0 [.ref 123, .int x0] (mk T m n r) := by
  have Kp : fr (wl []) m m := fr.rf
  refine PM.of 0 (lo := [.ref 123, .int x0]) rfl (by decide) rfl rfl (Nat.le_of_ble_eq_true rfl) ?_
  refine pv_iload_n (M := mX12_areSet) 1 dX12_areSet_0 1 rfl rfl rfl ?_
  refine pv_iconst (M := mX12_areSet) (v := 0) dX12_areSet_1 2 rfl (by decide) ?_
  refine pv_sipush (M := mX12_areSet) (v := 255) dX12_areSet_2 5 rfl (by decide) ?_
  have z1 : (0 : Int32).toInt = 0 := by decide
  have z2 : (255 : Int32).toInt = 255 := by decide
  refine pv_calls (M := mX12_areSet) (as := [.int x0, .int 0, .int 255]) (st := []) (kc2 := 0) (ks2 := 0) dX12_areSet_5 wd1370 YX12_in wd1371 (s_X12_in g hT I x0 0 255) rfl rfl (Nat.le_of_ble_eq_true rfl) (by decide) rfl rfl 8 rfl (fun rv h1 q3 => ?_)
  obtain ⟨v4, rfl, rfl, pv4, qv4, rv4⟩ := q3
  replace rv4 : v4 = 0 ∨ ((0 : Int) ≤ x0.toInt ∧ x0.toInt ≤ (255 : Int)) := by have q_ := rv4; (try rw [z1] at q_); (try rw [z2] at q_); exact q_
  show PV _ _ _ _ _ _ _ 8 [.ref 123, .int x0] [.int v4] _
  refine pv_if_eq (M := mX12_areSet) (tgt := 26) dX12_areSet_8 11 rfl (by decide) (fun c5 => ?_) (fun c5 => ?_)
  · have c5 := iv_eq (X := v4.toInt) (Y := 0) c5 rfl (by decide)
    refine pv_iconst (M := mX12_areSet) (v := 0) dX12_areSet_26 27 rfl (by decide) ?_
    have z6 : (0 : Int32).toInt = 0 := by decide
    exact pv_iret (M := mX12_areSet) dX12_areSet_27 rfl rfl ⟨_, rfl, rfl, by decide, by decide, Or.inl rfl⟩
  · have pc5 := rv4.resolve_left c5
    have c5 := iv_ne (X := v4.toInt) (Y := 0) c5 rfl (by decide)
    refine pv_iload_n (M := mX12_areSet) 1 dX12_areSet_11 12 rfl rfl rfl ?_
    refine pv_aload_n (M := mX12_areSet) 0 dX12_areSet_12 13 rfl rfl rfl ?_
    refine iv_get (M := mX12_areSet) (l1 := 0) (l2 := 255) dX12_areSet_13 FX12 4 wd1177 (by decide) (tl123 hT) rfl I rfl 16 rfl (fun v7 ev7 pv7 qv7 => ?_)
    refine pv_iconst (M := mX12_areSet) (v := (-1)) dX12_areSet_16 17 rfl (by decide) ?_
    refine iv_xorU (M := mX12_areSet) dX12_areSet_17 18 rfl (fun v8 ev8 => ?_)
    refine iv_andU (M := mX12_areSet) dX12_areSet_18 19 rfl (fun v9 ev9 => ?_)
    refine pv_if_ne (M := mX12_areSet) (tgt := 26) dX12_areSet_19 22 rfl (by decide) (fun c10 => ?_) (fun c10 => ?_)
    · have c10 := iv_ne (X := v9.toInt) (Y := 0) c10 rfl (by decide)
      refine pv_iconst (M := mX12_areSet) (v := 0) dX12_areSet_26 27 rfl (by decide) ?_
      have z11 : (0 : Int32).toInt = 0 := by decide
      exact pv_iret (M := mX12_areSet) dX12_areSet_27 rfl rfl ⟨_, rfl, rfl, by decide, by decide, Or.inl rfl⟩
    · have c10 := iv_eq (X := v9.toInt) (Y := 0) c10 rfl (by decide)
      refine pv_iconst (M := mX12_areSet) (v := 1) dX12_areSet_22 23 rfl (by decide) ?_
      refine pv_goto (M := mX12_areSet) (tgt := 27) dX12_areSet_23 (by decide) ?_
      have z12 : (1 : Int32).toInt = 1 := by decide
      exact pv_iret (M := mX12_areSet) dX12_areSet_27 rfl rfl ⟨_, rfl, rfl, by decide, by decide, (Or.inr (by omega))⟩

set_option maxHeartbeats 2000000 in
set_option maxRecDepth 20000 in
theorem s_X12_comeAll (g : pv_G) {T : List mv_T} {m : Nat → Nat → Int32} {n : Nat → Nat → Int64} {r : Nat → Value} (hT : TX T) (I : IV BB m) (x0 : Int32) (hl0 : 0 ≤ x0.toInt) (hh0 : x0.toInt ≤ 255) (x1 : Int32) : PM g mX12_comeAll yX12_comeAll (sqI T BB (wl [(123, 123, some 41), (150, 150, none)]) r m 0 1 (fun m' v => True)) 2 0 0 [.ref 123, .int x0, .int x1] (mk T m n r) := by
  have Kp : fr (wl [(123, 123, some 41), (150, 150, none)]) m m := fr.rf
  refine PM.of 1 (lo := [.ref 123, .int x0, .int x1, pv_U]) rfl (by decide) rfl rfl (Nat.le_of_ble_eq_true rfl) ?_
  refine pv_iconst (M := mX12_comeAll) (v := 0) dX12_comeAll_0 1 rfl (by decide) ?_
  refine pv_istore_n (M := mX12_comeAll) 3 (lo2 := [.ref 123, .int x0, .int x1, .int 0]) dX12_comeAll_1 2 rfl rfl (by decide) rfl rfl ?_
  have lp7 : ∀ (fuel6 : Nat) (y1 : Int32) (m2 : Nat → Nat → Int32) (n3 : Nat → Nat → Int64), (0 ≤ y1.toInt) → (y1.toInt ≤ 8) → IV BB m2 → fr (wl [(123, 123, some 41), (150, 150, none)]) m m2 → ((8 - y1.toInt) : Int).toNat < fuel6 → PV none g mX12_comeAll (sqI T BB (wl [(123, 123, some 41), (150, 150, none)]) r m 0 1 (fun m' v => True)) 2 0 0 2 [.ref 123, .int x0, .int x1, .int y1] [] (mk T m2 n3 r) := by
    intro fuel6
    induction fuel6 with
    | zero => intro y1 m2 n3 b9 b10 I4 K5 z11; omega
    | succ fuel6 ih8 =>
      intro y1 m2 n3 b9 b10 I4 K5 z11
      refine pv_iload_n (M := mX12_comeAll) 3 dX12_comeAll_2 3 rfl rfl rfl ?_
      refine pv_bipush (M := mX12_comeAll) (v := 8) dX12_comeAll_3 5 rfl (by decide) ?_
      refine pv_icmp_ge (M := mX12_comeAll) (tgt := 40) dX12_comeAll_5 8 rfl (by decide) (fun c12 => ?_) (fun c12 => ?_)
      · have c12 := iv_le (X := 8) (Y := y1.toInt) c12 (by decide) rfl
        refine pv_iconst (M := mX12_comeAll) (v := 1) dX12_comeAll_40 41 rfl (by decide) ?_
        exact pv_iret (M := mX12_comeAll) dX12_comeAll_41 rfl rfl ⟨_, _, _, rfl, rfl, I4, K5, by decide, by decide, trivial⟩
      · have c12 := iv_nle (X := 8) (Y := y1.toInt) c12 (by decide) rfl
        refine pv_iload_n (M := mX12_comeAll) 1 dX12_comeAll_8 9 rfl rfl rfl ?_
        refine pv_iload_n (M := mX12_comeAll) 3 dX12_comeAll_9 10 rfl rfl rfl ?_
        refine iv_shrU (M := mX12_comeAll) dX12_comeAll_10 11 rfl (fun v13 ev13 => ?_)
        refine pv_iconst (M := mX12_comeAll) (v := 1) dX12_comeAll_11 12 rfl (by decide) ?_
        refine iv_iandm (M := mX12_comeAll) dX12_comeAll_12 13 rfl 1 (by decide) (by decide) (fun v14 ev14 pv14 qv14 => ?_)
        have qv14 : v14.toInt < 2 := qv14
        refine pv_if_ne (M := mX12_comeAll) (tgt := 19) dX12_comeAll_13 16 rfl (by decide) (fun c15 => ?_) (fun c15 => ?_)
        · have c15 := iv_ne (X := v14.toInt) (Y := 0) c15 rfl (by decide)
          refine pv_aload_n (M := mX12_comeAll) 0 dX12_comeAll_19 20 rfl rfl rfl ?_
          refine pv_iload_n (M := mX12_comeAll) 3 dX12_comeAll_20 21 rfl rfl rfl ?_
          refine pv_callv (M := mX12_comeAll) (as := [.int y1]) (st := []) (kc2 := 0) (ks2 := 0) dX12_comeAll_21 wd1567 YX12_laysDeed ⟨wd1569, wd89⟩ (mk_get (tl123 hT)) rfl rfl (s_X12_laysDeed g hT I4 y1 (by omega) (by omega)) rfl rfl (Nat.le_of_ble_eq_true rfl) (by decide) rfl rfl 24 rfl (fun rv h1 q16 => ?_)
          obtain ⟨m17, n18, rfl, rfl, I19, K20, rm17⟩ := q16
          have K20c := K20
          have K20 := K5.trans (K20.sub (fun _ _ q => q))
          show PV _ _ _ _ _ _ _ 24 [.ref 123, .int x0, .int x1, .int y1] [] _
          refine pv_aload_n (M := mX12_comeAll) 0 dX12_comeAll_24 25 rfl rfl rfl ?_
          refine pv_iload_n (M := mX12_comeAll) 2 dX12_comeAll_25 26 rfl rfl rfl ?_
          refine pv_callv (M := mX12_comeAll) (as := [.int x1]) (st := []) (kc2 := 0) (ks2 := 0) dX12_comeAll_26 wd1696 YX12_comesWithout ⟨wd1698, wd108⟩ (mk_get (tl123 hT)) rfl rfl (s_X12_comesWithout g hT I19 x1) rfl rfl (Nat.le_of_ble_eq_true rfl) (by decide) rfl rfl 29 rfl (fun rv h1 q21 => ?_)
          obtain ⟨v22, rfl, rfl, pv22, qv22, rv22⟩ := q21
          show PV _ _ _ _ _ _ _ 29 [.ref 123, .int x0, .int x1, .int y1] [.int v22] _
          refine pv_if_ne (M := mX12_comeAll) (tgt := 34) dX12_comeAll_29 32 rfl (by decide) (fun c23 => ?_) (fun c23 => ?_)
          · have c23 := iv_ne (X := v22.toInt) (Y := 0) c23 rfl (by decide)
            refine iv_inc (M := mX12_comeAll) (C := 1) dX12_comeAll_34 37 rfl rfl (by decide) rfl rfl (by decide) (by omega) (by omega) (fun v24 ev24 => ?_)
            show PV _ _ _ _ _ _ _ 37 [.ref 123, .int x0, .int x1, .int v24] [] _
            refine pv_goto (M := mX12_comeAll) (tgt := 2) dX12_comeAll_37 (by decide) ?_
            exact ih8 v24 m17 n18 (by first | omega | assumption | exact (iv_rng _).2 | exact (iv_rng _).1 | decide) (by first | omega | assumption | exact (iv_rng _).2 | exact (iv_rng _).1 | decide) I19 K20 (by omega)
          · have c23 := iv_eq (X := v22.toInt) (Y := 0) c23 rfl (by decide)
            refine pv_iconst (M := mX12_comeAll) (v := 0) dX12_comeAll_32 33 rfl (by decide) ?_
            exact pv_iret (M := mX12_comeAll) dX12_comeAll_33 rfl rfl ⟨_, _, _, rfl, rfl, I19, K20, by decide, by decide, trivial⟩
        · have c15 := iv_eq (X := v14.toInt) (Y := 0) c15 rfl (by decide)
          refine pv_goto (M := mX12_comeAll) (tgt := 34) dX12_comeAll_16 (by decide) ?_
          refine iv_inc (M := mX12_comeAll) (C := 1) dX12_comeAll_34 37 rfl rfl (by decide) rfl rfl (by decide) (by omega) (by omega) (fun v25 ev25 => ?_)
          show PV _ _ _ _ _ _ _ 37 [.ref 123, .int x0, .int x1, .int v25] [] _
          refine pv_goto (M := mX12_comeAll) (tgt := 2) dX12_comeAll_37 (by decide) ?_
          exact ih8 v25 m2 n3 (by first | omega | assumption | exact (iv_rng _).2 | exact (iv_rng _).1 | decide) (by first | omega | assumption | exact (iv_rng _).2 | exact (iv_rng _).1 | decide) I4 K5 (by omega)
  have z26 : (0 : Int32).toInt = 0 := by decide
  exact lp7 (((8 - 0) : Int).toNat + 1) 0 m n (by first | omega | assumption | exact (iv_rng _).2 | exact (iv_rng _).1 | decide) (by first | omega | assumption | exact (iv_rng _).2 | exact (iv_rng _).1 | decide) I Kp (by omega)

set_option maxHeartbeats 2000000 in
set_option maxRecDepth 20000 in
theorem s_X12_forged (g : pv_G) {T : List mv_T} {m : Nat → Nat → Int32} {n : Nat → Nat → Int64} {r : Nat → Value} (hT : TX T) (I : IV BB m) (x0 : Int32) : PM g mX12_forged yX12_forged (sqI T BB (wl [(123, 123, some 40), (123, 123, some 41), (149, 149, none), (150, 150, none)]) r m (-1) 1 (fun m' v => True)) 2 0 0 [.ref 123, .int x0] (mk T m n r) := by
  have Kp : fr (wl [(123, 123, some 40), (123, 123, some 41), (149, 149, none), (150, 150, none)]) m m := fr.rf
  refine PM.of 1 (lo := [.ref 123, .int x0, pv_U]) rfl (by decide) rfl rfl (Nat.le_of_ble_eq_true rfl) ?_
  refine pv_aload_n (M := mX12_forged) 0 dX12_forged_0 1 rfl rfl rfl ?_
  refine pv_iload_n (M := mX12_forged) 1 dX12_forged_1 2 rfl rfl rfl ?_
  refine pv_callv (M := mX12_forged) (as := [.int x0]) (st := []) (kc2 := 0) (ks2 := 0) dX12_forged_2 wd1558 YX12_isDeed ⟨wd1560, wd87⟩ (mk_get (tl123 hT)) rfl rfl (s_X12_isDeed g hT I x0) rfl rfl (Nat.le_of_ble_eq_true rfl) (by decide) rfl rfl 5 rfl (fun rv h1 q1 => ?_)
  obtain ⟨v2, rfl, rfl, pv2, qv2, rv2⟩ := q1
  replace rv2 : v2 = 0 ∨ (0 ≤ x0.toInt ∧ x0.toInt ≤ 7) := rv2
  show PV _ _ _ _ _ _ _ 5 [.ref 123, .int x0, pv_U] [.int v2] _
  refine pv_if_ne (M := mX12_forged) (tgt := 10) dX12_forged_5 8 rfl (by decide) (fun c3 => ?_) (fun c3 => ?_)
  · have pc3 := rv2.resolve_left c3
    have c3 := iv_ne (X := v2.toInt) (Y := 0) c3 rfl (by decide)
    refine pv_aload_n (M := mX12_forged) 0 dX12_forged_10 11 rfl rfl rfl ?_
    refine pv_iload_n (M := mX12_forged) 1 dX12_forged_11 12 rfl rfl rfl ?_
    refine pv_callv (M := mX12_forged) (as := [.int x0]) (st := []) (kc2 := 0) (ks2 := 0) dX12_forged_12 wd1567 YX12_laysDeed ⟨wd1569, wd89⟩ (mk_get (tl123 hT)) rfl rfl (s_X12_laysDeed g hT I x0 (by omega) (by omega)) rfl rfl (Nat.le_of_ble_eq_true rfl) (by decide) rfl rfl 15 rfl (fun rv h1 q4 => ?_)
    obtain ⟨m5, n6, rfl, rfl, I7, K8, rm5⟩ := q4
    have K8c := K8
    have K8 := Kp.trans (K8.sub (wl_sub (by decide)))
    show PV _ _ _ _ _ _ _ 15 [.ref 123, .int x0, pv_U] [] _
    refine pv_iconst (M := mX12_forged) (v := 0) dX12_forged_15 16 rfl (by decide) ?_
    refine pv_istore_n (M := mX12_forged) 2 (lo2 := [.ref 123, .int x0, .int 0]) dX12_forged_16 17 rfl rfl (by decide) rfl rfl ?_
    have lp15 : ∀ (fuel14 : Nat) (y9 : Int32) (m10 : Nat → Nat → Int32) (n11 : Nat → Nat → Int64), (0 ≤ y9.toInt) → (y9.toInt ≤ 8) → IV BB m10 → fr (wl [(123, 123, some 40), (123, 123, some 41), (149, 149, none), (150, 150, none)]) m m10 → ((8 - y9.toInt) : Int).toNat < fuel14 → PV none g mX12_forged (sqI T BB (wl [(123, 123, some 40), (123, 123, some 41), (149, 149, none), (150, 150, none)]) r m (-1) 1 (fun m' v => True)) 2 0 0 17 [.ref 123, .int x0, .int y9] [] (mk T m10 n11 r) := by
      intro fuel14
      induction fuel14 with
      | zero => intro y9 m10 n11 b17 b18 I12 K13 z19; omega
      | succ fuel14 ih16 =>
        intro y9 m10 n11 b17 b18 I12 K13 z19
        refine pv_iload_n (M := mX12_forged) 2 dX12_forged_17 18 rfl rfl rfl ?_
        refine pv_aload_n (M := mX12_forged) 0 dX12_forged_18 19 rfl rfl rfl ?_
        refine iv_get (M := mX12_forged) (l1 := 0) (l2 := 8) dX12_forged_19 FX12 0 wd1173 (by decide) (tl123 hT) rfl I12 rfl 22 rfl (fun v20 ev20 pv20 qv20 => ?_)
        refine pv_icmp_ge (M := mX12_forged) (tgt := 47) dX12_forged_22 25 rfl (by decide) (fun c21 => ?_) (fun c21 => ?_)
        · have c21 := iv_le (X := v20.toInt) (Y := y9.toInt) c21 rfl rfl
          refine pv_iconst (M := mX12_forged) (v := 1) dX12_forged_47 48 rfl (by decide) ?_
          exact pv_iret (M := mX12_forged) dX12_forged_48 rfl rfl ⟨_, _, _, rfl, rfl, I12, K13, by decide, by decide, trivial⟩
        · have c21 := iv_nle (X := v20.toInt) (Y := y9.toInt) c21 rfl rfl
          refine pv_aload_n (M := mX12_forged) 0 dX12_forged_25 26 rfl rfl rfl ?_
          refine pv_iload_n (M := mX12_forged) 2 dX12_forged_26 27 rfl rfl rfl ?_
          refine pv_iconst (M := mX12_forged) (v := 1) dX12_forged_27 28 rfl (by decide) ?_
          have z22 : (1 : Int32).toInt = 1 := by decide
          refine pv_callv (M := mX12_forged) (as := [.int y9, .int 1]) (st := []) (kc2 := 0) (ks2 := 0) dX12_forged_28 wd1563 YX12_laysBlank ⟨wd1565, wd88⟩ (mk_get (tl123 hT)) rfl rfl (s_X12_laysBlank g hT I12 y9 (by omega) (by omega) 1 (by decide) (by decide)) rfl rfl (Nat.le_of_ble_eq_true rfl) (by decide) rfl rfl 31 rfl (fun rv h1 q23 => ?_)
          obtain ⟨m24, n25, rfl, rfl, I26, K27, rm24⟩ := q23
          replace rm24 : (1 : Int) = 0 → (m24 123 40).toInt = nu m24 y9.toInt 0 := by have q_ := rm24; (try rw [z22] at q_); exact q_
          have K27c := K27
          have K27 := K13.trans (K27.sub (wl_sub (by decide)))
          show PV _ _ _ _ _ _ _ 31 [.ref 123, .int x0, .int y9] [] _
          refine pv_aload_n (M := mX12_forged) 0 dX12_forged_31 32 rfl rfl rfl ?_
          refine pv_iconst (M := mX12_forged) (v := (-1)) dX12_forged_32 33 rfl (by decide) ?_
          refine pv_callv (M := mX12_forged) (as := [.int (-1)]) (st := []) (kc2 := 0) (ks2 := 0) dX12_forged_33 wd1696 YX12_comesWithout ⟨wd1698, wd108⟩ (mk_get (tl123 hT)) rfl rfl (s_X12_comesWithout g hT I26 (-1)) rfl rfl (Nat.le_of_ble_eq_true rfl) (by decide) rfl rfl 36 rfl (fun rv h1 q28 => ?_)
          obtain ⟨v29, rfl, rfl, pv29, qv29, rv29⟩ := q28
          show PV _ _ _ _ _ _ _ 36 [.ref 123, .int x0, .int y9] [.int v29] _
          refine pv_if_eq (M := mX12_forged) (tgt := 41) dX12_forged_36 39 rfl (by decide) (fun c30 => ?_) (fun c30 => ?_)
          · have c30 := iv_eq (X := v29.toInt) (Y := 0) c30 rfl (by decide)
            refine iv_inc (M := mX12_forged) (C := 1) dX12_forged_41 44 rfl rfl (by decide) rfl rfl (by decide) (by omega) (by omega) (fun v31 ev31 => ?_)
            show PV _ _ _ _ _ _ _ 44 [.ref 123, .int x0, .int v31] [] _
            refine pv_goto (M := mX12_forged) (tgt := 17) dX12_forged_44 (by decide) ?_
            exact ih16 v31 m24 n25 (by first | omega | assumption | exact (iv_rng _).2 | exact (iv_rng _).1 | decide) (by first | omega | assumption | exact (iv_rng _).2 | exact (iv_rng _).1 | decide) I26 K27 (by omega)
          · have c30 := iv_ne (X := v29.toInt) (Y := 0) c30 rfl (by decide)
            refine pv_iconst (M := mX12_forged) (v := 0) dX12_forged_39 40 rfl (by decide) ?_
            exact pv_iret (M := mX12_forged) dX12_forged_40 rfl rfl ⟨_, _, _, rfl, rfl, I26, K27, by decide, by decide, trivial⟩
    have z32 : (0 : Int32).toInt = 0 := by decide
    exact lp15 (((8 - 0) : Int).toNat + 1) 0 m5 n6 (by first | omega | assumption | exact (iv_rng _).2 | exact (iv_rng _).1 | decide) (by first | omega | assumption | exact (iv_rng _).2 | exact (iv_rng _).1 | decide) I7 K8 (by omega)
  · have c3 := iv_eq (X := v2.toInt) (Y := 0) c3 rfl (by decide)
    refine pv_iconst (M := mX12_forged) (v := (-1)) dX12_forged_8 9 rfl (by decide) ?_
    exact pv_iret (M := mX12_forged) dX12_forged_9 rfl rfl ⟨_, _, _, rfl, rfl, I, Kp, by decide, by decide, trivial⟩

set_option maxHeartbeats 2000000 in
set_option maxRecDepth 20000 in
theorem s_X12_laysComes (g : pv_G) {T : List mv_T} {m : Nat → Nat → Int32} {n : Nat → Nat → Int64} {r : Nat → Value} (hT : TX T) (I : IV BB m) : PM g mX12_laysComes yX12_laysComes (sqV T BB (wl [(123, 123, some 40), (123, 123, some 41), (149, 149, none), (150, 150, none), (165, 165, none)]) r m (fun m' => True)) 2 0 0 [.ref 123] (mk T m n r) := by
  have Kp : fr (wl [(123, 123, some 40), (123, 123, some 41), (149, 149, none), (150, 150, none), (165, 165, none)]) m m := fr.rf
  refine PM.of 2 (lo := [.ref 123, pv_U, pv_U]) rfl (by decide) rfl rfl (Nat.le_of_ble_eq_true rfl) ?_
  refine pv_iconst (M := mX12_laysComes) (v := 0) dX12_laysComes_0 1 rfl (by decide) ?_
  refine pv_istore_n (M := mX12_laysComes) 1 (lo2 := [.ref 123, .int 0, pv_U]) dX12_laysComes_1 2 rfl rfl (by decide) rfl rfl ?_
  have lp7 : ∀ (fuel6 : Nat) (y1 : Int32) (m2 : Nat → Nat → Int32) (n3 : Nat → Nat → Int64), (0 ≤ y1.toInt) → (y1.toInt ≤ 8) → IV BB m2 → fr (wl [(123, 123, some 40), (123, 123, some 41), (149, 149, none), (150, 150, none), (165, 165, none)]) m m2 → ((8 - y1.toInt) : Int).toNat < fuel6 → PV none g mX12_laysComes (sqV T BB (wl [(123, 123, some 40), (123, 123, some 41), (149, 149, none), (150, 150, none), (165, 165, none)]) r m (fun m' => True)) 2 0 0 2 [.ref 123, .int y1, pv_U] [] (mk T m2 n3 r) := by
    intro fuel6
    induction fuel6 with
    | zero => intro y1 m2 n3 b9 b10 I4 K5 z11; omega
    | succ fuel6 ih8 =>
      intro y1 m2 n3 b9 b10 I4 K5 z11
      refine pv_iload_n (M := mX12_laysComes) 1 dX12_laysComes_2 3 rfl rfl rfl ?_
      refine pv_aload_n (M := mX12_laysComes) 0 dX12_laysComes_3 4 rfl rfl rfl ?_
      refine iv_get (M := mX12_laysComes) (l1 := 0) (l2 := 8) dX12_laysComes_4 FX12 0 wd1173 (by decide) (tl123 hT) rfl I4 rfl 7 rfl (fun v12 ev12 pv12 qv12 => ?_)
      refine pv_icmp_ge (M := mX12_laysComes) (tgt := 81) dX12_laysComes_7 10 rfl (by decide) (fun c13 => ?_) (fun c13 => ?_)
      · have c13 := iv_le (X := v12.toInt) (Y := y1.toInt) c13 rfl rfl
        exact pv_vret (M := mX12_laysComes) dX12_laysComes_81 rfl ⟨_, _, rfl, rfl, I4, K5, trivial⟩
      · have c13 := iv_nle (X := v12.toInt) (Y := y1.toInt) c13 rfl rfl
        refine pv_aload_n (M := mX12_laysComes) 0 dX12_laysComes_10 11 rfl rfl rfl ?_
        refine pv_iload_n (M := mX12_laysComes) 1 dX12_laysComes_11 12 rfl rfl rfl ?_
        refine pv_iconst (M := mX12_laysComes) (v := 0) dX12_laysComes_12 13 rfl (by decide) ?_
        have z14 : (0 : Int32).toInt = 0 := by decide
        refine pv_callv (M := mX12_laysComes) (as := [.int y1, .int 0]) (st := []) (kc2 := 0) (ks2 := 0) dX12_laysComes_13 wd1563 YX12_laysBlank ⟨wd1565, wd88⟩ (mk_get (tl123 hT)) rfl rfl (s_X12_laysBlank g hT I4 y1 (by omega) (by omega) 0 (by decide) (by decide)) rfl rfl (Nat.le_of_ble_eq_true rfl) (by decide) rfl rfl 16 rfl (fun rv h1 q15 => ?_)
        obtain ⟨m16, n17, rfl, rfl, I18, K19, rm16⟩ := q15
        replace rm16 : (0 : Int) = 0 → (m16 123 40).toInt = nu m16 y1.toInt 0 := by have q_ := rm16; (try rw [z14] at q_); exact q_
        have K19c := K19
        have K19 := K5.trans (K19.sub (wl_sub (by decide)))
        show PV _ _ _ _ _ _ _ 16 [.ref 123, .int y1, pv_U] [] _
        refine pv_iconst (M := mX12_laysComes) (v := 0) dX12_laysComes_16 17 rfl (by decide) ?_
        refine pv_istore_n (M := mX12_laysComes) 2 (lo2 := [.ref 123, .int y1, .int 0]) dX12_laysComes_17 18 rfl rfl (by decide) rfl rfl ?_
        have lp26 : ∀ (fuel25 : Nat) (y20 : Int32) (m21 : Nat → Nat → Int32) (n22 : Nat → Nat → Int64), (0 ≤ y20.toInt) → (y20.toInt ≤ 8) → IV BB m21 → fr (wl [(123, 123, some 40), (123, 123, some 41), (149, 149, none), (150, 150, none), (165, 165, none)]) m m21 → ((8 - y20.toInt) : Int).toNat < fuel25 → PV none g mX12_laysComes (sqV T BB (wl [(123, 123, some 40), (123, 123, some 41), (149, 149, none), (150, 150, none), (165, 165, none)]) r m (fun m' => True)) 2 0 0 18 [.ref 123, .int y1, .int y20] [] (mk T m21 n22 r) := by
          intro fuel25
          induction fuel25 with
          | zero => intro y20 m21 n22 b28 b29 I23 K24 z30; omega
          | succ fuel25 ih27 =>
            intro y20 m21 n22 b28 b29 I23 K24 z30
            refine pv_iload_n (M := mX12_laysComes) 2 dX12_laysComes_18 19 rfl rfl rfl ?_
            refine pv_bipush (M := mX12_laysComes) (v := 8) dX12_laysComes_19 21 rfl (by decide) ?_
            refine pv_icmp_ge (M := mX12_laysComes) (tgt := 75) dX12_laysComes_21 24 rfl (by decide) (fun c31 => ?_) (fun c31 => ?_)
            · have c31 := iv_le (X := 8) (Y := y20.toInt) c31 (by decide) rfl
              refine iv_inc (M := mX12_laysComes) (C := 1) dX12_laysComes_75 78 rfl rfl (by decide) rfl rfl (by decide) (by omega) (by omega) (fun v32 ev32 => ?_)
              show PV _ _ _ _ _ _ _ 78 [.ref 123, .int v32, .int y20] [] _
              refine pv_goto (M := mX12_laysComes) (tgt := 2) dX12_laysComes_78 (by decide) ?_
              refine pv_fg (lo2 := [.ref 123, .int v32, pv_U]) ⟨Or.inr rfl, ⟨Or.inr rfl, ⟨Or.inl rfl, trivial⟩⟩⟩ ?_
              exact ih8 v32 m21 n22 (by first | omega | assumption | exact (iv_rng _).2 | exact (iv_rng _).1 | decide) (by first | omega | assumption | exact (iv_rng _).2 | exact (iv_rng _).1 | decide) I23 K24 (by omega)
            · have c31 := iv_nle (X := 8) (Y := y20.toInt) c31 (by decide) rfl
              refine pv_aload_n (M := mX12_laysComes) 0 dX12_laysComes_24 25 rfl rfl rfl ?_
              refine pv_iload_n (M := mX12_laysComes) 2 dX12_laysComes_25 26 rfl rfl rfl ?_
              refine pv_callv (M := mX12_laysComes) (as := [.int y20]) (st := []) (kc2 := 0) (ks2 := 0) dX12_laysComes_26 wd1558 YX12_isDeed ⟨wd1560, wd87⟩ (mk_get (tl123 hT)) rfl rfl (s_X12_isDeed g hT I23 y20) rfl rfl (Nat.le_of_ble_eq_true rfl) (by decide) rfl rfl 29 rfl (fun rv h1 q33 => ?_)
              obtain ⟨v34, rfl, rfl, pv34, qv34, rv34⟩ := q33
              replace rv34 : v34 = 0 ∨ (0 ≤ y20.toInt ∧ y20.toInt ≤ 7) := rv34
              show PV _ _ _ _ _ _ _ 29 [.ref 123, .int y1, .int y20] [.int v34] _
              refine pv_if_eq (M := mX12_laysComes) (tgt := 37) dX12_laysComes_29 32 rfl (by decide) (fun c35 => ?_) (fun c35 => ?_)
              · have c35 := iv_eq (X := v34.toInt) (Y := 0) c35 rfl (by decide)
                refine pv_aload_n (M := mX12_laysComes) 0 dX12_laysComes_37 38 rfl rfl rfl ?_
                refine mv_get (M := mX12_laysComes) (v := .ref 165) dX12_laysComes_38 FX12 59 wd1232 (by decide) (tl123 hT) rfl rfl 41 rfl ?_
                refine pv_bipush (M := mX12_laysComes) (v := 8) dX12_laysComes_41 43 rfl (by decide) ?_
                refine pv_iload_n (M := mX12_laysComes) 2 dX12_laysComes_43 44 rfl rfl rfl ?_
                refine iv_imul (M := mX12_laysComes) (X := 8) (Y := y20.toInt) dX12_laysComes_44 45 rfl (by decide) rfl (by omega) (by omega) (fun v36 ev36 => ?_)
                refine pv_iload_n (M := mX12_laysComes) 1 dX12_laysComes_45 46 rfl rfl rfl ?_
                refine iv_iadd (M := mX12_laysComes) (X := v36.toInt) (Y := y1.toInt) dX12_laysComes_46 47 rfl rfl rfl (by omega) (by omega) (fun v37 ev37 => ?_)
                refine pv_aload_n (M := mX12_laysComes) 0 dX12_laysComes_47 48 rfl rfl rfl ?_
                refine pv_iload_n (M := mX12_laysComes) 2 dX12_laysComes_48 49 rfl rfl rfl ?_
                refine pv_callv (M := mX12_laysComes) (as := [.int y20]) (st := [.int v37, .ref 165]) (kc2 := 0) (ks2 := 0) dX12_laysComes_49 wd1558 YX12_isDeed ⟨wd1560, wd87⟩ (mk_get (tl123 hT)) rfl rfl (s_X12_isDeed g hT I23 y20) rfl rfl (Nat.le_of_ble_eq_true rfl) (by decide) rfl rfl 52 rfl (fun rv h1 q38 => ?_)
                obtain ⟨v39, rfl, rfl, pv39, qv39, rv39⟩ := q38
                replace rv39 : v39 = 0 ∨ (0 ≤ y20.toInt ∧ y20.toInt ≤ 7) := rv39
                show PV _ _ _ _ _ _ _ 52 [.ref 123, .int y1, .int y20] [.int v39, .int v37, .ref 165] _
                refine pv_if_eq (M := mX12_laysComes) (tgt := 67) dX12_laysComes_52 55 rfl (by decide) (fun c40 => ?_) (fun c40 => ?_)
                · have c40 := iv_eq (X := v39.toInt) (Y := 0) c40 rfl (by decide)
                  refine pv_iconst (M := mX12_laysComes) (v := 0) dX12_laysComes_67 68 rfl (by decide) ?_
                  refine iv_zast (M := mX12_laysComes) (X := v37.toInt) (l1 := 0) (l2 := 1) dX12_laysComes_68 (tl165 hT) rfl (by omega) (by omega) I23 (fun _ => rfl) (y := 0) (by decide) (by decide) (by decide) 69 rfl (fun m41 e44 I42 => ?_)
                  have K43 := K24.set e44 rfl
                  refine iv_inc (M := mX12_laysComes) (C := 1) dX12_laysComes_69 72 rfl rfl (by decide) rfl rfl (by decide) (by omega) (by omega) (fun v45 ev45 => ?_)
                  show PV _ _ _ _ _ _ _ 72 [.ref 123, .int y1, .int v45] [] _
                  refine pv_goto (M := mX12_laysComes) (tgt := 18) dX12_laysComes_72 (by decide) ?_
                  exact ih27 v45 m41 n22 (by first | omega | assumption | exact (iv_rng _).2 | exact (iv_rng _).1 | decide) (by first | omega | assumption | exact (iv_rng _).2 | exact (iv_rng _).1 | decide) I42 K43 (by omega)
                · have pc40 := rv39.resolve_left c40
                  have c40 := iv_ne (X := v39.toInt) (Y := 0) c40 rfl (by decide)
                  refine pv_aload_n (M := mX12_laysComes) 0 dX12_laysComes_55 56 rfl rfl rfl ?_
                  refine pv_iconst (M := mX12_laysComes) (v := (-1)) dX12_laysComes_56 57 rfl (by decide) ?_
                  refine pv_callv (M := mX12_laysComes) (as := [.int (-1)]) (st := [.int v37, .ref 165]) (kc2 := 0) (ks2 := 0) dX12_laysComes_57 wd1696 YX12_comesWithout ⟨wd1698, wd108⟩ (mk_get (tl123 hT)) rfl rfl (s_X12_comesWithout g hT I23 (-1)) rfl rfl (Nat.le_of_ble_eq_true rfl) (by decide) rfl rfl 60 rfl (fun rv h1 q46 => ?_)
                  obtain ⟨v47, rfl, rfl, pv47, qv47, rv47⟩ := q46
                  show PV _ _ _ _ _ _ _ 60 [.ref 123, .int y1, .int y20] [.int v47, .int v37, .ref 165] _
                  refine pv_if_eq (M := mX12_laysComes) (tgt := 67) dX12_laysComes_60 63 rfl (by decide) (fun c48 => ?_) (fun c48 => ?_)
                  · have c48 := iv_eq (X := v47.toInt) (Y := 0) c48 rfl (by decide)
                    refine pv_iconst (M := mX12_laysComes) (v := 0) dX12_laysComes_67 68 rfl (by decide) ?_
                    refine iv_zast (M := mX12_laysComes) (X := v37.toInt) (l1 := 0) (l2 := 1) dX12_laysComes_68 (tl165 hT) rfl (by omega) (by omega) I23 (fun _ => rfl) (y := 0) (by decide) (by decide) (by decide) 69 rfl (fun m49 e52 I50 => ?_)
                    have K51 := K24.set e52 rfl
                    refine iv_inc (M := mX12_laysComes) (C := 1) dX12_laysComes_69 72 rfl rfl (by decide) rfl rfl (by decide) (by omega) (by omega) (fun v53 ev53 => ?_)
                    show PV _ _ _ _ _ _ _ 72 [.ref 123, .int y1, .int v53] [] _
                    refine pv_goto (M := mX12_laysComes) (tgt := 18) dX12_laysComes_72 (by decide) ?_
                    exact ih27 v53 m49 n22 (by first | omega | assumption | exact (iv_rng _).2 | exact (iv_rng _).1 | decide) (by first | omega | assumption | exact (iv_rng _).2 | exact (iv_rng _).1 | decide) I50 K51 (by omega)
                  · have c48 := iv_ne (X := v47.toInt) (Y := 0) c48 rfl (by decide)
                    refine pv_iconst (M := mX12_laysComes) (v := 1) dX12_laysComes_63 64 rfl (by decide) ?_
                    refine pv_goto (M := mX12_laysComes) (tgt := 68) dX12_laysComes_64 (by decide) ?_
                    refine iv_zast (M := mX12_laysComes) (X := v37.toInt) (l1 := 0) (l2 := 1) dX12_laysComes_68 (tl165 hT) rfl (by omega) (by omega) I23 (fun _ => rfl) (y := 1) (by decide) (by decide) (by decide) 69 rfl (fun m54 e57 I55 => ?_)
                    have K56 := K24.set e57 rfl
                    refine iv_inc (M := mX12_laysComes) (C := 1) dX12_laysComes_69 72 rfl rfl (by decide) rfl rfl (by decide) (by omega) (by omega) (fun v58 ev58 => ?_)
                    show PV _ _ _ _ _ _ _ 72 [.ref 123, .int y1, .int v58] [] _
                    refine pv_goto (M := mX12_laysComes) (tgt := 18) dX12_laysComes_72 (by decide) ?_
                    exact ih27 v58 m54 n22 (by first | omega | assumption | exact (iv_rng _).2 | exact (iv_rng _).1 | decide) (by first | omega | assumption | exact (iv_rng _).2 | exact (iv_rng _).1 | decide) I55 K56 (by omega)
              · have pc35 := rv34.resolve_left c35
                have c35 := iv_ne (X := v34.toInt) (Y := 0) c35 rfl (by decide)
                refine pv_aload_n (M := mX12_laysComes) 0 dX12_laysComes_32 33 rfl rfl rfl ?_
                refine pv_iload_n (M := mX12_laysComes) 2 dX12_laysComes_33 34 rfl rfl rfl ?_
                refine pv_callv (M := mX12_laysComes) (as := [.int y20]) (st := []) (kc2 := 0) (ks2 := 0) dX12_laysComes_34 wd1567 YX12_laysDeed ⟨wd1569, wd89⟩ (mk_get (tl123 hT)) rfl rfl (s_X12_laysDeed g hT I23 y20 (by omega) (by omega)) rfl rfl (Nat.le_of_ble_eq_true rfl) (by decide) rfl rfl 37 rfl (fun rv h1 q59 => ?_)
                obtain ⟨m60, n61, rfl, rfl, I62, K63, rm60⟩ := q59
                have K63c := K63
                have K63 := K24.trans (K63.sub (wl_sub (by decide)))
                show PV _ _ _ _ _ _ _ 37 [.ref 123, .int y1, .int y20] [] _
                refine pv_aload_n (M := mX12_laysComes) 0 dX12_laysComes_37 38 rfl rfl rfl ?_
                refine mv_get (M := mX12_laysComes) (v := .ref 165) dX12_laysComes_38 FX12 59 wd1232 (by decide) (tl123 hT) rfl rfl 41 rfl ?_
                refine pv_bipush (M := mX12_laysComes) (v := 8) dX12_laysComes_41 43 rfl (by decide) ?_
                refine pv_iload_n (M := mX12_laysComes) 2 dX12_laysComes_43 44 rfl rfl rfl ?_
                refine iv_imul (M := mX12_laysComes) (X := 8) (Y := y20.toInt) dX12_laysComes_44 45 rfl (by decide) rfl (by omega) (by omega) (fun v64 ev64 => ?_)
                refine pv_iload_n (M := mX12_laysComes) 1 dX12_laysComes_45 46 rfl rfl rfl ?_
                refine iv_iadd (M := mX12_laysComes) (X := v64.toInt) (Y := y1.toInt) dX12_laysComes_46 47 rfl rfl rfl (by omega) (by omega) (fun v65 ev65 => ?_)
                refine pv_aload_n (M := mX12_laysComes) 0 dX12_laysComes_47 48 rfl rfl rfl ?_
                refine pv_iload_n (M := mX12_laysComes) 2 dX12_laysComes_48 49 rfl rfl rfl ?_
                refine pv_callv (M := mX12_laysComes) (as := [.int y20]) (st := [.int v65, .ref 165]) (kc2 := 0) (ks2 := 0) dX12_laysComes_49 wd1558 YX12_isDeed ⟨wd1560, wd87⟩ (mk_get (tl123 hT)) rfl rfl (s_X12_isDeed g hT I62 y20) rfl rfl (Nat.le_of_ble_eq_true rfl) (by decide) rfl rfl 52 rfl (fun rv h1 q66 => ?_)
                obtain ⟨v67, rfl, rfl, pv67, qv67, rv67⟩ := q66
                replace rv67 : v67 = 0 ∨ (0 ≤ y20.toInt ∧ y20.toInt ≤ 7) := rv67
                show PV _ _ _ _ _ _ _ 52 [.ref 123, .int y1, .int y20] [.int v67, .int v65, .ref 165] _
                refine pv_if_eq (M := mX12_laysComes) (tgt := 67) dX12_laysComes_52 55 rfl (by decide) (fun c68 => ?_) (fun c68 => ?_)
                · have c68 := iv_eq (X := v67.toInt) (Y := 0) c68 rfl (by decide)
                  refine pv_iconst (M := mX12_laysComes) (v := 0) dX12_laysComes_67 68 rfl (by decide) ?_
                  refine iv_zast (M := mX12_laysComes) (X := v65.toInt) (l1 := 0) (l2 := 1) dX12_laysComes_68 (tl165 hT) rfl (by omega) (by omega) I62 (fun _ => rfl) (y := 0) (by decide) (by decide) (by decide) 69 rfl (fun m69 e72 I70 => ?_)
                  have K71 := K63.set e72 rfl
                  refine iv_inc (M := mX12_laysComes) (C := 1) dX12_laysComes_69 72 rfl rfl (by decide) rfl rfl (by decide) (by omega) (by omega) (fun v73 ev73 => ?_)
                  show PV _ _ _ _ _ _ _ 72 [.ref 123, .int y1, .int v73] [] _
                  refine pv_goto (M := mX12_laysComes) (tgt := 18) dX12_laysComes_72 (by decide) ?_
                  exact ih27 v73 m69 n61 (by first | omega | assumption | exact (iv_rng _).2 | exact (iv_rng _).1 | decide) (by first | omega | assumption | exact (iv_rng _).2 | exact (iv_rng _).1 | decide) I70 K71 (by omega)
                · have pc68 := rv67.resolve_left c68
                  have c68 := iv_ne (X := v67.toInt) (Y := 0) c68 rfl (by decide)
                  refine pv_aload_n (M := mX12_laysComes) 0 dX12_laysComes_55 56 rfl rfl rfl ?_
                  refine pv_iconst (M := mX12_laysComes) (v := (-1)) dX12_laysComes_56 57 rfl (by decide) ?_
                  refine pv_callv (M := mX12_laysComes) (as := [.int (-1)]) (st := [.int v65, .ref 165]) (kc2 := 0) (ks2 := 0) dX12_laysComes_57 wd1696 YX12_comesWithout ⟨wd1698, wd108⟩ (mk_get (tl123 hT)) rfl rfl (s_X12_comesWithout g hT I62 (-1)) rfl rfl (Nat.le_of_ble_eq_true rfl) (by decide) rfl rfl 60 rfl (fun rv h1 q74 => ?_)
                  obtain ⟨v75, rfl, rfl, pv75, qv75, rv75⟩ := q74
                  show PV _ _ _ _ _ _ _ 60 [.ref 123, .int y1, .int y20] [.int v75, .int v65, .ref 165] _
                  refine pv_if_eq (M := mX12_laysComes) (tgt := 67) dX12_laysComes_60 63 rfl (by decide) (fun c76 => ?_) (fun c76 => ?_)
                  · have c76 := iv_eq (X := v75.toInt) (Y := 0) c76 rfl (by decide)
                    refine pv_iconst (M := mX12_laysComes) (v := 0) dX12_laysComes_67 68 rfl (by decide) ?_
                    refine iv_zast (M := mX12_laysComes) (X := v65.toInt) (l1 := 0) (l2 := 1) dX12_laysComes_68 (tl165 hT) rfl (by omega) (by omega) I62 (fun _ => rfl) (y := 0) (by decide) (by decide) (by decide) 69 rfl (fun m77 e80 I78 => ?_)
                    have K79 := K63.set e80 rfl
                    refine iv_inc (M := mX12_laysComes) (C := 1) dX12_laysComes_69 72 rfl rfl (by decide) rfl rfl (by decide) (by omega) (by omega) (fun v81 ev81 => ?_)
                    show PV _ _ _ _ _ _ _ 72 [.ref 123, .int y1, .int v81] [] _
                    refine pv_goto (M := mX12_laysComes) (tgt := 18) dX12_laysComes_72 (by decide) ?_
                    exact ih27 v81 m77 n61 (by first | omega | assumption | exact (iv_rng _).2 | exact (iv_rng _).1 | decide) (by first | omega | assumption | exact (iv_rng _).2 | exact (iv_rng _).1 | decide) I78 K79 (by omega)
                  · have c76 := iv_ne (X := v75.toInt) (Y := 0) c76 rfl (by decide)
                    refine pv_iconst (M := mX12_laysComes) (v := 1) dX12_laysComes_63 64 rfl (by decide) ?_
                    refine pv_goto (M := mX12_laysComes) (tgt := 68) dX12_laysComes_64 (by decide) ?_
                    refine iv_zast (M := mX12_laysComes) (X := v65.toInt) (l1 := 0) (l2 := 1) dX12_laysComes_68 (tl165 hT) rfl (by omega) (by omega) I62 (fun _ => rfl) (y := 1) (by decide) (by decide) (by decide) 69 rfl (fun m82 e85 I83 => ?_)
                    have K84 := K63.set e85 rfl
                    refine iv_inc (M := mX12_laysComes) (C := 1) dX12_laysComes_69 72 rfl rfl (by decide) rfl rfl (by decide) (by omega) (by omega) (fun v86 ev86 => ?_)
                    show PV _ _ _ _ _ _ _ 72 [.ref 123, .int y1, .int v86] [] _
                    refine pv_goto (M := mX12_laysComes) (tgt := 18) dX12_laysComes_72 (by decide) ?_
                    exact ih27 v86 m82 n61 (by first | omega | assumption | exact (iv_rng _).2 | exact (iv_rng _).1 | decide) (by first | omega | assumption | exact (iv_rng _).2 | exact (iv_rng _).1 | decide) I83 K84 (by omega)
        have z87 : (0 : Int32).toInt = 0 := by decide
        exact lp26 (((8 - 0) : Int).toNat + 1) 0 m16 n17 (by first | omega | assumption | exact (iv_rng _).2 | exact (iv_rng _).1 | decide) (by first | omega | assumption | exact (iv_rng _).2 | exact (iv_rng _).1 | decide) I18 K19 (by omega)
  have z88 : (0 : Int32).toInt = 0 := by decide
  exact lp7 (((8 - 0) : Int).toNat + 1) 0 m n (by first | omega | assumption | exact (iv_rng _).2 | exact (iv_rng _).1 | decide) (by first | omega | assumption | exact (iv_rng _).2 | exact (iv_rng _).1 | decide) I Kp (by omega)

set_option maxHeartbeats 2000000 in
set_option maxRecDepth 20000 in
theorem s_X12_fewestStrokes (g : pv_G) {T : List mv_T} {m : Nat → Nat → Int32} {n : Nat → Nat → Int64} {r : Nat → Value} (hT : TX T) (I : IV BB m) (x0 : Int32) (hl0 : 1 ≤ x0.toInt) (hh0 : x0.toInt ≤ 9) : PM g mX12_fewestStrokes yX12_fewestStrokes (sqI T BB (wl [(155, 155, none)]) r m 0 1999999998 (fun m' v => True)) 2 0 0 [.ref 123, .int x0] (mk T m n r) := by
  have Kp : fr (wl [(155, 155, none)]) m m := fr.rf
  have z153 : 0 ≤ (m 123 40).toInt ∧ (m 123 40).toInt ≤ 40 := I 123 40
  have z154 : 0 ≤ (m 123 41).toInt ∧ (m 123 41).toInt ≤ 16 := I 123 41
  refine PM.of 4 (lo := [.ref 123, .int x0, pv_U, pv_U, pv_U, pv_U]) rfl (by decide) rfl rfl (Nat.le_of_ble_eq_true rfl) ?_
  refine pv_iconst (M := mX12_fewestStrokes) (v := 0) dX12_fewestStrokes_0 1 rfl (by decide) ?_
  refine pv_istore_n (M := mX12_fewestStrokes) 2 (lo2 := [.ref 123, .int x0, .int 0, pv_U, pv_U, pv_U]) dX12_fewestStrokes_1 2 rfl rfl (by decide) rfl rfl ?_
  have lp7 : ∀ (fuel6 : Nat) (y1 : Int32) (m2 : Nat → Nat → Int32) (n3 : Nat → Nat → Int64), (0 ≤ y1.toInt) → (y1.toInt ≤ 17) → IV BB m2 → fr (wl [(155, 155, none)]) m m2 → ((17 - y1.toInt) : Int).toNat < fuel6 → PV none g mX12_fewestStrokes (sqI T BB (wl [(155, 155, none)]) r m 0 1999999998 (fun m' v => True)) 2 0 0 2 [.ref 123, .int x0, .int y1, pv_U, pv_U, pv_U] [] (mk T m2 n3 r) := by
    intro fuel6
    induction fuel6 with
    | zero => intro y1 m2 n3 b9 b10 I4 K5 z11; omega
    | succ fuel6 ih8 =>
      intro y1 m2 n3 b9 b10 I4 K5 z11
      have z12 : 0 ≤ (m2 123 40).toInt ∧ (m2 123 40).toInt ≤ 40 := I4 123 40
      have z13 : 0 ≤ (m2 123 41).toInt ∧ (m2 123 41).toInt ≤ 16 := I4 123 41
      refine pv_iload_n (M := mX12_fewestStrokes) 2 dX12_fewestStrokes_2 3 rfl rfl rfl ?_
      refine pv_aload_n (M := mX12_fewestStrokes) 0 dX12_fewestStrokes_3 4 rfl rfl rfl ?_
      refine iv_get (M := mX12_fewestStrokes) (l1 := 0) (l2 := 16) dX12_fewestStrokes_4 FX12 41 wd1214 (by decide) (tl123 hT) rfl I4 rfl 7 rfl (fun v14 ev14 pv14 qv14 => ?_)
      have wv14 : v14.toInt = (m2 123 41).toInt := congrArg Int32.toInt ev14
      refine pv_icmp_gt (M := mX12_fewestStrokes) (tgt := 140) dX12_fewestStrokes_7 10 rfl (by decide) (fun c15 => ?_) (fun c15 => ?_)
      · have c15 := iv_lt (X := v14.toInt) (Y := y1.toInt) c15 rfl rfl
        refine pv_ldcw (M := mX12_fewestStrokes) (v := 1000000000) dX12_fewestStrokes_140 143 rfl wd1583 ?_
        refine pv_istore_n (M := mX12_fewestStrokes) 2 (lo2 := [.ref 123, .int x0, .int 1000000000, pv_U, pv_U, pv_U]) dX12_fewestStrokes_143 144 rfl rfl (by decide) rfl rfl ?_
        refine pv_iconst (M := mX12_fewestStrokes) (v := 0) dX12_fewestStrokes_144 145 rfl (by decide) ?_
        refine pv_istore_n (M := mX12_fewestStrokes) 3 (lo2 := [.ref 123, .int x0, .int 1000000000, .int 0, pv_U, pv_U]) dX12_fewestStrokes_145 146 rfl rfl (by decide) rfl rfl ?_
        have lp23 : ∀ (fuel22 : Nat) (y16 : Int32) (y17 : Int32), (0 ≤ y16.toInt) → (y16.toInt ≤ 1999999998) → (0 ≤ y17.toInt) → (y17.toInt ≤ 41) → ((41 - y17.toInt) : Int).toNat < fuel22 → PV none g mX12_fewestStrokes (sqI T BB (wl [(155, 155, none)]) r m 0 1999999998 (fun m' v => True)) 2 0 0 146 [.ref 123, .int x0, .int y16, .int y17, pv_U, pv_U] [] (mk T m2 n3 r) := by
          intro fuel22
          induction fuel22 with
          | zero => intro y16 y17 b25 b26 b27 b28 z29; omega
          | succ fuel22 ih24 =>
            intro y16 y17 b25 b26 b27 b28 z29
            refine pv_iload_n (M := mX12_fewestStrokes) 3 dX12_fewestStrokes_146 147 rfl rfl rfl ?_
            refine pv_aload_n (M := mX12_fewestStrokes) 0 dX12_fewestStrokes_147 148 rfl rfl rfl ?_
            refine iv_get (M := mX12_fewestStrokes) (l1 := 0) (l2 := 40) dX12_fewestStrokes_148 FX12 40 wd1213 (by decide) (tl123 hT) rfl I4 rfl 151 rfl (fun v30 ev30 pv30 qv30 => ?_)
            have wv30 : v30.toInt = (m2 123 40).toInt := congrArg Int32.toInt ev30
            refine pv_icmp_gt (M := mX12_fewestStrokes) (tgt := 194) dX12_fewestStrokes_151 154 rfl (by decide) (fun c31 => ?_) (fun c31 => ?_)
            · have c31 := iv_lt (X := v30.toInt) (Y := y17.toInt) c31 rfl rfl
              refine pv_iload_n (M := mX12_fewestStrokes) 2 dX12_fewestStrokes_194 195 rfl rfl rfl ?_
              exact pv_iret (M := mX12_fewestStrokes) dX12_fewestStrokes_195 rfl rfl ⟨_, _, _, rfl, rfl, I4, K5, by omega, by omega, trivial⟩
            · have c31 := iv_nlt (X := v30.toInt) (Y := y17.toInt) c31 rfl rfl
              refine pv_iload_n (M := mX12_fewestStrokes) 2 dX12_fewestStrokes_154 155 rfl rfl rfl ?_
              refine pv_aload_n (M := mX12_fewestStrokes) 0 dX12_fewestStrokes_155 156 rfl rfl rfl ?_
              refine mv_get (M := mX12_fewestStrokes) (v := .ref 155) dX12_fewestStrokes_156 FX12 48 wd1221 (by decide) (tl123 hT) rfl rfl 159 rfl ?_
              refine pv_bipush (M := mX12_fewestStrokes) (v := 17) dX12_fewestStrokes_159 161 rfl (by decide) ?_
              refine pv_iload_n (M := mX12_fewestStrokes) 3 dX12_fewestStrokes_161 162 rfl rfl rfl ?_
              refine iv_imul (M := mX12_fewestStrokes) (X := 17) (Y := y17.toInt) dX12_fewestStrokes_162 163 rfl (by decide) rfl (by omega) (by omega) (fun v32 ev32 => ?_)
              refine pv_aload_n (M := mX12_fewestStrokes) 0 dX12_fewestStrokes_163 164 rfl rfl rfl ?_
              refine iv_get (M := mX12_fewestStrokes) (l1 := 0) (l2 := 16) dX12_fewestStrokes_164 FX12 41 wd1214 (by decide) (tl123 hT) rfl I4 rfl 167 rfl (fun v33 ev33 pv33 qv33 => ?_)
              have wv33 : v33.toInt = (m2 123 41).toInt := congrArg Int32.toInt ev33
              refine iv_iadd (M := mX12_fewestStrokes) (X := v32.toInt) (Y := v33.toInt) dX12_fewestStrokes_167 168 rfl rfl rfl (by omega) (by omega) (fun v34 ev34 => ?_)
              refine iv_iald (M := mX12_fewestStrokes) (X := v34.toInt) (l1 := 0) (l2 := 1999999998) dX12_fewestStrokes_168 (tl155 hT) rfl (by omega) (by omega) I4 (fun _ => rfl) 169 rfl (fun v35 ev35 pv35 qv35 => ?_)
              refine pv_aload_n (M := mX12_fewestStrokes) 0 dX12_fewestStrokes_169 170 rfl rfl rfl ?_
              refine iv_get (M := mX12_fewestStrokes) (l1 := 0) (l2 := 40) dX12_fewestStrokes_170 FX12 40 wd1213 (by decide) (tl123 hT) rfl I4 rfl 173 rfl (fun v36 ev36 pv36 qv36 => ?_)
              have wv36 : v36.toInt = (m2 123 40).toInt := congrArg Int32.toInt ev36
              refine pv_iload_n (M := mX12_fewestStrokes) 3 dX12_fewestStrokes_173 174 rfl rfl rfl ?_
              refine iv_isub (M := mX12_fewestStrokes) (X := v36.toInt) (Y := y17.toInt) dX12_fewestStrokes_174 175 rfl rfl rfl (by omega) (by omega) (fun v37 ev37 => ?_)
              refine pv_iload_n (M := mX12_fewestStrokes) 1 dX12_fewestStrokes_175 176 rfl rfl rfl ?_
              refine iv_iadd (M := mX12_fewestStrokes) (X := v37.toInt) (Y := x0.toInt) dX12_fewestStrokes_176 177 rfl rfl rfl (by omega) (by omega) (fun v38 ev38 => ?_)
              refine pv_iconst (M := mX12_fewestStrokes) (v := 1) dX12_fewestStrokes_177 178 rfl (by decide) ?_
              refine iv_isub (M := mX12_fewestStrokes) (X := v38.toInt) (Y := 1) dX12_fewestStrokes_178 179 rfl rfl (by decide) (by omega) (by omega) (fun v39 ev39 => ?_)
              refine pv_iload_n (M := mX12_fewestStrokes) 1 dX12_fewestStrokes_179 180 rfl rfl rfl ?_
              refine iv_idivb (M := mX12_fewestStrokes) (X := v39.toInt) (Y := x0.toInt) dX12_fewestStrokes_180 181 rfl rfl rfl (by omega) (by omega) (fun v40 ev40 fv40 => ?_)
              refine pv_calls (M := mX12_fewestStrokes) (as := [.int v35, .int v40]) (st := [.int y16]) (kc2 := 0) (ks2 := 0) dX12_fewestStrokes_181 wd1588 YX12_sum wd1589 (s_X12_sum g hT I4 v35 (by omega) (by omega) v40 (by omega) (by omega)) rfl rfl (Nat.le_of_ble_eq_true rfl) (by decide) rfl rfl 184 rfl (fun rv h1 q41 => ?_)
              obtain ⟨v42, rfl, rfl, pv42, qv42, rv42⟩ := q41
              replace rv42 : v42.toInt < 1000000000 → (v35.toInt < 1000000000 ∧ v40.toInt < 1000000000) := rv42
              show PV _ _ _ _ _ _ _ 184 [.ref 123, .int x0, .int y16, .int y17, pv_U, pv_U] [.int v42, .int y16] _
              refine pv_calls (M := mX12_fewestStrokes) (as := [.int y16, .int v42]) (st := []) (kc2 := 0) (ks2 := 0) dX12_fewestStrokes_184 wd1611 YX12_least wd1612 (s_X12_least g hT I4 y16 (by omega) (by omega) v42 (by omega) (by omega)) rfl rfl (Nat.le_of_ble_eq_true rfl) (by decide) rfl rfl 187 rfl (fun rv h1 q43 => ?_)
              obtain ⟨v44, rfl, rfl, pv44, qv44, rv44⟩ := q43
              replace rv44 : v44.toInt ≤ y16.toInt ∧ v44.toInt ≤ v42.toInt ∧ (v44.toInt = y16.toInt ∨ v44.toInt = v42.toInt) := rv44
              show PV _ _ _ _ _ _ _ 187 [.ref 123, .int x0, .int y16, .int y17, pv_U, pv_U] [.int v44] _
              refine pv_istore_n (M := mX12_fewestStrokes) 2 (lo2 := [.ref 123, .int x0, .int v44, .int y17, pv_U, pv_U]) dX12_fewestStrokes_187 188 rfl rfl (by decide) rfl rfl ?_
              refine iv_inc (M := mX12_fewestStrokes) (C := 1) dX12_fewestStrokes_188 191 rfl rfl (by decide) rfl rfl (by decide) (by omega) (by omega) (fun v45 ev45 => ?_)
              show PV _ _ _ _ _ _ _ 191 [.ref 123, .int x0, .int v44, .int v45, pv_U, pv_U] [] _
              refine pv_goto (M := mX12_fewestStrokes) (tgt := 146) dX12_fewestStrokes_191 (by decide) ?_
              exact ih24 v44 v45 (by first | omega | assumption | exact (iv_rng _).2 | exact (iv_rng _).1 | decide) (by first | omega | assumption | exact (iv_rng _).2 | exact (iv_rng _).1 | decide) (by first | omega | assumption | exact (iv_rng _).2 | exact (iv_rng _).1 | decide) (by first | omega | assumption | exact (iv_rng _).2 | exact (iv_rng _).1 | decide) (by omega)
        have z46 : (1000000000 : Int32).toInt = 1000000000 := by decide
        have z47 : (0 : Int32).toInt = 0 := by decide
        exact lp23 (((41 - 0) : Int).toNat + 1) 1000000000 0 (by first | omega | assumption | exact (iv_rng _).2 | exact (iv_rng _).1 | decide) (by first | omega | assumption | exact (iv_rng _).2 | exact (iv_rng _).1 | decide) (by first | omega | assumption | exact (iv_rng _).2 | exact (iv_rng _).1 | decide) (by first | omega | assumption | exact (iv_rng _).2 | exact (iv_rng _).1 | decide) (by omega)
      · have c15 := iv_nlt (X := v14.toInt) (Y := y1.toInt) c15 rfl rfl
        refine pv_iconst (M := mX12_fewestStrokes) (v := 0) dX12_fewestStrokes_10 11 rfl (by decide) ?_
        refine pv_istore_n (M := mX12_fewestStrokes) 3 (lo2 := [.ref 123, .int x0, .int y1, .int 0, pv_U, pv_U]) dX12_fewestStrokes_11 12 rfl rfl (by decide) rfl rfl ?_
        have lp54 : ∀ (fuel53 : Nat) (y48 : Int32) (m49 : Nat → Nat → Int32) (n50 : Nat → Nat → Int64), (0 ≤ y48.toInt) → (y48.toInt ≤ 41) → IV BB m49 → fr (wl [(155, 155, none)]) m m49 → ((41 - y48.toInt) : Int).toNat < fuel53 → PV none g mX12_fewestStrokes (sqI T BB (wl [(155, 155, none)]) r m 0 1999999998 (fun m' v => True)) 2 0 0 12 [.ref 123, .int x0, .int y1, .int y48, pv_U, pv_U] [] (mk T m49 n50 r) := by
          intro fuel53
          induction fuel53 with
          | zero => intro y48 m49 n50 b56 b57 I51 K52 z58; omega
          | succ fuel53 ih55 =>
            intro y48 m49 n50 b56 b57 I51 K52 z58
            have z59 : 0 ≤ (m49 123 40).toInt ∧ (m49 123 40).toInt ≤ 40 := I51 123 40
            have z60 : 0 ≤ (m49 123 41).toInt ∧ (m49 123 41).toInt ≤ 16 := I51 123 41
            refine pv_iload_n (M := mX12_fewestStrokes) 3 dX12_fewestStrokes_12 13 rfl rfl rfl ?_
            refine pv_aload_n (M := mX12_fewestStrokes) 0 dX12_fewestStrokes_13 14 rfl rfl rfl ?_
            refine iv_get (M := mX12_fewestStrokes) (l1 := 0) (l2 := 40) dX12_fewestStrokes_14 FX12 40 wd1213 (by decide) (tl123 hT) rfl I51 rfl 17 rfl (fun v61 ev61 pv61 qv61 => ?_)
            have wv61 : v61.toInt = (m49 123 40).toInt := congrArg Int32.toInt ev61
            refine pv_icmp_gt (M := mX12_fewestStrokes) (tgt := 134) dX12_fewestStrokes_17 20 rfl (by decide) (fun c62 => ?_) (fun c62 => ?_)
            · have c62 := iv_lt (X := v61.toInt) (Y := y48.toInt) c62 rfl rfl
              refine iv_inc (M := mX12_fewestStrokes) (C := 1) dX12_fewestStrokes_134 137 rfl rfl (by decide) rfl rfl (by decide) (by omega) (by omega) (fun v63 ev63 => ?_)
              show PV _ _ _ _ _ _ _ 137 [.ref 123, .int x0, .int v63, .int y48, pv_U, pv_U] [] _
              refine pv_goto (M := mX12_fewestStrokes) (tgt := 2) dX12_fewestStrokes_137 (by decide) ?_
              refine pv_fg (lo2 := [.ref 123, .int x0, .int v63, pv_U, pv_U, pv_U]) ⟨Or.inr rfl, ⟨Or.inr rfl, ⟨Or.inr rfl, ⟨Or.inl rfl, ⟨Or.inl rfl, ⟨Or.inl rfl, trivial⟩⟩⟩⟩⟩⟩ ?_
              exact ih8 v63 m49 n50 (by first | omega | assumption | exact (iv_rng _).2 | exact (iv_rng _).1 | decide) (by first | omega | assumption | exact (iv_rng _).2 | exact (iv_rng _).1 | decide) I51 K52 (by omega)
            · have c62 := iv_nlt (X := v61.toInt) (Y := y48.toInt) c62 rfl rfl
              refine pv_iload_n (M := mX12_fewestStrokes) 2 dX12_fewestStrokes_20 21 rfl rfl rfl ?_
              refine pv_if_ne (M := mX12_fewestStrokes) (tgt := 32) dX12_fewestStrokes_21 24 rfl (by decide) (fun c64 => ?_) (fun c64 => ?_)
              · have c64 := iv_ne (X := y1.toInt) (Y := 0) c64 rfl (by decide)
                refine pv_ldcw (M := mX12_fewestStrokes) (v := 1000000000) dX12_fewestStrokes_32 35 rfl wd1583 ?_
                refine pv_istore (M := mX12_fewestStrokes) (lo2 := [.ref 123, .int x0, .int y1, .int y48, .int 1000000000, pv_U]) dX12_fewestStrokes_35 37 rfl (by decide) rfl rfl ?_
                refine pv_iload_n (M := mX12_fewestStrokes) 2 dX12_fewestStrokes_37 38 rfl rfl rfl ?_
                refine pv_if_le (M := mX12_fewestStrokes) (tgt := 115) dX12_fewestStrokes_38 41 rfl (by decide) (fun c65 => ?_) (fun c65 => ?_)
                · have c65 := iv_le (X := y1.toInt) (Y := 0) c65 rfl (by decide)
                  omega
                · have c65 := iv_nle (X := y1.toInt) (Y := 0) c65 rfl (by decide)
                  refine pv_iload_n (M := mX12_fewestStrokes) 3 dX12_fewestStrokes_41 42 rfl rfl rfl ?_
                  refine pv_if_le (M := mX12_fewestStrokes) (tgt := 115) dX12_fewestStrokes_42 45 rfl (by decide) (fun c66 => ?_) (fun c66 => ?_)
                  · have c66 := iv_le (X := y48.toInt) (Y := 0) c66 rfl (by decide)
                    refine pv_aload_n (M := mX12_fewestStrokes) 0 dX12_fewestStrokes_115 116 rfl rfl rfl ?_
                    refine mv_get (M := mX12_fewestStrokes) (v := .ref 155) dX12_fewestStrokes_116 FX12 48 wd1221 (by decide) (tl123 hT) rfl rfl 119 rfl ?_
                    refine pv_bipush (M := mX12_fewestStrokes) (v := 17) dX12_fewestStrokes_119 121 rfl (by decide) ?_
                    refine pv_iload_n (M := mX12_fewestStrokes) 3 dX12_fewestStrokes_121 122 rfl rfl rfl ?_
                    refine iv_imul (M := mX12_fewestStrokes) (X := 17) (Y := y48.toInt) dX12_fewestStrokes_122 123 rfl (by decide) rfl (by omega) (by omega) (fun v67 ev67 => ?_)
                    refine pv_iload_n (M := mX12_fewestStrokes) 2 dX12_fewestStrokes_123 124 rfl rfl rfl ?_
                    refine iv_iadd (M := mX12_fewestStrokes) (X := v67.toInt) (Y := y1.toInt) dX12_fewestStrokes_124 125 rfl rfl rfl (by omega) (by omega) (fun v68 ev68 => ?_)
                    refine pv_iload (M := mX12_fewestStrokes) dX12_fewestStrokes_125 127 rfl rfl ?_
                    refine iv_iast (M := mX12_fewestStrokes) (X := v68.toInt) (l1 := 0) (l2 := 1999999998) dX12_fewestStrokes_127 (tl155 hT) rfl (by omega) (by omega) I51 (fun _ => rfl) (by decide) (by decide) 128 rfl (fun m69 e72 I70 => ?_)
                    have K71 := K52.set e72 rfl
                    have w73 : (m69 123 40).toInt = (m49 123 40).toInt := by rw [e72, up2_ne (by omega)]
                    have w74 : (m69 123 41).toInt = (m49 123 41).toInt := by rw [e72, up2_ne (by omega)]
                    refine iv_inc (M := mX12_fewestStrokes) (C := 1) dX12_fewestStrokes_128 131 rfl rfl (by decide) rfl rfl (by decide) (by omega) (by omega) (fun v75 ev75 => ?_)
                    show PV _ _ _ _ _ _ _ 131 [.ref 123, .int x0, .int y1, .int v75, .int 1000000000, pv_U] [] _
                    refine pv_goto (M := mX12_fewestStrokes) (tgt := 12) dX12_fewestStrokes_131 (by decide) ?_
                    refine pv_fg (lo2 := [.ref 123, .int x0, .int y1, .int v75, pv_U, pv_U]) ⟨Or.inr rfl, ⟨Or.inr rfl, ⟨Or.inr rfl, ⟨Or.inr rfl, ⟨Or.inl rfl, ⟨Or.inl rfl, trivial⟩⟩⟩⟩⟩⟩ ?_
                    exact ih55 v75 m69 n50 (by first | omega | assumption | exact (iv_rng _).2 | exact (iv_rng _).1 | decide) (by first | omega | assumption | exact (iv_rng _).2 | exact (iv_rng _).1 | decide) I70 K71 (by omega)
                  · have c66 := iv_nle (X := y48.toInt) (Y := 0) c66 rfl (by decide)
                    refine pv_aload_n (M := mX12_fewestStrokes) 0 dX12_fewestStrokes_45 46 rfl rfl rfl ?_
                    refine mv_get (M := mX12_fewestStrokes) (v := .ref 149) dX12_fewestStrokes_46 FX12 42 wd1215 (by decide) (tl123 hT) rfl rfl 49 rfl ?_
                    refine pv_iload_n (M := mX12_fewestStrokes) 3 dX12_fewestStrokes_49 50 rfl rfl rfl ?_
                    refine pv_iconst (M := mX12_fewestStrokes) (v := 1) dX12_fewestStrokes_50 51 rfl (by decide) ?_
                    refine iv_isub (M := mX12_fewestStrokes) (X := y48.toInt) (Y := 1) dX12_fewestStrokes_51 52 rfl rfl (by decide) (by omega) (by omega) (fun v76 ev76 => ?_)
                    refine iv_iald (M := mX12_fewestStrokes) (X := v76.toInt) (l1 := 0) (l2 := 25) dX12_fewestStrokes_52 (tl149 hT) rfl (by omega) (by omega) I51 (fun _ => rfl) 53 rfl (fun v77 ev77 pv77 qv77 => ?_)
                    refine pv_aload_n (M := mX12_fewestStrokes) 0 dX12_fewestStrokes_53 54 rfl rfl rfl ?_
                    refine mv_get (M := mX12_fewestStrokes) (v := .ref 150) dX12_fewestStrokes_54 FX12 43 wd1216 (by decide) (tl123 hT) rfl rfl 57 rfl ?_
                    refine pv_iload_n (M := mX12_fewestStrokes) 2 dX12_fewestStrokes_57 58 rfl rfl rfl ?_
                    refine pv_iconst (M := mX12_fewestStrokes) (v := 1) dX12_fewestStrokes_58 59 rfl (by decide) ?_
                    refine iv_isub (M := mX12_fewestStrokes) (X := y1.toInt) (Y := 1) dX12_fewestStrokes_59 60 rfl rfl (by decide) (by omega) (by omega) (fun v78 ev78 => ?_)
                    refine iv_iald (M := mX12_fewestStrokes) (X := v78.toInt) (l1 := 0) (l2 := 25) dX12_fewestStrokes_60 (tl150 hT) rfl (by omega) (by omega) I51 (fun _ => rfl) 61 rfl (fun v79 ev79 pv79 qv79 => ?_)
                    refine pv_icmp_ne (M := mX12_fewestStrokes) (tgt := 115) dX12_fewestStrokes_61 64 rfl (by decide) (fun c80 => ?_) (fun c80 => ?_)
                    · have c80 := iv_ne (X := v77.toInt) (Y := v79.toInt) c80 rfl rfl
                      refine pv_aload_n (M := mX12_fewestStrokes) 0 dX12_fewestStrokes_115 116 rfl rfl rfl ?_
                      refine mv_get (M := mX12_fewestStrokes) (v := .ref 155) dX12_fewestStrokes_116 FX12 48 wd1221 (by decide) (tl123 hT) rfl rfl 119 rfl ?_
                      refine pv_bipush (M := mX12_fewestStrokes) (v := 17) dX12_fewestStrokes_119 121 rfl (by decide) ?_
                      refine pv_iload_n (M := mX12_fewestStrokes) 3 dX12_fewestStrokes_121 122 rfl rfl rfl ?_
                      refine iv_imul (M := mX12_fewestStrokes) (X := 17) (Y := y48.toInt) dX12_fewestStrokes_122 123 rfl (by decide) rfl (by omega) (by omega) (fun v81 ev81 => ?_)
                      refine pv_iload_n (M := mX12_fewestStrokes) 2 dX12_fewestStrokes_123 124 rfl rfl rfl ?_
                      refine iv_iadd (M := mX12_fewestStrokes) (X := v81.toInt) (Y := y1.toInt) dX12_fewestStrokes_124 125 rfl rfl rfl (by omega) (by omega) (fun v82 ev82 => ?_)
                      refine pv_iload (M := mX12_fewestStrokes) dX12_fewestStrokes_125 127 rfl rfl ?_
                      refine iv_iast (M := mX12_fewestStrokes) (X := v82.toInt) (l1 := 0) (l2 := 1999999998) dX12_fewestStrokes_127 (tl155 hT) rfl (by omega) (by omega) I51 (fun _ => rfl) (by decide) (by decide) 128 rfl (fun m83 e86 I84 => ?_)
                      have K85 := K52.set e86 rfl
                      have w87 : (m83 123 40).toInt = (m49 123 40).toInt := by rw [e86, up2_ne (by omega)]
                      have w88 : (m83 123 41).toInt = (m49 123 41).toInt := by rw [e86, up2_ne (by omega)]
                      refine iv_inc (M := mX12_fewestStrokes) (C := 1) dX12_fewestStrokes_128 131 rfl rfl (by decide) rfl rfl (by decide) (by omega) (by omega) (fun v89 ev89 => ?_)
                      show PV _ _ _ _ _ _ _ 131 [.ref 123, .int x0, .int y1, .int v89, .int 1000000000, pv_U] [] _
                      refine pv_goto (M := mX12_fewestStrokes) (tgt := 12) dX12_fewestStrokes_131 (by decide) ?_
                      refine pv_fg (lo2 := [.ref 123, .int x0, .int y1, .int v89, pv_U, pv_U]) ⟨Or.inr rfl, ⟨Or.inr rfl, ⟨Or.inr rfl, ⟨Or.inr rfl, ⟨Or.inl rfl, ⟨Or.inl rfl, trivial⟩⟩⟩⟩⟩⟩ ?_
                      exact ih55 v89 m83 n50 (by first | omega | assumption | exact (iv_rng _).2 | exact (iv_rng _).1 | decide) (by first | omega | assumption | exact (iv_rng _).2 | exact (iv_rng _).1 | decide) I84 K85 (by omega)
                    · have c80 := iv_eq (X := v77.toInt) (Y := v79.toInt) c80 rfl rfl
                      refine pv_iconst (M := mX12_fewestStrokes) (v := 0) dX12_fewestStrokes_64 65 rfl (by decide) ?_
                      refine pv_istore (M := mX12_fewestStrokes) (lo2 := [.ref 123, .int x0, .int y1, .int y48, .int 1000000000, .int 0]) dX12_fewestStrokes_65 67 rfl (by decide) rfl rfl ?_
                      have lp97 : ∀ (fuel96 : Nat) (y90 : Int32) (y91 : Int32), (0 ≤ y90.toInt) → (y90.toInt ≤ 1999999998) → (0 ≤ y91.toInt) → (y91.toInt ≤ 40) → ((40 - y91.toInt) : Int).toNat < fuel96 → PV none g mX12_fewestStrokes (sqI T BB (wl [(155, 155, none)]) r m 0 1999999998 (fun m' v => True)) 2 0 0 67 [.ref 123, .int x0, .int y1, .int y48, .int y90, .int y91] [] (mk T m49 n50 r) := by
                        intro fuel96
                        induction fuel96 with
                        | zero => intro y90 y91 b99 b100 b101 b102 z103; omega
                        | succ fuel96 ih98 =>
                          intro y90 y91 b99 b100 b101 b102 z103
                          refine pv_iload (M := mX12_fewestStrokes) dX12_fewestStrokes_67 69 rfl rfl ?_
                          refine pv_iload_n (M := mX12_fewestStrokes) 3 dX12_fewestStrokes_69 70 rfl rfl rfl ?_
                          refine pv_icmp_ge (M := mX12_fewestStrokes) (tgt := 115) dX12_fewestStrokes_70 73 rfl (by decide) (fun c104 => ?_) (fun c104 => ?_)
                          · have c104 := iv_le (X := y48.toInt) (Y := y91.toInt) c104 rfl rfl
                            refine pv_aload_n (M := mX12_fewestStrokes) 0 dX12_fewestStrokes_115 116 rfl rfl rfl ?_
                            refine mv_get (M := mX12_fewestStrokes) (v := .ref 155) dX12_fewestStrokes_116 FX12 48 wd1221 (by decide) (tl123 hT) rfl rfl 119 rfl ?_
                            refine pv_bipush (M := mX12_fewestStrokes) (v := 17) dX12_fewestStrokes_119 121 rfl (by decide) ?_
                            refine pv_iload_n (M := mX12_fewestStrokes) 3 dX12_fewestStrokes_121 122 rfl rfl rfl ?_
                            refine iv_imul (M := mX12_fewestStrokes) (X := 17) (Y := y48.toInt) dX12_fewestStrokes_122 123 rfl (by decide) rfl (by omega) (by omega) (fun v105 ev105 => ?_)
                            refine pv_iload_n (M := mX12_fewestStrokes) 2 dX12_fewestStrokes_123 124 rfl rfl rfl ?_
                            refine iv_iadd (M := mX12_fewestStrokes) (X := v105.toInt) (Y := y1.toInt) dX12_fewestStrokes_124 125 rfl rfl rfl (by omega) (by omega) (fun v106 ev106 => ?_)
                            refine pv_iload (M := mX12_fewestStrokes) dX12_fewestStrokes_125 127 rfl rfl ?_
                            refine iv_iast (M := mX12_fewestStrokes) (X := v106.toInt) (l1 := 0) (l2 := 1999999998) dX12_fewestStrokes_127 (tl155 hT) rfl (by omega) (by omega) I51 (fun _ => rfl) (by omega) (by omega) 128 rfl (fun m107 e110 I108 => ?_)
                            have K109 := K52.set e110 rfl
                            have w111 : (m107 123 40).toInt = (m49 123 40).toInt := by rw [e110, up2_ne (by omega)]
                            have w112 : (m107 123 41).toInt = (m49 123 41).toInt := by rw [e110, up2_ne (by omega)]
                            refine iv_inc (M := mX12_fewestStrokes) (C := 1) dX12_fewestStrokes_128 131 rfl rfl (by decide) rfl rfl (by decide) (by omega) (by omega) (fun v113 ev113 => ?_)
                            show PV _ _ _ _ _ _ _ 131 [.ref 123, .int x0, .int y1, .int v113, .int y90, .int y91] [] _
                            refine pv_goto (M := mX12_fewestStrokes) (tgt := 12) dX12_fewestStrokes_131 (by decide) ?_
                            refine pv_fg (lo2 := [.ref 123, .int x0, .int y1, .int v113, pv_U, pv_U]) ⟨Or.inr rfl, ⟨Or.inr rfl, ⟨Or.inr rfl, ⟨Or.inr rfl, ⟨Or.inl rfl, ⟨Or.inl rfl, trivial⟩⟩⟩⟩⟩⟩ ?_
                            exact ih55 v113 m107 n50 (by first | omega | assumption | exact (iv_rng _).2 | exact (iv_rng _).1 | decide) (by first | omega | assumption | exact (iv_rng _).2 | exact (iv_rng _).1 | decide) I108 K109 (by omega)
                          · have c104 := iv_nle (X := y48.toInt) (Y := y91.toInt) c104 rfl rfl
                            refine pv_iload (M := mX12_fewestStrokes) dX12_fewestStrokes_73 75 rfl rfl ?_
                            refine pv_aload_n (M := mX12_fewestStrokes) 0 dX12_fewestStrokes_75 76 rfl rfl rfl ?_
                            refine mv_get (M := mX12_fewestStrokes) (v := .ref 155) dX12_fewestStrokes_76 FX12 48 wd1221 (by decide) (tl123 hT) rfl rfl 79 rfl ?_
                            refine pv_bipush (M := mX12_fewestStrokes) (v := 17) dX12_fewestStrokes_79 81 rfl (by decide) ?_
                            refine pv_iload (M := mX12_fewestStrokes) dX12_fewestStrokes_81 83 rfl rfl ?_
                            refine iv_imul (M := mX12_fewestStrokes) (X := 17) (Y := y91.toInt) dX12_fewestStrokes_83 84 rfl (by decide) rfl (by omega) (by omega) (fun v114 ev114 => ?_)
                            refine pv_iload_n (M := mX12_fewestStrokes) 2 dX12_fewestStrokes_84 85 rfl rfl rfl ?_
                            refine iv_iadd (M := mX12_fewestStrokes) (X := v114.toInt) (Y := y1.toInt) dX12_fewestStrokes_85 86 rfl rfl rfl (by omega) (by omega) (fun v115 ev115 => ?_)
                            refine pv_iconst (M := mX12_fewestStrokes) (v := 1) dX12_fewestStrokes_86 87 rfl (by decide) ?_
                            refine iv_isub (M := mX12_fewestStrokes) (X := v115.toInt) (Y := 1) dX12_fewestStrokes_87 88 rfl rfl (by decide) (by omega) (by omega) (fun v116 ev116 => ?_)
                            refine iv_iald (M := mX12_fewestStrokes) (X := v116.toInt) (l1 := 0) (l2 := 1999999998) dX12_fewestStrokes_88 (tl155 hT) rfl (by omega) (by omega) I51 (fun _ => rfl) 89 rfl (fun v117 ev117 pv117 qv117 => ?_)
                            refine pv_iload_n (M := mX12_fewestStrokes) 3 dX12_fewestStrokes_89 90 rfl rfl rfl ?_
                            refine pv_iconst (M := mX12_fewestStrokes) (v := 1) dX12_fewestStrokes_90 91 rfl (by decide) ?_
                            refine iv_isub (M := mX12_fewestStrokes) (X := y48.toInt) (Y := 1) dX12_fewestStrokes_91 92 rfl rfl (by decide) (by omega) (by omega) (fun v118 ev118 => ?_)
                            refine pv_iload (M := mX12_fewestStrokes) dX12_fewestStrokes_92 94 rfl rfl ?_
                            refine iv_isub (M := mX12_fewestStrokes) (X := v118.toInt) (Y := y91.toInt) dX12_fewestStrokes_94 95 rfl rfl rfl (by omega) (by omega) (fun v119 ev119 => ?_)
                            refine pv_iload_n (M := mX12_fewestStrokes) 1 dX12_fewestStrokes_95 96 rfl rfl rfl ?_
                            refine iv_iadd (M := mX12_fewestStrokes) (X := v119.toInt) (Y := x0.toInt) dX12_fewestStrokes_96 97 rfl rfl rfl (by omega) (by omega) (fun v120 ev120 => ?_)
                            refine pv_iconst (M := mX12_fewestStrokes) (v := 1) dX12_fewestStrokes_97 98 rfl (by decide) ?_
                            refine iv_isub (M := mX12_fewestStrokes) (X := v120.toInt) (Y := 1) dX12_fewestStrokes_98 99 rfl rfl (by decide) (by omega) (by omega) (fun v121 ev121 => ?_)
                            refine pv_iload_n (M := mX12_fewestStrokes) 1 dX12_fewestStrokes_99 100 rfl rfl rfl ?_
                            refine iv_idivb (M := mX12_fewestStrokes) (X := v121.toInt) (Y := x0.toInt) dX12_fewestStrokes_100 101 rfl rfl rfl (by omega) (by omega) (fun v122 ev122 fv122 => ?_)
                            refine pv_calls (M := mX12_fewestStrokes) (as := [.int v117, .int v122]) (st := [.int y90]) (kc2 := 0) (ks2 := 0) dX12_fewestStrokes_101 wd1588 YX12_sum wd1589 (s_X12_sum g hT I51 v117 (by omega) (by omega) v122 (by omega) (by omega)) rfl rfl (Nat.le_of_ble_eq_true rfl) (by decide) rfl rfl 104 rfl (fun rv h1 q123 => ?_)
                            obtain ⟨v124, rfl, rfl, pv124, qv124, rv124⟩ := q123
                            replace rv124 : v124.toInt < 1000000000 → (v117.toInt < 1000000000 ∧ v122.toInt < 1000000000) := rv124
                            show PV _ _ _ _ _ _ _ 104 [.ref 123, .int x0, .int y1, .int y48, .int y90, .int y91] [.int v124, .int y90] _
                            refine pv_calls (M := mX12_fewestStrokes) (as := [.int y90, .int v124]) (st := []) (kc2 := 0) (ks2 := 0) dX12_fewestStrokes_104 wd1611 YX12_least wd1612 (s_X12_least g hT I51 y90 (by omega) (by omega) v124 (by omega) (by omega)) rfl rfl (Nat.le_of_ble_eq_true rfl) (by decide) rfl rfl 107 rfl (fun rv h1 q125 => ?_)
                            obtain ⟨v126, rfl, rfl, pv126, qv126, rv126⟩ := q125
                            replace rv126 : v126.toInt ≤ y90.toInt ∧ v126.toInt ≤ v124.toInt ∧ (v126.toInt = y90.toInt ∨ v126.toInt = v124.toInt) := rv126
                            show PV _ _ _ _ _ _ _ 107 [.ref 123, .int x0, .int y1, .int y48, .int y90, .int y91] [.int v126] _
                            refine pv_istore (M := mX12_fewestStrokes) (lo2 := [.ref 123, .int x0, .int y1, .int y48, .int v126, .int y91]) dX12_fewestStrokes_107 109 rfl (by decide) rfl rfl ?_
                            refine iv_inc (M := mX12_fewestStrokes) (C := 1) dX12_fewestStrokes_109 112 rfl rfl (by decide) rfl rfl (by decide) (by omega) (by omega) (fun v127 ev127 => ?_)
                            show PV _ _ _ _ _ _ _ 112 [.ref 123, .int x0, .int y1, .int y48, .int v126, .int v127] [] _
                            refine pv_goto (M := mX12_fewestStrokes) (tgt := 67) dX12_fewestStrokes_112 (by decide) ?_
                            exact ih98 v126 v127 (by first | omega | assumption | exact (iv_rng _).2 | exact (iv_rng _).1 | decide) (by first | omega | assumption | exact (iv_rng _).2 | exact (iv_rng _).1 | decide) (by first | omega | assumption | exact (iv_rng _).2 | exact (iv_rng _).1 | decide) (by first | omega | assumption | exact (iv_rng _).2 | exact (iv_rng _).1 | decide) (by omega)
                      have z128 : (1000000000 : Int32).toInt = 1000000000 := by decide
                      have z129 : (0 : Int32).toInt = 0 := by decide
                      exact lp97 (((40 - 0) : Int).toNat + 1) 1000000000 0 (by first | omega | assumption | exact (iv_rng _).2 | exact (iv_rng _).1 | decide) (by first | omega | assumption | exact (iv_rng _).2 | exact (iv_rng _).1 | decide) (by first | omega | assumption | exact (iv_rng _).2 | exact (iv_rng _).1 | decide) (by first | omega | assumption | exact (iv_rng _).2 | exact (iv_rng _).1 | decide) (by omega)
              · have c64 := iv_eq (X := y1.toInt) (Y := 0) c64 rfl (by decide)
                refine pv_iload_n (M := mX12_fewestStrokes) 3 dX12_fewestStrokes_24 25 rfl rfl rfl ?_
                refine pv_if_ne (M := mX12_fewestStrokes) (tgt := 32) dX12_fewestStrokes_25 28 rfl (by decide) (fun c130 => ?_) (fun c130 => ?_)
                · have c130 := iv_ne (X := y48.toInt) (Y := 0) c130 rfl (by decide)
                  refine pv_ldcw (M := mX12_fewestStrokes) (v := 1000000000) dX12_fewestStrokes_32 35 rfl wd1583 ?_
                  refine pv_istore (M := mX12_fewestStrokes) (lo2 := [.ref 123, .int x0, .int y1, .int y48, .int 1000000000, pv_U]) dX12_fewestStrokes_35 37 rfl (by decide) rfl rfl ?_
                  refine pv_iload_n (M := mX12_fewestStrokes) 2 dX12_fewestStrokes_37 38 rfl rfl rfl ?_
                  refine pv_if_le (M := mX12_fewestStrokes) (tgt := 115) dX12_fewestStrokes_38 41 rfl (by decide) (fun c131 => ?_) (fun c131 => ?_)
                  · have c131 := iv_le (X := y1.toInt) (Y := 0) c131 rfl (by decide)
                    refine pv_aload_n (M := mX12_fewestStrokes) 0 dX12_fewestStrokes_115 116 rfl rfl rfl ?_
                    refine mv_get (M := mX12_fewestStrokes) (v := .ref 155) dX12_fewestStrokes_116 FX12 48 wd1221 (by decide) (tl123 hT) rfl rfl 119 rfl ?_
                    refine pv_bipush (M := mX12_fewestStrokes) (v := 17) dX12_fewestStrokes_119 121 rfl (by decide) ?_
                    refine pv_iload_n (M := mX12_fewestStrokes) 3 dX12_fewestStrokes_121 122 rfl rfl rfl ?_
                    refine iv_imul (M := mX12_fewestStrokes) (X := 17) (Y := y48.toInt) dX12_fewestStrokes_122 123 rfl (by decide) rfl (by omega) (by omega) (fun v132 ev132 => ?_)
                    refine pv_iload_n (M := mX12_fewestStrokes) 2 dX12_fewestStrokes_123 124 rfl rfl rfl ?_
                    refine iv_iadd (M := mX12_fewestStrokes) (X := v132.toInt) (Y := y1.toInt) dX12_fewestStrokes_124 125 rfl rfl rfl (by omega) (by omega) (fun v133 ev133 => ?_)
                    refine pv_iload (M := mX12_fewestStrokes) dX12_fewestStrokes_125 127 rfl rfl ?_
                    refine iv_iast (M := mX12_fewestStrokes) (X := v133.toInt) (l1 := 0) (l2 := 1999999998) dX12_fewestStrokes_127 (tl155 hT) rfl (by omega) (by omega) I51 (fun _ => rfl) (by decide) (by decide) 128 rfl (fun m134 e137 I135 => ?_)
                    have K136 := K52.set e137 rfl
                    have w138 : (m134 123 40).toInt = (m49 123 40).toInt := by rw [e137, up2_ne (by omega)]
                    have w139 : (m134 123 41).toInt = (m49 123 41).toInt := by rw [e137, up2_ne (by omega)]
                    refine iv_inc (M := mX12_fewestStrokes) (C := 1) dX12_fewestStrokes_128 131 rfl rfl (by decide) rfl rfl (by decide) (by omega) (by omega) (fun v140 ev140 => ?_)
                    show PV _ _ _ _ _ _ _ 131 [.ref 123, .int x0, .int y1, .int v140, .int 1000000000, pv_U] [] _
                    refine pv_goto (M := mX12_fewestStrokes) (tgt := 12) dX12_fewestStrokes_131 (by decide) ?_
                    refine pv_fg (lo2 := [.ref 123, .int x0, .int y1, .int v140, pv_U, pv_U]) ⟨Or.inr rfl, ⟨Or.inr rfl, ⟨Or.inr rfl, ⟨Or.inr rfl, ⟨Or.inl rfl, ⟨Or.inl rfl, trivial⟩⟩⟩⟩⟩⟩ ?_
                    exact ih55 v140 m134 n50 (by first | omega | assumption | exact (iv_rng _).2 | exact (iv_rng _).1 | decide) (by first | omega | assumption | exact (iv_rng _).2 | exact (iv_rng _).1 | decide) I135 K136 (by omega)
                  · have c131 := iv_nle (X := y1.toInt) (Y := 0) c131 rfl (by decide)
                    omega
                · have c130 := iv_eq (X := y48.toInt) (Y := 0) c130 rfl (by decide)
                  refine pv_iconst (M := mX12_fewestStrokes) (v := 0) dX12_fewestStrokes_28 29 rfl (by decide) ?_
                  refine pv_goto (M := mX12_fewestStrokes) (tgt := 35) dX12_fewestStrokes_29 (by decide) ?_
                  refine pv_istore (M := mX12_fewestStrokes) (lo2 := [.ref 123, .int x0, .int y1, .int y48, .int 0, pv_U]) dX12_fewestStrokes_35 37 rfl (by decide) rfl rfl ?_
                  refine pv_iload_n (M := mX12_fewestStrokes) 2 dX12_fewestStrokes_37 38 rfl rfl rfl ?_
                  refine pv_if_le (M := mX12_fewestStrokes) (tgt := 115) dX12_fewestStrokes_38 41 rfl (by decide) (fun c141 => ?_) (fun c141 => ?_)
                  · have c141 := iv_le (X := y1.toInt) (Y := 0) c141 rfl (by decide)
                    refine pv_aload_n (M := mX12_fewestStrokes) 0 dX12_fewestStrokes_115 116 rfl rfl rfl ?_
                    refine mv_get (M := mX12_fewestStrokes) (v := .ref 155) dX12_fewestStrokes_116 FX12 48 wd1221 (by decide) (tl123 hT) rfl rfl 119 rfl ?_
                    refine pv_bipush (M := mX12_fewestStrokes) (v := 17) dX12_fewestStrokes_119 121 rfl (by decide) ?_
                    refine pv_iload_n (M := mX12_fewestStrokes) 3 dX12_fewestStrokes_121 122 rfl rfl rfl ?_
                    refine iv_imul (M := mX12_fewestStrokes) (X := 17) (Y := y48.toInt) dX12_fewestStrokes_122 123 rfl (by decide) rfl (by omega) (by omega) (fun v142 ev142 => ?_)
                    refine pv_iload_n (M := mX12_fewestStrokes) 2 dX12_fewestStrokes_123 124 rfl rfl rfl ?_
                    refine iv_iadd (M := mX12_fewestStrokes) (X := v142.toInt) (Y := y1.toInt) dX12_fewestStrokes_124 125 rfl rfl rfl (by omega) (by omega) (fun v143 ev143 => ?_)
                    refine pv_iload (M := mX12_fewestStrokes) dX12_fewestStrokes_125 127 rfl rfl ?_
                    refine iv_iast (M := mX12_fewestStrokes) (X := v143.toInt) (l1 := 0) (l2 := 1999999998) dX12_fewestStrokes_127 (tl155 hT) rfl (by omega) (by omega) I51 (fun _ => rfl) (by decide) (by decide) 128 rfl (fun m144 e147 I145 => ?_)
                    have K146 := K52.set e147 rfl
                    have w148 : (m144 123 40).toInt = (m49 123 40).toInt := by rw [e147, up2_ne (by omega)]
                    have w149 : (m144 123 41).toInt = (m49 123 41).toInt := by rw [e147, up2_ne (by omega)]
                    refine iv_inc (M := mX12_fewestStrokes) (C := 1) dX12_fewestStrokes_128 131 rfl rfl (by decide) rfl rfl (by decide) (by omega) (by omega) (fun v150 ev150 => ?_)
                    show PV _ _ _ _ _ _ _ 131 [.ref 123, .int x0, .int y1, .int v150, .int 0, pv_U] [] _
                    refine pv_goto (M := mX12_fewestStrokes) (tgt := 12) dX12_fewestStrokes_131 (by decide) ?_
                    refine pv_fg (lo2 := [.ref 123, .int x0, .int y1, .int v150, pv_U, pv_U]) ⟨Or.inr rfl, ⟨Or.inr rfl, ⟨Or.inr rfl, ⟨Or.inr rfl, ⟨Or.inl rfl, ⟨Or.inl rfl, trivial⟩⟩⟩⟩⟩⟩ ?_
                    exact ih55 v150 m144 n50 (by first | omega | assumption | exact (iv_rng _).2 | exact (iv_rng _).1 | decide) (by first | omega | assumption | exact (iv_rng _).2 | exact (iv_rng _).1 | decide) I145 K146 (by omega)
                  · have c141 := iv_nle (X := y1.toInt) (Y := 0) c141 rfl (by decide)
                    omega
        have z151 : (0 : Int32).toInt = 0 := by decide
        exact lp54 (((41 - 0) : Int).toNat + 1) 0 m2 n3 (by first | omega | assumption | exact (iv_rng _).2 | exact (iv_rng _).1 | decide) (by first | omega | assumption | exact (iv_rng _).2 | exact (iv_rng _).1 | decide) I4 K5 (by omega)
  have z152 : (0 : Int32).toInt = 0 := by decide
  exact lp7 (((17 - 0) : Int).toNat + 1) 0 m n (by first | omega | assumption | exact (iv_rng _).2 | exact (iv_rng _).1 | decide) (by first | omega | assumption | exact (iv_rng _).2 | exact (iv_rng _).1 | decide) I Kp (by omega)

set_option maxHeartbeats 2000000 in
set_option maxRecDepth 20000 in
theorem s_X12_strokes (g : pv_G) {T : List mv_T} {m : Nat → Nat → Int32} {n : Nat → Nat → Int64} {r : Nat → Value} (hT : TX T) (I : IV BB m) (x0 : Int32) (x1 : Int32) (x2 : Int32) : PM g mX12_strokes yX12_strokes (sqI T BB (wl [(123, 123, some 40), (123, 123, some 41), (149, 149, none), (150, 150, none), (155, 155, none)]) r m (-2) 1999999998 (fun m' v => True)) 3 0 0 [.ref 123, .int x0, .int x1, .int x2] (mk T m n r) := by
  have Kp : fr (wl [(123, 123, some 40), (123, 123, some 41), (149, 149, none), (150, 150, none), (155, 155, none)]) m m := fr.rf
  refine PM.of 1 (lo := [.ref 123, .int x0, .int x1, .int x2, pv_U]) rfl (by decide) rfl rfl (Nat.le_of_ble_eq_true rfl) ?_
  refine pv_aload_n (M := mX12_strokes) 0 dX12_strokes_0 1 rfl rfl rfl ?_
  refine pv_iload_n (M := mX12_strokes) 1 dX12_strokes_1 2 rfl rfl rfl ?_
  refine pv_iload_n (M := mX12_strokes) 2 dX12_strokes_2 3 rfl rfl rfl ?_
  refine pv_callv (M := mX12_strokes) (as := [.int x0, .int x1]) (st := []) (kc2 := 0) (ks2 := 0) dX12_strokes_3 wd1554 YX12_isAsked ⟨wd1556, wd86⟩ (mk_get (tl123 hT)) rfl rfl (s_X12_isAsked g hT I x0 x1) rfl rfl (Nat.le_of_ble_eq_true rfl) (by decide) rfl rfl 6 rfl (fun rv h1 q1 => ?_)
  obtain ⟨v2, rfl, rfl, pv2, qv2, rv2⟩ := q1
  replace rv2 : v2 = 0 ∨ ((0 ≤ x0.toInt ∧ x0.toInt ≤ 7) ∧ (0 ≤ x1.toInt ∧ x1.toInt ≤ 7)) := rv2
  show PV _ _ _ _ _ _ _ 6 [.ref 123, .int x0, .int x1, .int x2, pv_U] [.int v2] _
  refine pv_if_eq (M := mX12_strokes) (tgt := 19) dX12_strokes_6 9 rfl (by decide) (fun c3 => ?_) (fun c3 => ?_)
  · have c3 := iv_eq (X := v2.toInt) (Y := 0) c3 rfl (by decide)
    refine pv_iconst (M := mX12_strokes) (v := (-1)) dX12_strokes_19 20 rfl (by decide) ?_
    exact pv_iret (M := mX12_strokes) dX12_strokes_20 rfl rfl ⟨_, _, _, rfl, rfl, I, Kp, by decide, by decide, trivial⟩
  · have pc3 := rv2.resolve_left c3
    have c3 := iv_ne (X := v2.toInt) (Y := 0) c3 rfl (by decide)
    refine pv_iload_n (M := mX12_strokes) 3 dX12_strokes_9 10 rfl rfl rfl ?_
    refine pv_iconst (M := mX12_strokes) (v := 1) dX12_strokes_10 11 rfl (by decide) ?_
    refine pv_bipush (M := mX12_strokes) (v := 9) dX12_strokes_11 13 rfl (by decide) ?_
    have z4 : (1 : Int32).toInt = 1 := by decide
    have z5 : (9 : Int32).toInt = 9 := by decide
    refine pv_calls (M := mX12_strokes) (as := [.int x2, .int 1, .int 9]) (st := []) (kc2 := 0) (ks2 := 0) dX12_strokes_13 wd1370 YX12_in wd1371 (s_X12_in g hT I x2 1 9) rfl rfl (Nat.le_of_ble_eq_true rfl) (by decide) rfl rfl 16 rfl (fun rv h1 q6 => ?_)
    obtain ⟨v7, rfl, rfl, pv7, qv7, rv7⟩ := q6
    replace rv7 : v7 = 0 ∨ ((1 : Int) ≤ x2.toInt ∧ x2.toInt ≤ (9 : Int)) := by have q_ := rv7; (try rw [z4] at q_); (try rw [z5] at q_); exact q_
    show PV _ _ _ _ _ _ _ 16 [.ref 123, .int x0, .int x1, .int x2, pv_U] [.int v7] _
    refine pv_if_ne (M := mX12_strokes) (tgt := 21) dX12_strokes_16 19 rfl (by decide) (fun c8 => ?_) (fun c8 => ?_)
    · have pc8 := rv7.resolve_left c8
      have c8 := iv_ne (X := v7.toInt) (Y := 0) c8 rfl (by decide)
      refine pv_aload_n (M := mX12_strokes) 0 dX12_strokes_21 22 rfl rfl rfl ?_
      refine pv_iload_n (M := mX12_strokes) 1 dX12_strokes_22 23 rfl rfl rfl ?_
      refine pv_iconst (M := mX12_strokes) (v := 0) dX12_strokes_23 24 rfl (by decide) ?_
      have z9 : (0 : Int32).toInt = 0 := by decide
      refine pv_callv (M := mX12_strokes) (as := [.int x0, .int 0]) (st := []) (kc2 := 0) (ks2 := 0) dX12_strokes_24 wd1563 YX12_laysBlank ⟨wd1565, wd88⟩ (mk_get (tl123 hT)) rfl rfl (s_X12_laysBlank g hT I x0 (by omega) (by omega) 0 (by decide) (by decide)) rfl rfl (Nat.le_of_ble_eq_true rfl) (by decide) rfl rfl 27 rfl (fun rv h1 q10 => ?_)
      obtain ⟨m11, n12, rfl, rfl, I13, K14, rm11⟩ := q10
      replace rm11 : (0 : Int) = 0 → (m11 123 40).toInt = nu m11 x0.toInt 0 := by have q_ := rm11; (try rw [z9] at q_); exact q_
      have K14c := K14
      have K14 := Kp.trans (K14.sub (wl_sub (by decide)))
      show PV _ _ _ _ _ _ _ 27 [.ref 123, .int x0, .int x1, .int x2, pv_U] [] _
      refine pv_aload_n (M := mX12_strokes) 0 dX12_strokes_27 28 rfl rfl rfl ?_
      refine pv_iload_n (M := mX12_strokes) 2 dX12_strokes_28 29 rfl rfl rfl ?_
      refine pv_callv (M := mX12_strokes) (as := [.int x1]) (st := []) (kc2 := 0) (ks2 := 0) dX12_strokes_29 wd1567 YX12_laysDeed ⟨wd1569, wd89⟩ (mk_get (tl123 hT)) rfl rfl (s_X12_laysDeed g hT I13 x1 (by omega) (by omega)) rfl rfl (Nat.le_of_ble_eq_true rfl) (by decide) rfl rfl 32 rfl (fun rv h1 q15 => ?_)
      obtain ⟨m16, n17, rfl, rfl, I18, K19, rm16⟩ := q15
      have K19c := K19
      have K19 := K14.trans (K19.sub (wl_sub (by decide)))
      show PV _ _ _ _ _ _ _ 32 [.ref 123, .int x0, .int x1, .int x2, pv_U] [] _
      refine pv_aload_n (M := mX12_strokes) 0 dX12_strokes_32 33 rfl rfl rfl ?_
      refine pv_iload_n (M := mX12_strokes) 3 dX12_strokes_33 34 rfl rfl rfl ?_
      refine pv_callv (M := mX12_strokes) (as := [.int x2]) (st := []) (kc2 := 0) (ks2 := 0) dX12_strokes_34 wd1607 YX12_fewestStrokes ⟨wd1609, wd95⟩ (mk_get (tl123 hT)) rfl rfl (s_X12_fewestStrokes g hT I18 x2 (by omega) (by omega)) rfl rfl (Nat.le_of_ble_eq_true rfl) (by decide) rfl rfl 37 rfl (fun rv h1 q20 => ?_)
      obtain ⟨m21, n22, v25, rfl, rfl, I23, K24, pv25, qv25, rv25⟩ := q20
      have K24c := K24
      have K24 := K19.trans (K24.sub (wl_sub (by decide)))
      show PV _ _ _ _ _ _ _ 37 [.ref 123, .int x0, .int x1, .int x2, pv_U] [.int v25] _
      refine pv_istore (M := mX12_strokes) (lo2 := [.ref 123, .int x0, .int x1, .int x2, .int v25]) dX12_strokes_37 39 rfl (by decide) rfl rfl ?_
      refine pv_iload (M := mX12_strokes) dX12_strokes_39 41 rfl rfl ?_
      refine pv_ldcw (M := mX12_strokes) (v := 1000000000) dX12_strokes_41 44 rfl wd1583 ?_
      refine pv_icmp_lt (M := mX12_strokes) (tgt := 52) dX12_strokes_44 47 rfl (by decide) (fun c26 => ?_) (fun c26 => ?_)
      · have c26 := iv_lt (X := v25.toInt) (Y := 1000000000) c26 rfl (by decide)
        refine pv_iload (M := mX12_strokes) dX12_strokes_52 54 rfl rfl ?_
        exact pv_iret (M := mX12_strokes) dX12_strokes_54 rfl rfl ⟨_, _, _, rfl, rfl, I23, K24, by omega, by omega, trivial⟩
      · have c26 := iv_nlt (X := v25.toInt) (Y := 1000000000) c26 rfl (by decide)
        refine pv_bipush (M := mX12_strokes) (v := (-2)) dX12_strokes_47 49 rfl (by decide) ?_
        refine pv_goto (M := mX12_strokes) (tgt := 54) dX12_strokes_49 (by decide) ?_
        exact pv_iret (M := mX12_strokes) dX12_strokes_54 rfl rfl ⟨_, _, _, rfl, rfl, I23, K24, by decide, by decide, trivial⟩
    · have c8 := iv_eq (X := v7.toInt) (Y := 0) c8 rfl (by decide)
      refine pv_iconst (M := mX12_strokes) (v := (-1)) dX12_strokes_19 20 rfl (by decide) ?_
      exact pv_iret (M := mX12_strokes) dX12_strokes_20 rfl rfl ⟨_, _, _, rfl, rfl, I, Kp, by decide, by decide, trivial⟩

set_option maxHeartbeats 2000000 in
set_option maxRecDepth 20000 in
theorem s_X12_ways (g : pv_G) {T : List mv_T} {m : Nat → Nat → Int32} {n : Nat → Nat → Int64} {r : Nat → Value} (hT : TX T) (I : IV BB m) (x0 : Int32) (x1 : Int32) : PM g mX12_ways yX12_ways (sqJ T BB (wl [(123, 123, some 40), (123, 123, some 41), (149, 149, none), (150, 150, none)]) r m (fun m' => True)) 3 0 0 [.ref 123, .int x0, .int x1] (mk T m n r) := by
  have Kp : fr (wl [(123, 123, some 40), (123, 123, some 41), (149, 149, none), (150, 150, none)]) m m := fr.rf
  refine PM.of 2 (lo := [.ref 123, .int x0, .int x1, pv_U, pv_U]) rfl (by decide) rfl rfl (Nat.le_of_ble_eq_true rfl) ?_
  refine pv_aload_n (M := mX12_ways) 0 dX12_ways_0 1 rfl rfl rfl ?_
  refine pv_iload_n (M := mX12_ways) 1 dX12_ways_1 2 rfl rfl rfl ?_
  refine pv_iload_n (M := mX12_ways) 2 dX12_ways_2 3 rfl rfl rfl ?_
  refine pv_callv (M := mX12_ways) (as := [.int x0, .int x1]) (st := []) (kc2 := 0) (ks2 := 0) dX12_ways_3 wd1554 YX12_isAsked ⟨wd1556, wd86⟩ (mk_get (tl123 hT)) rfl rfl (s_X12_isAsked g hT I x0 x1) rfl rfl (Nat.le_of_ble_eq_true rfl) (by decide) rfl rfl 6 rfl (fun rv h1 q1 => ?_)
  obtain ⟨v2, rfl, rfl, pv2, qv2, rv2⟩ := q1
  replace rv2 : v2 = 0 ∨ ((0 ≤ x0.toInt ∧ x0.toInt ≤ 7) ∧ (0 ≤ x1.toInt ∧ x1.toInt ≤ 7)) := rv2
  show PV _ _ _ _ _ _ _ 6 [.ref 123, .int x0, .int x1, pv_U, pv_U] [.int v2] _
  refine pv_if_ne (M := mX12_ways) (tgt := 13) dX12_ways_6 9 rfl (by decide) (fun c3 => ?_) (fun c3 => ?_)
  · have pc3 := rv2.resolve_left c3
    have c3 := iv_ne (X := v2.toInt) (Y := 0) c3 rfl (by decide)
    refine pv_aload_n (M := mX12_ways) 0 dX12_ways_13 14 rfl rfl rfl ?_
    refine pv_iload_n (M := mX12_ways) 1 dX12_ways_14 15 rfl rfl rfl ?_
    refine pv_iconst (M := mX12_ways) (v := 0) dX12_ways_15 16 rfl (by decide) ?_
    have z4 : (0 : Int32).toInt = 0 := by decide
    refine pv_callv (M := mX12_ways) (as := [.int x0, .int 0]) (st := []) (kc2 := 0) (ks2 := 0) dX12_ways_16 wd1563 YX12_laysBlank ⟨wd1565, wd88⟩ (mk_get (tl123 hT)) rfl rfl (s_X12_laysBlank g hT I x0 (by omega) (by omega) 0 (by decide) (by decide)) rfl rfl (Nat.le_of_ble_eq_true rfl) (by decide) rfl rfl 19 rfl (fun rv h1 q5 => ?_)
    obtain ⟨m6, n7, rfl, rfl, I8, K9, rm6⟩ := q5
    replace rm6 : (0 : Int) = 0 → (m6 123 40).toInt = nu m6 x0.toInt 0 := by have q_ := rm6; (try rw [z4] at q_); exact q_
    have K9c := K9
    have K9 := Kp.trans (K9.sub (wl_sub (by decide)))
    show PV _ _ _ _ _ _ _ 19 [.ref 123, .int x0, .int x1, pv_U, pv_U] [] _
    refine pv_aload_n (M := mX12_ways) 0 dX12_ways_19 20 rfl rfl rfl ?_
    refine pv_iload_n (M := mX12_ways) 2 dX12_ways_20 21 rfl rfl rfl ?_
    refine pv_callv (M := mX12_ways) (as := [.int x1]) (st := []) (kc2 := 0) (ks2 := 0) dX12_ways_21 wd1567 YX12_laysDeed ⟨wd1569, wd89⟩ (mk_get (tl123 hT)) rfl rfl (s_X12_laysDeed g hT I8 x1 (by omega) (by omega)) rfl rfl (Nat.le_of_ble_eq_true rfl) (by decide) rfl rfl 24 rfl (fun rv h1 q10 => ?_)
    obtain ⟨m11, n12, rfl, rfl, I13, K14, rm11⟩ := q10
    have K14c := K14
    have K14 := K9.trans (K14.sub (wl_sub (by decide)))
    show PV _ _ _ _ _ _ _ 24 [.ref 123, .int x0, .int x1, pv_U, pv_U] [] _
    refine pv_iconst (M := mX12_ways) (v := 0) dX12_ways_24 25 rfl (by decide) ?_
    refine pv_istore_n (M := mX12_ways) 3 (lo2 := [.ref 123, .int x0, .int x1, .int 0, pv_U]) dX12_ways_25 26 rfl rfl (by decide) rfl rfl ?_
    have lp21 : ∀ (fuel20 : Nat) (y15 : Int32) (m16 : Nat → Nat → Int32) (n17 : Nat → Nat → Int64), (0 ≤ y15.toInt) → (y15.toInt ≤ 17) → IV BB m16 → fr (wl [(123, 123, some 40), (123, 123, some 41), (149, 149, none), (150, 150, none)]) m m16 → ((17 - y15.toInt) : Int).toNat < fuel20 → PV none g mX12_ways (sqJ T BB (wl [(123, 123, some 40), (123, 123, some 41), (149, 149, none), (150, 150, none)]) r m (fun m' => True)) 3 0 0 26 [.ref 123, .int x0, .int x1, .int y15, pv_U] [] (mk T m16 n17 r) := by
      intro fuel20
      induction fuel20 with
      | zero => intro y15 m16 n17 b23 b24 I18 K19 z25; omega
      | succ fuel20 ih22 =>
        intro y15 m16 n17 b23 b24 I18 K19 z25
        refine pv_iload_n (M := mX12_ways) 3 dX12_ways_26 27 rfl rfl rfl ?_
        refine pv_aload_n (M := mX12_ways) 0 dX12_ways_27 28 rfl rfl rfl ?_
        refine iv_get (M := mX12_ways) (l1 := 0) (l2 := 16) dX12_ways_28 FX12 41 wd1214 (by decide) (tl123 hT) rfl I18 rfl 31 rfl (fun v26 ev26 pv26 qv26 => ?_)
        refine pv_icmp_gt (M := mX12_ways) (tgt := 55) dX12_ways_31 34 rfl (by decide) (fun c27 => ?_) (fun c27 => ?_)
        · have c27 := iv_lt (X := v26.toInt) (Y := y15.toInt) c27 rfl rfl
          refine pv_iconst (M := mX12_ways) (v := 0) dX12_ways_55 56 rfl (by decide) ?_
          refine pv_istore_n (M := mX12_ways) 3 (lo2 := [.ref 123, .int x0, .int x1, .int 0, pv_U]) dX12_ways_56 57 rfl rfl (by decide) rfl rfl ?_
          have lp34 : ∀ (fuel33 : Nat) (y28 : Int32) (m29 : Nat → Nat → Int32) (n30 : Nat → Nat → Int64), (0 ≤ y28.toInt) → (y28.toInt ≤ 40) → IV BB m29 → fr (wl [(123, 123, some 40), (123, 123, some 41), (149, 149, none), (150, 150, none)]) m m29 → ((40 - y28.toInt) : Int).toNat < fuel33 → PV none g mX12_ways (sqJ T BB (wl [(123, 123, some 40), (123, 123, some 41), (149, 149, none), (150, 150, none)]) r m (fun m' => True)) 3 0 0 57 [.ref 123, .int x0, .int x1, .int y28, pv_U] [] (mk T m29 n30 r) := by
            intro fuel33
            induction fuel33 with
            | zero => intro y28 m29 n30 b36 b37 I31 K32 z38; omega
            | succ fuel33 ih35 =>
              intro y28 m29 n30 b36 b37 I31 K32 z38
              refine pv_iload_n (M := mX12_ways) 3 dX12_ways_57 58 rfl rfl rfl ?_
              refine pv_aload_n (M := mX12_ways) 0 dX12_ways_58 59 rfl rfl rfl ?_
              refine iv_get (M := mX12_ways) (l1 := 0) (l2 := 40) dX12_ways_59 FX12 40 wd1213 (by decide) (tl123 hT) rfl I31 rfl 62 rfl (fun v39 ev39 pv39 qv39 => ?_)
              refine pv_icmp_ge (M := mX12_ways) (tgt := 130) dX12_ways_62 65 rfl (by decide) (fun c40 => ?_) (fun c40 => ?_)
              · have c40 := iv_le (X := v39.toInt) (Y := y28.toInt) c40 rfl rfl
                refine pv_aload_n (M := mX12_ways) 0 dX12_ways_130 131 rfl rfl rfl ?_
                refine mv_get (M := mX12_ways) (v := .ref 151) dX12_ways_131 FX12 44 wd1217 (by decide) (tl123 hT) rfl rfl 134 rfl ?_
                refine pv_aload_n (M := mX12_ways) 0 dX12_ways_134 135 rfl rfl rfl ?_
                refine iv_get (M := mX12_ways) (l1 := 0) (l2 := 16) dX12_ways_135 FX12 41 wd1214 (by decide) (tl123 hT) rfl I31 rfl 138 rfl (fun v41 ev41 pv41 qv41 => ?_)
                refine iv_lald (M := mX12_ways) (X := v41.toInt) dX12_ways_138 (tl151 hT) rfl (by omega) (by omega) 139 rfl (fun v42 ev42 => ?_)
                exact pv_lret (M := mX12_ways) dX12_ways_139 rfl ⟨_, _, _, rfl, rfl, I31, K32, trivial⟩
              · have c40 := iv_nle (X := v39.toInt) (Y := y28.toInt) c40 rfl rfl
                refine pv_aload_n (M := mX12_ways) 0 dX12_ways_65 66 rfl rfl rfl ?_
                refine iv_get (M := mX12_ways) (l1 := 0) (l2 := 16) dX12_ways_66 FX12 41 wd1214 (by decide) (tl123 hT) rfl I31 rfl 69 rfl (fun v43 ev43 pv43 qv43 => ?_)
                refine pv_istore (M := mX12_ways) (lo2 := [.ref 123, .int x0, .int x1, .int y28, .int v43]) dX12_ways_69 71 rfl (by decide) rfl rfl ?_
                have lp50 : ∀ (fuel49 : Nat) (y44 : Int32) (m45 : Nat → Nat → Int32) (n46 : Nat → Nat → Int64), (0 ≤ y44.toInt) → (y44.toInt ≤ 16) → IV BB m45 → fr (wl [(123, 123, some 40), (123, 123, some 41), (149, 149, none), (150, 150, none)]) m m45 → ((y44.toInt - 0) : Int).toNat < fuel49 → PV none g mX12_ways (sqJ T BB (wl [(123, 123, some 40), (123, 123, some 41), (149, 149, none), (150, 150, none)]) r m (fun m' => True)) 3 0 0 71 [.ref 123, .int x0, .int x1, .int y28, .int y44] [] (mk T m45 n46 r) := by
                  intro fuel49
                  induction fuel49 with
                  | zero => intro y44 m45 n46 b52 b53 I47 K48 z54; omega
                  | succ fuel49 ih51 =>
                    intro y44 m45 n46 b52 b53 I47 K48 z54
                    refine pv_iload (M := mX12_ways) dX12_ways_71 73 rfl rfl ?_
                    refine pv_if_le (M := mX12_ways) (tgt := 124) dX12_ways_73 76 rfl (by decide) (fun c55 => ?_) (fun c55 => ?_)
                    · have c55 := iv_le (X := y44.toInt) (Y := 0) c55 rfl (by decide)
                      refine iv_inc (M := mX12_ways) (C := 1) dX12_ways_124 127 rfl rfl (by decide) rfl rfl (by decide) (by omega) (by omega) (fun v56 ev56 => ?_)
                      show PV _ _ _ _ _ _ _ 127 [.ref 123, .int x0, .int x1, .int v56, .int y44] [] _
                      refine pv_goto (M := mX12_ways) (tgt := 57) dX12_ways_127 (by decide) ?_
                      refine pv_fg (lo2 := [.ref 123, .int x0, .int x1, .int v56, pv_U]) ⟨Or.inr rfl, ⟨Or.inr rfl, ⟨Or.inr rfl, ⟨Or.inr rfl, ⟨Or.inl rfl, trivial⟩⟩⟩⟩⟩ ?_
                      exact ih35 v56 m45 n46 (by first | omega | assumption | exact (iv_rng _).2 | exact (iv_rng _).1 | decide) (by first | omega | assumption | exact (iv_rng _).2 | exact (iv_rng _).1 | decide) I47 K48 (by omega)
                    · have c55 := iv_nle (X := y44.toInt) (Y := 0) c55 rfl (by decide)
                      refine pv_aload_n (M := mX12_ways) 0 dX12_ways_76 77 rfl rfl rfl ?_
                      refine mv_get (M := mX12_ways) (v := .ref 149) dX12_ways_77 FX12 42 wd1215 (by decide) (tl123 hT) rfl rfl 80 rfl ?_
                      refine pv_iload_n (M := mX12_ways) 3 dX12_ways_80 81 rfl rfl rfl ?_
                      refine iv_iald (M := mX12_ways) (X := y28.toInt) (l1 := 0) (l2 := 25) dX12_ways_81 (tl149 hT) rfl (by omega) (by omega) I47 (fun _ => rfl) 82 rfl (fun v57 ev57 pv57 qv57 => ?_)
                      refine pv_aload_n (M := mX12_ways) 0 dX12_ways_82 83 rfl rfl rfl ?_
                      refine mv_get (M := mX12_ways) (v := .ref 150) dX12_ways_83 FX12 43 wd1216 (by decide) (tl123 hT) rfl rfl 86 rfl ?_
                      refine pv_iload (M := mX12_ways) dX12_ways_86 88 rfl rfl ?_
                      refine pv_iconst (M := mX12_ways) (v := 1) dX12_ways_88 89 rfl (by decide) ?_
                      refine iv_isub (M := mX12_ways) (X := y44.toInt) (Y := 1) dX12_ways_89 90 rfl rfl (by decide) (by omega) (by omega) (fun v58 ev58 => ?_)
                      refine iv_iald (M := mX12_ways) (X := v58.toInt) (l1 := 0) (l2 := 25) dX12_ways_90 (tl150 hT) rfl (by omega) (by omega) I47 (fun _ => rfl) 91 rfl (fun v59 ev59 pv59 qv59 => ?_)
                      refine pv_icmp_ne (M := mX12_ways) (tgt := 118) dX12_ways_91 94 rfl (by decide) (fun c60 => ?_) (fun c60 => ?_)
                      · have c60 := iv_ne (X := v57.toInt) (Y := v59.toInt) c60 rfl rfl
                        refine iv_inc (M := mX12_ways) (C := (-1)) dX12_ways_118 121 rfl rfl (by decide) rfl rfl (by decide) (by omega) (by omega) (fun v61 ev61 => ?_)
                        show PV _ _ _ _ _ _ _ 121 [.ref 123, .int x0, .int x1, .int y28, .int v61] [] _
                        refine pv_goto (M := mX12_ways) (tgt := 71) dX12_ways_121 (by decide) ?_
                        exact ih51 v61 m45 n46 (by first | omega | assumption | exact (iv_rng _).2 | exact (iv_rng _).1 | decide) (by first | omega | assumption | exact (iv_rng _).2 | exact (iv_rng _).1 | decide) I47 K48 (by omega)
                      · have c60 := iv_eq (X := v57.toInt) (Y := v59.toInt) c60 rfl rfl
                        refine pv_aload_n (M := mX12_ways) 0 dX12_ways_94 95 rfl rfl rfl ?_
                        refine mv_get (M := mX12_ways) (v := .ref 151) dX12_ways_95 FX12 44 wd1217 (by decide) (tl123 hT) rfl rfl 98 rfl ?_
                        refine pv_iload (M := mX12_ways) dX12_ways_98 100 rfl rfl ?_
                        refine pv_aload_n (M := mX12_ways) 0 dX12_ways_100 101 rfl rfl rfl ?_
                        refine mv_get (M := mX12_ways) (v := .ref 151) dX12_ways_101 FX12 44 wd1217 (by decide) (tl123 hT) rfl rfl 104 rfl ?_
                        refine pv_iload (M := mX12_ways) dX12_ways_104 106 rfl rfl ?_
                        refine iv_lald (M := mX12_ways) (X := y44.toInt) dX12_ways_106 (tl151 hT) rfl (by omega) (by omega) 107 rfl (fun v62 ev62 => ?_)
                        refine pv_aload_n (M := mX12_ways) 0 dX12_ways_107 108 rfl rfl rfl ?_
                        refine mv_get (M := mX12_ways) (v := .ref 151) dX12_ways_108 FX12 44 wd1217 (by decide) (tl123 hT) rfl rfl 111 rfl ?_
                        refine pv_iload (M := mX12_ways) dX12_ways_111 113 rfl rfl ?_
                        refine pv_iconst (M := mX12_ways) (v := 1) dX12_ways_113 114 rfl (by decide) ?_
                        refine iv_isub (M := mX12_ways) (X := y44.toInt) (Y := 1) dX12_ways_114 115 rfl rfl (by decide) (by omega) (by omega) (fun v63 ev63 => ?_)
                        refine iv_lald (M := mX12_ways) (X := v63.toInt) dX12_ways_115 (tl151 hT) rfl (by omega) (by omega) 116 rfl (fun v64 ev64 => ?_)
                        refine iv_addJ (M := mX12_ways) dX12_ways_116 117 rfl (fun v65 ev65 => ?_)
                        refine iv_last (M := mX12_ways) (X := y44.toInt) dX12_ways_117 (tl151 hT) rfl (by omega) (by omega) 118 rfl (fun n66 en66 => ?_)
                        refine iv_inc (M := mX12_ways) (C := (-1)) dX12_ways_118 121 rfl rfl (by decide) rfl rfl (by decide) (by omega) (by omega) (fun v67 ev67 => ?_)
                        show PV _ _ _ _ _ _ _ 121 [.ref 123, .int x0, .int x1, .int y28, .int v67] [] _
                        refine pv_goto (M := mX12_ways) (tgt := 71) dX12_ways_121 (by decide) ?_
                        exact ih51 v67 m45 n66 (by first | omega | assumption | exact (iv_rng _).2 | exact (iv_rng _).1 | decide) (by first | omega | assumption | exact (iv_rng _).2 | exact (iv_rng _).1 | decide) I47 K48 (by omega)
                exact lp50 (((v43.toInt - 0) : Int).toNat + 1) v43 m29 n30 (by first | omega | assumption | exact (iv_rng _).2 | exact (iv_rng _).1 | decide) (by first | omega | assumption | exact (iv_rng _).2 | exact (iv_rng _).1 | decide) I31 K32 (by omega)
          have z68 : (0 : Int32).toInt = 0 := by decide
          exact lp34 (((40 - 0) : Int).toNat + 1) 0 m16 n17 (by first | omega | assumption | exact (iv_rng _).2 | exact (iv_rng _).1 | decide) (by first | omega | assumption | exact (iv_rng _).2 | exact (iv_rng _).1 | decide) I18 K19 (by omega)
        · have c27 := iv_nlt (X := v26.toInt) (Y := y15.toInt) c27 rfl rfl
          refine pv_aload_n (M := mX12_ways) 0 dX12_ways_34 35 rfl rfl rfl ?_
          refine mv_get (M := mX12_ways) (v := .ref 151) dX12_ways_35 FX12 44 wd1217 (by decide) (tl123 hT) rfl rfl 38 rfl ?_
          refine pv_iload_n (M := mX12_ways) 3 dX12_ways_38 39 rfl rfl rfl ?_
          refine pv_iload_n (M := mX12_ways) 3 dX12_ways_39 40 rfl rfl rfl ?_
          refine pv_if_ne (M := mX12_ways) (tgt := 47) dX12_ways_40 43 rfl (by decide) (fun c69 => ?_) (fun c69 => ?_)
          · have c69 := iv_ne (X := y15.toInt) (Y := 0) c69 rfl (by decide)
            refine pv_lconst (M := mX12_ways) (v := 0) dX12_ways_47 48 rfl (by decide) ?_
            refine iv_last (M := mX12_ways) (X := y15.toInt) dX12_ways_48 (tl151 hT) rfl (by omega) (by omega) 49 rfl (fun n70 en70 => ?_)
            refine iv_inc (M := mX12_ways) (C := 1) dX12_ways_49 52 rfl rfl (by decide) rfl rfl (by decide) (by omega) (by omega) (fun v71 ev71 => ?_)
            show PV _ _ _ _ _ _ _ 52 [.ref 123, .int x0, .int x1, .int v71, pv_U] [] _
            refine pv_goto (M := mX12_ways) (tgt := 26) dX12_ways_52 (by decide) ?_
            exact ih22 v71 m16 n70 (by first | omega | assumption | exact (iv_rng _).2 | exact (iv_rng _).1 | decide) (by first | omega | assumption | exact (iv_rng _).2 | exact (iv_rng _).1 | decide) I18 K19 (by omega)
          · have c69 := iv_eq (X := y15.toInt) (Y := 0) c69 rfl (by decide)
            refine pv_lconst (M := mX12_ways) (v := 1) dX12_ways_43 44 rfl (by decide) ?_
            refine pv_goto (M := mX12_ways) (tgt := 48) dX12_ways_44 (by decide) ?_
            refine iv_last (M := mX12_ways) (X := y15.toInt) dX12_ways_48 (tl151 hT) rfl (by omega) (by omega) 49 rfl (fun n72 en72 => ?_)
            refine iv_inc (M := mX12_ways) (C := 1) dX12_ways_49 52 rfl rfl (by decide) rfl rfl (by decide) (by omega) (by omega) (fun v73 ev73 => ?_)
            show PV _ _ _ _ _ _ _ 52 [.ref 123, .int x0, .int x1, .int v73, pv_U] [] _
            refine pv_goto (M := mX12_ways) (tgt := 26) dX12_ways_52 (by decide) ?_
            exact ih22 v73 m16 n72 (by first | omega | assumption | exact (iv_rng _).2 | exact (iv_rng _).1 | decide) (by first | omega | assumption | exact (iv_rng _).2 | exact (iv_rng _).1 | decide) I18 K19 (by omega)
    have z74 : (0 : Int32).toInt = 0 := by decide
    exact lp21 (((17 - 0) : Int).toNat + 1) 0 m11 n12 (by first | omega | assumption | exact (iv_rng _).2 | exact (iv_rng _).1 | decide) (by first | omega | assumption | exact (iv_rng _).2 | exact (iv_rng _).1 | decide) I13 K14 (by omega)
  · have c3 := iv_eq (X := v2.toInt) (Y := 0) c3 rfl (by decide)
    refine pv_ldc2 (M := mX12_ways) (v := (-1)) dX12_ways_9 12 rfl wd1562 ?_
    exact pv_lret (M := mX12_ways) dX12_ways_12 rfl ⟨_, _, _, rfl, rfl, I, Kp, trivial⟩

set_option maxHeartbeats 2000000 in
set_option maxRecDepth 20000 in
theorem s_X12_howOften (g : pv_G) {T : List mv_T} {m : Nat → Nat → Int32} {n : Nat → Nat → Int64} {r : Nat → Value} (hT : TX T) (I : IV BB m) (x0 : Int32) (hl0 : 0 ≤ x0.toInt) (hh0 : x0.toInt ≤ 7) (x1 : Int32) : PM g mX12_howOften yX12_howOften (sqP (mk T m n r) 0 40 (fun v => True)) 1 0 0 [.ref 123, .int x0, .int x1] (mk T m n r) := by
  have Kp : fr (wl []) m m := fr.rf
  refine PM.of 2 (lo := [.ref 123, .int x0, .int x1, pv_U, pv_U]) rfl (by decide) rfl rfl (Nat.le_of_ble_eq_true rfl) ?_
  refine pv_iconst (M := mX12_howOften) (v := 0) dX12_howOften_0 1 rfl (by decide) ?_
  refine pv_istore_n (M := mX12_howOften) 3 (lo2 := [.ref 123, .int x0, .int x1, .int 0, pv_U]) dX12_howOften_1 2 rfl rfl (by decide) rfl rfl ?_
  refine pv_iconst (M := mX12_howOften) (v := 0) dX12_howOften_2 3 rfl (by decide) ?_
  refine pv_istore (M := mX12_howOften) (lo2 := [.ref 123, .int x0, .int x1, .int 0, .int 0]) dX12_howOften_3 5 rfl (by decide) rfl rfl ?_
  have lp8 : ∀ (fuel7 : Nat) (y1 : Int32) (y2 : Int32), (0 ≤ y1.toInt) → (y1.toInt ≤ 40) → (0 ≤ y2.toInt) → (y2.toInt ≤ 40) → (y1.toInt ≤ y2.toInt) → ((40 - y2.toInt) : Int).toNat < fuel7 → PV none g mX12_howOften (sqP (mk T m n r) 0 40 (fun v => True)) 1 0 0 5 [.ref 123, .int x0, .int x1, .int y1, .int y2] [] (mk T m n r) := by
    intro fuel7
    induction fuel7 with
    | zero => intro y1 y2 b10 b11 b12 b13 b14 z15; omega
    | succ fuel7 ih9 =>
      intro y1 y2 b10 b11 b12 b13 b14 z15
      refine pv_iload (M := mX12_howOften) dX12_howOften_5 7 rfl rfl ?_
      refine pv_aload_n (M := mX12_howOften) 0 dX12_howOften_7 8 rfl rfl rfl ?_
      refine mv_get (M := mX12_howOften) (v := .ref 124) dX12_howOften_8 FX12 5 wd1178 (by decide) (tl123 hT) rfl rfl 11 rfl ?_
      refine pv_iload_n (M := mX12_howOften) 1 dX12_howOften_11 12 rfl rfl rfl ?_
      refine iv_iald (M := mX12_howOften) (X := x0.toInt) (l1 := 0) (l2 := 40) dX12_howOften_12 (tl124 hT) rfl (by omega) (by omega) I (fun _ => rfl) 13 rfl (fun v16 ev16 pv16 qv16 => ?_)
      refine pv_icmp_ge (M := mX12_howOften) (tgt := 61) dX12_howOften_13 16 rfl (by decide) (fun c17 => ?_) (fun c17 => ?_)
      · have c17 := iv_le (X := v16.toInt) (Y := y2.toInt) c17 rfl rfl
        refine pv_iload_n (M := mX12_howOften) 3 dX12_howOften_61 62 rfl rfl rfl ?_
        exact pv_iret (M := mX12_howOften) dX12_howOften_62 rfl rfl ⟨_, rfl, rfl, by omega, by omega, trivial⟩
      · have c17 := iv_nle (X := v16.toInt) (Y := y2.toInt) c17 rfl rfl
        refine pv_iload_n (M := mX12_howOften) 3 dX12_howOften_16 17 rfl rfl rfl ?_
        refine pv_aload_n (M := mX12_howOften) 0 dX12_howOften_17 18 rfl rfl rfl ?_
        refine mv_get (M := mX12_howOften) (v := .ref 128) dX12_howOften_18 FX12 9 wd1182 (by decide) (tl123 hT) rfl rfl 21 rfl ?_
        refine pv_bipush (M := mX12_howOften) (v := 40) dX12_howOften_21 23 rfl (by decide) ?_
        refine pv_iload_n (M := mX12_howOften) 1 dX12_howOften_23 24 rfl rfl rfl ?_
        refine iv_imul (M := mX12_howOften) (X := 40) (Y := x0.toInt) dX12_howOften_24 25 rfl (by decide) rfl (by omega) (by omega) (fun v18 ev18 => ?_)
        refine pv_iload (M := mX12_howOften) dX12_howOften_25 27 rfl rfl ?_
        refine iv_iadd (M := mX12_howOften) (X := v18.toInt) (Y := y2.toInt) dX12_howOften_27 28 rfl rfl rfl (by omega) (by omega) (fun v19 ev19 => ?_)
        refine iv_zald (M := mX12_howOften) (X := v19.toInt) (l1 := 0) (l2 := 1) dX12_howOften_28 (tl128 hT) rfl (by omega) (by omega) I (fun _ => rfl) 29 rfl (fun v20 ev20 pv20 qv20 => ?_)
        refine pv_if_ne (M := mX12_howOften) (tgt := 52) dX12_howOften_29 32 rfl (by decide) (fun c21 => ?_) (fun c21 => ?_)
        · have c21 := iv_ne (X := v20.toInt) (Y := 0) c21 rfl (by decide)
          refine pv_iconst (M := mX12_howOften) (v := 0) dX12_howOften_52 53 rfl (by decide) ?_
          refine iv_iadd (M := mX12_howOften) (X := y1.toInt) (Y := 0) dX12_howOften_53 54 rfl rfl (by decide) (by omega) (by omega) (fun v22 ev22 => ?_)
          refine pv_istore_n (M := mX12_howOften) 3 (lo2 := [.ref 123, .int x0, .int x1, .int v22, .int y2]) dX12_howOften_54 55 rfl rfl (by decide) rfl rfl ?_
          refine iv_inc (M := mX12_howOften) (C := 1) dX12_howOften_55 58 rfl rfl (by decide) rfl rfl (by decide) (by omega) (by omega) (fun v23 ev23 => ?_)
          show PV _ _ _ _ _ _ _ 58 [.ref 123, .int x0, .int x1, .int v22, .int v23] [] _
          refine pv_goto (M := mX12_howOften) (tgt := 5) dX12_howOften_58 (by decide) ?_
          exact ih9 v22 v23 (by first | omega | assumption | exact (iv_rng _).2 | exact (iv_rng _).1 | decide) (by first | omega | assumption | exact (iv_rng _).2 | exact (iv_rng _).1 | decide) (by first | omega | assumption | exact (iv_rng _).2 | exact (iv_rng _).1 | decide) (by first | omega | assumption | exact (iv_rng _).2 | exact (iv_rng _).1 | decide) (by first | omega | assumption | (show v22.toInt ≤ v23.toInt; omega) | decide) (by omega)
        · have c21 := iv_eq (X := v20.toInt) (Y := 0) c21 rfl (by decide)
          refine pv_aload_n (M := mX12_howOften) 0 dX12_howOften_32 33 rfl rfl rfl ?_
          refine mv_get (M := mX12_howOften) (v := .ref 125) dX12_howOften_33 FX12 6 wd1179 (by decide) (tl123 hT) rfl rfl 36 rfl ?_
          refine pv_bipush (M := mX12_howOften) (v := 40) dX12_howOften_36 38 rfl (by decide) ?_
          refine pv_iload_n (M := mX12_howOften) 1 dX12_howOften_38 39 rfl rfl rfl ?_
          refine iv_imul (M := mX12_howOften) (X := 40) (Y := x0.toInt) dX12_howOften_39 40 rfl (by decide) rfl (by omega) (by omega) (fun v24 ev24 => ?_)
          refine pv_iload (M := mX12_howOften) dX12_howOften_40 42 rfl rfl ?_
          refine iv_iadd (M := mX12_howOften) (X := v24.toInt) (Y := y2.toInt) dX12_howOften_42 43 rfl rfl rfl (by omega) (by omega) (fun v25 ev25 => ?_)
          refine iv_iald (M := mX12_howOften) (X := v25.toInt) (l1 := 0) (l2 := 25) dX12_howOften_43 (tl125 hT) rfl (by omega) (by omega) I (fun _ => rfl) 44 rfl (fun v26 ev26 pv26 qv26 => ?_)
          refine pv_iload_n (M := mX12_howOften) 2 dX12_howOften_44 45 rfl rfl rfl ?_
          refine pv_icmp_ne (M := mX12_howOften) (tgt := 52) dX12_howOften_45 48 rfl (by decide) (fun c27 => ?_) (fun c27 => ?_)
          · have c27 := iv_ne (X := v26.toInt) (Y := x1.toInt) c27 rfl rfl
            refine pv_iconst (M := mX12_howOften) (v := 0) dX12_howOften_52 53 rfl (by decide) ?_
            refine iv_iadd (M := mX12_howOften) (X := y1.toInt) (Y := 0) dX12_howOften_53 54 rfl rfl (by decide) (by omega) (by omega) (fun v28 ev28 => ?_)
            refine pv_istore_n (M := mX12_howOften) 3 (lo2 := [.ref 123, .int x0, .int x1, .int v28, .int y2]) dX12_howOften_54 55 rfl rfl (by decide) rfl rfl ?_
            refine iv_inc (M := mX12_howOften) (C := 1) dX12_howOften_55 58 rfl rfl (by decide) rfl rfl (by decide) (by omega) (by omega) (fun v29 ev29 => ?_)
            show PV _ _ _ _ _ _ _ 58 [.ref 123, .int x0, .int x1, .int v28, .int v29] [] _
            refine pv_goto (M := mX12_howOften) (tgt := 5) dX12_howOften_58 (by decide) ?_
            exact ih9 v28 v29 (by first | omega | assumption | exact (iv_rng _).2 | exact (iv_rng _).1 | decide) (by first | omega | assumption | exact (iv_rng _).2 | exact (iv_rng _).1 | decide) (by first | omega | assumption | exact (iv_rng _).2 | exact (iv_rng _).1 | decide) (by first | omega | assumption | exact (iv_rng _).2 | exact (iv_rng _).1 | decide) (by first | omega | assumption | (show v28.toInt ≤ v29.toInt; omega) | decide) (by omega)
          · have c27 := iv_eq (X := v26.toInt) (Y := x1.toInt) c27 rfl rfl
            refine pv_iconst (M := mX12_howOften) (v := 1) dX12_howOften_48 49 rfl (by decide) ?_
            refine pv_goto (M := mX12_howOften) (tgt := 53) dX12_howOften_49 (by decide) ?_
            refine iv_iadd (M := mX12_howOften) (X := y1.toInt) (Y := 1) dX12_howOften_53 54 rfl rfl (by decide) (by omega) (by omega) (fun v30 ev30 => ?_)
            refine pv_istore_n (M := mX12_howOften) 3 (lo2 := [.ref 123, .int x0, .int x1, .int v30, .int y2]) dX12_howOften_54 55 rfl rfl (by decide) rfl rfl ?_
            refine iv_inc (M := mX12_howOften) (C := 1) dX12_howOften_55 58 rfl rfl (by decide) rfl rfl (by decide) (by omega) (by omega) (fun v31 ev31 => ?_)
            show PV _ _ _ _ _ _ _ 58 [.ref 123, .int x0, .int x1, .int v30, .int v31] [] _
            refine pv_goto (M := mX12_howOften) (tgt := 5) dX12_howOften_58 (by decide) ?_
            exact ih9 v30 v31 (by first | omega | assumption | exact (iv_rng _).2 | exact (iv_rng _).1 | decide) (by first | omega | assumption | exact (iv_rng _).2 | exact (iv_rng _).1 | decide) (by first | omega | assumption | exact (iv_rng _).2 | exact (iv_rng _).1 | decide) (by first | omega | assumption | exact (iv_rng _).2 | exact (iv_rng _).1 | decide) (by first | omega | assumption | (show v30.toInt ≤ v31.toInt; omega) | decide) (by omega)
  have z32 : (0 : Int32).toInt = 0 := by decide
  have z33 : (0 : Int32).toInt = 0 := by decide
  exact lp8 (((40 - 0) : Int).toNat + 1) 0 0 (by first | omega | assumption | exact (iv_rng _).2 | exact (iv_rng _).1 | decide) (by first | omega | assumption | exact (iv_rng _).2 | exact (iv_rng _).1 | decide) (by first | omega | assumption | exact (iv_rng _).2 | exact (iv_rng _).1 | decide) (by first | omega | assumption | exact (iv_rng _).2 | exact (iv_rng _).1 | decide) (by first | omega | assumption | (show 0 ≤ 0; omega) | decide) (by omega)

set_option maxHeartbeats 2000000 in
set_option maxRecDepth 20000 in
theorem s_X12_isStruckAt (g : pv_G) {T : List mv_T} {m : Nat → Nat → Int32} {n : Nat → Nat → Int64} {r : Nat → Value} (hT : TX T) (I : IV BB m) (x0 : Int32) (hl0 : 0 ≤ x0.toInt) (hh0 : x0.toInt ≤ 7) (x1 : Int32) (hl1 : -1 ≤ x1.toInt) (hh1 : x1.toInt ≤ 40) : PM g mX12_isStruckAt yX12_isStruckAt (sqP (mk T m n r) 0 1 (fun v => True)) 1 0 0 [.ref 123, .int x0, .int x1] (mk T m n r) := by
  have Kp : fr (wl []) m m := fr.rf
  refine PM.of 0 (lo := [.ref 123, .int x0, .int x1]) rfl (by decide) rfl rfl (Nat.le_of_ble_eq_true rfl) ?_
  refine pv_iload_n (M := mX12_isStruckAt) 2 dX12_isStruckAt_0 1 rfl rfl rfl ?_
  refine pv_if_lt (M := mX12_isStruckAt) (tgt := 28) dX12_isStruckAt_1 4 rfl (by decide) (fun c1 => ?_) (fun c1 => ?_)
  · have c1 := iv_lt (X := x1.toInt) (Y := 0) c1 rfl (by decide)
    refine pv_iconst (M := mX12_isStruckAt) (v := 1) dX12_isStruckAt_28 29 rfl (by decide) ?_
    refine pv_goto (M := mX12_isStruckAt) (tgt := 33) dX12_isStruckAt_29 (by decide) ?_
    exact pv_iret (M := mX12_isStruckAt) dX12_isStruckAt_33 rfl rfl ⟨_, rfl, rfl, by decide, by decide, trivial⟩
  · have c1 := iv_nlt (X := x1.toInt) (Y := 0) c1 rfl (by decide)
    refine pv_iload_n (M := mX12_isStruckAt) 2 dX12_isStruckAt_4 5 rfl rfl rfl ?_
    refine pv_aload_n (M := mX12_isStruckAt) 0 dX12_isStruckAt_5 6 rfl rfl rfl ?_
    refine mv_get (M := mX12_isStruckAt) (v := .ref 124) dX12_isStruckAt_6 FX12 5 wd1178 (by decide) (tl123 hT) rfl rfl 9 rfl ?_
    refine pv_iload_n (M := mX12_isStruckAt) 1 dX12_isStruckAt_9 10 rfl rfl rfl ?_
    refine iv_iald (M := mX12_isStruckAt) (X := x0.toInt) (l1 := 0) (l2 := 40) dX12_isStruckAt_10 (tl124 hT) rfl (by omega) (by omega) I (fun _ => rfl) 11 rfl (fun v2 ev2 pv2 qv2 => ?_)
    refine pv_icmp_ge (M := mX12_isStruckAt) (tgt := 28) dX12_isStruckAt_11 14 rfl (by decide) (fun c3 => ?_) (fun c3 => ?_)
    · have c3 := iv_le (X := v2.toInt) (Y := x1.toInt) c3 rfl rfl
      refine pv_iconst (M := mX12_isStruckAt) (v := 1) dX12_isStruckAt_28 29 rfl (by decide) ?_
      refine pv_goto (M := mX12_isStruckAt) (tgt := 33) dX12_isStruckAt_29 (by decide) ?_
      exact pv_iret (M := mX12_isStruckAt) dX12_isStruckAt_33 rfl rfl ⟨_, rfl, rfl, by decide, by decide, trivial⟩
    · have c3 := iv_nle (X := v2.toInt) (Y := x1.toInt) c3 rfl rfl
      refine pv_aload_n (M := mX12_isStruckAt) 0 dX12_isStruckAt_14 15 rfl rfl rfl ?_
      refine mv_get (M := mX12_isStruckAt) (v := .ref 128) dX12_isStruckAt_15 FX12 9 wd1182 (by decide) (tl123 hT) rfl rfl 18 rfl ?_
      refine pv_bipush (M := mX12_isStruckAt) (v := 40) dX12_isStruckAt_18 20 rfl (by decide) ?_
      refine pv_iload_n (M := mX12_isStruckAt) 1 dX12_isStruckAt_20 21 rfl rfl rfl ?_
      refine iv_imul (M := mX12_isStruckAt) (X := 40) (Y := x0.toInt) dX12_isStruckAt_21 22 rfl (by decide) rfl (by omega) (by omega) (fun v4 ev4 => ?_)
      refine pv_iload_n (M := mX12_isStruckAt) 2 dX12_isStruckAt_22 23 rfl rfl rfl ?_
      refine iv_iadd (M := mX12_isStruckAt) (X := v4.toInt) (Y := x1.toInt) dX12_isStruckAt_23 24 rfl rfl rfl (by omega) (by omega) (fun v5 ev5 => ?_)
      refine iv_zald (M := mX12_isStruckAt) (X := v5.toInt) (l1 := 0) (l2 := 1) dX12_isStruckAt_24 (tl128 hT) rfl (by omega) (by omega) I (fun _ => rfl) 25 rfl (fun v6 ev6 pv6 qv6 => ?_)
      refine pv_if_eq (M := mX12_isStruckAt) (tgt := 32) dX12_isStruckAt_25 28 rfl (by decide) (fun c7 => ?_) (fun c7 => ?_)
      · have c7 := iv_eq (X := v6.toInt) (Y := 0) c7 rfl (by decide)
        refine pv_iconst (M := mX12_isStruckAt) (v := 0) dX12_isStruckAt_32 33 rfl (by decide) ?_
        exact pv_iret (M := mX12_isStruckAt) dX12_isStruckAt_33 rfl rfl ⟨_, rfl, rfl, by decide, by decide, trivial⟩
      · have c7 := iv_ne (X := v6.toInt) (Y := 0) c7 rfl (by decide)
        refine pv_iconst (M := mX12_isStruckAt) (v := 1) dX12_isStruckAt_28 29 rfl (by decide) ?_
        refine pv_goto (M := mX12_isStruckAt) (tgt := 33) dX12_isStruckAt_29 (by decide) ?_
        exact pv_iret (M := mX12_isStruckAt) dX12_isStruckAt_33 rfl rfl ⟨_, rfl, rfl, by decide, by decide, trivial⟩

set_option maxHeartbeats 2000000 in
set_option maxRecDepth 20000 in
theorem s_X12_valueBy (g : pv_G) {T : List mv_T} {m : Nat → Nat → Int32} {n : Nat → Nat → Int64} {r : Nat → Value} (hT : TX T) (I : IV BB m) (x0 : Int32) (hl0 : 0 ≤ x0.toInt) (hh0 : x0.toInt ≤ 7) (x1 : Int32) (hl1 : 0 ≤ x1.toInt) (hh1 : x1.toInt ≤ 8) (x2 : Int32) (hl2 : 0 ≤ x2.toInt) (hh2 : x2.toInt ≤ 255) : PM g mX12_valueBy yX12_valueBy (sqP (mk T m n r) (-2147483648) 2147483647 (fun v => True)) 2 0 0 [.ref 123, .int x0, .int x1, .int x2] (mk T m n r) := by
  have Kp : fr (wl []) m m := fr.rf
  refine PM.of 0 (lo := [.ref 123, .int x0, .int x1, .int x2]) rfl (by decide) rfl rfl (Nat.le_of_ble_eq_true rfl) ?_
  refine pv_iload_n (M := mX12_valueBy) 2 dX12_valueBy_0 1 rfl rfl rfl ?_
  refine pv_bipush (M := mX12_valueBy) (v := 8) dX12_valueBy_1 3 rfl (by decide) ?_
  refine pv_icmp_ne (M := mX12_valueBy) (tgt := 21) dX12_valueBy_3 6 rfl (by decide) (fun c1 => ?_) (fun c1 => ?_)
  · have c1 := iv_ne (X := x1.toInt) (Y := 8) c1 rfl (by decide)
    refine pv_iload_n (M := mX12_valueBy) 2 dX12_valueBy_21 22 rfl rfl rfl ?_
    refine pv_aload_n (M := mX12_valueBy) 0 dX12_valueBy_22 23 rfl rfl rfl ?_
    refine iv_get (M := mX12_valueBy) (l1 := 0) (l2 := 8) dX12_valueBy_23 FX12 0 wd1173 (by decide) (tl123 hT) rfl I rfl 26 rfl (fun v2 ev2 pv2 qv2 => ?_)
    refine pv_icmp_ge (M := mX12_valueBy) (tgt := 52) dX12_valueBy_26 29 rfl (by decide) (fun c3 => ?_) (fun c3 => ?_)
    · have c3 := iv_le (X := v2.toInt) (Y := x1.toInt) c3 rfl rfl
      refine pv_ldcw (M := mX12_valueBy) (v := (-1000000000)) dX12_valueBy_52 55 rfl wd1728 ?_
      exact pv_iret (M := mX12_valueBy) dX12_valueBy_55 rfl rfl ⟨_, rfl, rfl, by decide, by decide, trivial⟩
    · have c3 := iv_nle (X := v2.toInt) (Y := x1.toInt) c3 rfl rfl
      refine pv_iload_n (M := mX12_valueBy) 3 dX12_valueBy_29 30 rfl rfl rfl ?_
      refine pv_iload_n (M := mX12_valueBy) 2 dX12_valueBy_30 31 rfl rfl rfl ?_
      refine iv_shrU (M := mX12_valueBy) dX12_valueBy_31 32 rfl (fun v4 ev4 => ?_)
      refine pv_iconst (M := mX12_valueBy) (v := 1) dX12_valueBy_32 33 rfl (by decide) ?_
      refine iv_iandm (M := mX12_valueBy) dX12_valueBy_33 34 rfl 1 (by decide) (by decide) (fun v5 ev5 pv5 qv5 => ?_)
      have qv5 : v5.toInt < 2 := qv5
      refine pv_iconst (M := mX12_valueBy) (v := 1) dX12_valueBy_34 35 rfl (by decide) ?_
      refine pv_icmp_eq (M := mX12_valueBy) (tgt := 52) dX12_valueBy_35 38 rfl (by decide) (fun c6 => ?_) (fun c6 => ?_)
      · have c6 := iv_eq (X := v5.toInt) (Y := 1) c6 rfl (by decide)
        refine pv_ldcw (M := mX12_valueBy) (v := (-1000000000)) dX12_valueBy_52 55 rfl wd1728 ?_
        exact pv_iret (M := mX12_valueBy) dX12_valueBy_55 rfl rfl ⟨_, rfl, rfl, by decide, by decide, trivial⟩
      · have c6 := iv_ne (X := v5.toInt) (Y := 1) c6 rfl (by decide)
        refine pv_aload_n (M := mX12_valueBy) 0 dX12_valueBy_38 39 rfl rfl rfl ?_
        refine mv_get (M := mX12_valueBy) (v := .ref 165) dX12_valueBy_39 FX12 59 wd1232 (by decide) (tl123 hT) rfl rfl 42 rfl ?_
        refine pv_bipush (M := mX12_valueBy) (v := 8) dX12_valueBy_42 44 rfl (by decide) ?_
        refine pv_iload_n (M := mX12_valueBy) 1 dX12_valueBy_44 45 rfl rfl rfl ?_
        refine iv_imul (M := mX12_valueBy) (X := 8) (Y := x0.toInt) dX12_valueBy_45 46 rfl (by decide) rfl (by omega) (by omega) (fun v7 ev7 => ?_)
        refine pv_iload_n (M := mX12_valueBy) 2 dX12_valueBy_46 47 rfl rfl rfl ?_
        refine iv_iadd (M := mX12_valueBy) (X := v7.toInt) (Y := x1.toInt) dX12_valueBy_47 48 rfl rfl rfl (by omega) (by omega) (fun v8 ev8 => ?_)
        refine iv_zald (M := mX12_valueBy) (X := v8.toInt) (l1 := 0) (l2 := 1) dX12_valueBy_48 (tl165 hT) rfl (by omega) (by omega) I (fun _ => rfl) 49 rfl (fun v9 ev9 pv9 qv9 => ?_)
        refine pv_if_ne (M := mX12_valueBy) (tgt := 56) dX12_valueBy_49 52 rfl (by decide) (fun c10 => ?_) (fun c10 => ?_)
        · have c10 := iv_ne (X := v9.toInt) (Y := 0) c10 rfl (by decide)
          refine pv_sipush (M := mX12_valueBy) (v := 1000) dX12_valueBy_56 59 rfl (by decide) ?_
          refine pv_aload_n (M := mX12_valueBy) 0 dX12_valueBy_59 60 rfl rfl rfl ?_
          refine pv_iload_n (M := mX12_valueBy) 2 dX12_valueBy_60 61 rfl rfl rfl ?_
          refine pv_callv (M := mX12_valueBy) (as := [.int x1]) (st := [.int 1000]) (kc2 := 0) (ks2 := 0) dX12_valueBy_61 wd1393 YX12_leftMany ⟨wd1395, wd56⟩ (mk_get (tl123 hT)) rfl rfl (s_X12_leftMany g hT I x1 (by omega) (by omega)) rfl rfl (Nat.le_of_ble_eq_true rfl) (by decide) rfl rfl 64 rfl (fun rv h1 q11 => ?_)
          obtain ⟨v12, rfl, rfl, pv12, qv12, rv12⟩ := q11
          replace rv12 : v12.toInt = nu m x1.toInt 0 := rv12
          show PV _ _ _ _ _ _ _ 64 [.ref 123, .int x0, .int x1, .int x2] [.int v12, .int 1000] _
          refine pv_aload_n (M := mX12_valueBy) 0 dX12_valueBy_64 65 rfl rfl rfl ?_
          refine mv_get (M := mX12_valueBy) (v := .ref 126) dX12_valueBy_65 FX12 7 wd1180 (by decide) (tl123 hT) rfl rfl 68 rfl ?_
          refine pv_iload_n (M := mX12_valueBy) 1 dX12_valueBy_68 69 rfl rfl rfl ?_
          refine iv_iald (M := mX12_valueBy) (X := x0.toInt) (l1 := 0) (l2 := 16) dX12_valueBy_69 (tl126 hT) rfl (by omega) (by omega) I (fun _ => rfl) 70 rfl (fun v13 ev13 pv13 qv13 => ?_)
          refine iv_isub (M := mX12_valueBy) (X := v12.toInt) (Y := v13.toInt) dX12_valueBy_70 71 rfl rfl rfl (by omega) (by omega) (fun v14 ev14 => ?_)
          refine iv_isub (M := mX12_valueBy) (X := 1000) (Y := v14.toInt) dX12_valueBy_71 72 rfl (by decide) rfl (by omega) (by omega) (fun v15 ev15 => ?_)
          refine pv_aload_n (M := mX12_valueBy) 0 dX12_valueBy_72 73 rfl rfl rfl ?_
          refine mv_get (M := mX12_valueBy) (v := .ref 166) dX12_valueBy_73 FX12 60 wd1233 (by decide) (tl123 hT) rfl rfl 76 rfl ?_
          refine pv_sipush (M := mX12_valueBy) (v := 256) dX12_valueBy_76 79 rfl (by decide) ?_
          refine pv_iload_n (M := mX12_valueBy) 1 dX12_valueBy_79 80 rfl rfl rfl ?_
          refine pv_iconst (M := mX12_valueBy) (v := 1) dX12_valueBy_80 81 rfl (by decide) ?_
          refine iv_iadd (M := mX12_valueBy) (X := x0.toInt) (Y := 1) dX12_valueBy_81 82 rfl rfl (by decide) (by omega) (by omega) (fun v16 ev16 => ?_)
          refine iv_imul (M := mX12_valueBy) (X := 256) (Y := v16.toInt) dX12_valueBy_82 83 rfl (by decide) rfl (by omega) (by omega) (fun v17 ev17 => ?_)
          refine pv_iload_n (M := mX12_valueBy) 3 dX12_valueBy_83 84 rfl rfl rfl ?_
          refine pv_iconst (M := mX12_valueBy) (v := 1) dX12_valueBy_84 85 rfl (by decide) ?_
          refine pv_iload_n (M := mX12_valueBy) 2 dX12_valueBy_85 86 rfl rfl rfl ?_
          refine iv_shlU (M := mX12_valueBy) dX12_valueBy_86 87 rfl (fun v18 ev18 => ?_)
          have pv18 : 1 ≤ v18.toInt ∧ v18.toInt ≤ 128 := by rw [ev18]; exact iv_sh17 (by omega) (by omega)
          refine iv_orU (M := mX12_valueBy) dX12_valueBy_87 88 rfl (fun v19 ev19 => ?_)
          have pv19 : 0 ≤ v19.toInt ∧ v19.toInt ≤ 255 := by rw [ev19]; exact iv_or8 (by omega) (by omega) (by omega) (by omega)
          refine iv_iadd (M := mX12_valueBy) (X := v17.toInt) (Y := v19.toInt) dX12_valueBy_88 89 rfl rfl rfl (by omega) (by omega) (fun v20 ev20 => ?_)
          refine iv_iald (M := mX12_valueBy) (X := v20.toInt) (l1 := (-2147483648)) (l2 := 2147483647) dX12_valueBy_89 (tl166 hT) rfl (by omega) (by omega) I (fun _ => rfl) 90 rfl (fun v21 ev21 pv21 qv21 => ?_)
          refine iv_addU (M := mX12_valueBy) dX12_valueBy_90 91 rfl (fun v22 ev22 => ?_)
          exact pv_iret (M := mX12_valueBy) dX12_valueBy_91 rfl rfl ⟨_, rfl, rfl, (iv_rng v22).1, (iv_rng v22).2, trivial⟩
        · have c10 := iv_eq (X := v9.toInt) (Y := 0) c10 rfl (by decide)
          refine pv_ldcw (M := mX12_valueBy) (v := (-1000000000)) dX12_valueBy_52 55 rfl wd1728 ?_
          exact pv_iret (M := mX12_valueBy) dX12_valueBy_55 rfl rfl ⟨_, rfl, rfl, by decide, by decide, trivial⟩
  · have c1 := iv_eq (X := x1.toInt) (Y := 8) c1 rfl (by decide)
    refine pv_aload_n (M := mX12_valueBy) 0 dX12_valueBy_6 7 rfl rfl rfl ?_
    refine mv_get (M := mX12_valueBy) (v := .ref 166) dX12_valueBy_7 FX12 60 wd1233 (by decide) (tl123 hT) rfl rfl 10 rfl ?_
    refine pv_sipush (M := mX12_valueBy) (v := 256) dX12_valueBy_10 13 rfl (by decide) ?_
    refine pv_iload_n (M := mX12_valueBy) 1 dX12_valueBy_13 14 rfl rfl rfl ?_
    refine pv_iconst (M := mX12_valueBy) (v := 1) dX12_valueBy_14 15 rfl (by decide) ?_
    refine iv_iadd (M := mX12_valueBy) (X := x0.toInt) (Y := 1) dX12_valueBy_15 16 rfl rfl (by decide) (by omega) (by omega) (fun v23 ev23 => ?_)
    refine iv_imul (M := mX12_valueBy) (X := 256) (Y := v23.toInt) dX12_valueBy_16 17 rfl (by decide) rfl (by omega) (by omega) (fun v24 ev24 => ?_)
    refine pv_iload_n (M := mX12_valueBy) 3 dX12_valueBy_17 18 rfl rfl rfl ?_
    refine iv_iadd (M := mX12_valueBy) (X := v24.toInt) (Y := x2.toInt) dX12_valueBy_18 19 rfl rfl rfl (by omega) (by omega) (fun v25 ev25 => ?_)
    refine iv_iald (M := mX12_valueBy) (X := v25.toInt) (l1 := (-2147483648)) (l2 := 2147483647) dX12_valueBy_19 (tl166 hT) rfl (by omega) (by omega) I (fun _ => rfl) 20 rfl (fun v26 ev26 pv26 qv26 => ?_)
    exact pv_iret (M := mX12_valueBy) dX12_valueBy_20 rfl rfl ⟨_, rfl, rfl, (iv_rng v26).1, (iv_rng v26).2, trivial⟩

set_option maxHeartbeats 2000000 in
set_option maxRecDepth 20000 in
theorem s_X12_longBy (g : pv_G) {T : List mv_T} {m : Nat → Nat → Int32} {n : Nat → Nat → Int64} {r : Nat → Value} (hT : TX T) (I : IV BB m) (x0 : Int32) (hl0 : 0 ≤ x0.toInt) (hh0 : x0.toInt ≤ 8) (x1 : Int32) (hl1 : 0 ≤ x1.toInt) (hh1 : x1.toInt ≤ 7) (x2 : Int32) (hl2 : 0 ≤ x2.toInt) (hh2 : x2.toInt ≤ 255) : PM g mX12_longBy yX12_longBy (sqP (mk T m n r) (-2147483648) 2147483647 (fun v => LBv m x0 x1 x2 v)) 1 0 0 [.ref 123, .int x0, .int x1, .int x2] (mk T m n r) := by
  have Kp : fr (wl []) m m := fr.rf
  refine PM.of 0 (lo := [.ref 123, .int x0, .int x1, .int x2]) rfl (by decide) rfl rfl (Nat.le_of_ble_eq_true rfl) ?_
  refine pv_aload_n (M := mX12_longBy) 0 dX12_longBy_0 1 rfl rfl rfl ?_
  refine mv_get (M := mX12_longBy) (v := .ref 167) dX12_longBy_1 FX12 62 wd1235 (by decide) (tl123 hT) rfl rfl 4 rfl ?_
  refine pv_bipush (M := mX12_longBy) (v := 8) dX12_longBy_4 6 rfl (by decide) ?_
  refine pv_iload_n (M := mX12_longBy) 1 dX12_longBy_6 7 rfl rfl rfl ?_
  refine iv_imul (M := mX12_longBy) (X := 8) (Y := x0.toInt) dX12_longBy_7 8 rfl (by decide) rfl (by omega) (by omega) (fun v1 ev1 => ?_)
  refine pv_iload_n (M := mX12_longBy) 2 dX12_longBy_8 9 rfl rfl rfl ?_
  refine iv_iadd (M := mX12_longBy) (X := v1.toInt) (Y := x1.toInt) dX12_longBy_9 10 rfl rfl rfl (by omega) (by omega) (fun v2 ev2 => ?_)
  refine iv_zald (M := mX12_longBy) (X := v2.toInt) (l1 := 0) (l2 := 1) dX12_longBy_10 (tl167 hT) rfl (by omega) (by omega) I (fun _ => rfl) 11 rfl (fun v3 ev3 pv3 qv3 => ?_)
  have k11 : v3.toInt = (m 167 (8 * x0.toInt + x1.toInt).toNat).toInt := (congrArg Int32.toInt ev3).trans (congrArg (fun z => (m 167 z).toInt) (by omega))
  refine pv_if_eq (M := mX12_longBy) (tgt := 43) dX12_longBy_11 14 rfl (by decide) (fun c5 => ?_) (fun c5 => ?_)
  · have c5 := iv_eq (X := v3.toInt) (Y := 0) c5 rfl (by decide)
    refine pv_iconst (M := mX12_longBy) (v := 0) dX12_longBy_43 44 rfl (by decide) ?_
    have z6 : (0 : Int32).toInt = 0 := by decide
    exact pv_iret (M := mX12_longBy) dX12_longBy_44 rfl rfl ⟨_, rfl, rfl, by decide, by decide, (Or.inr ⟨by omega, rfl⟩)⟩
  · have c5 := iv_ne (X := v3.toInt) (Y := 0) c5 rfl (by decide)
    refine pv_iload_n (M := mX12_longBy) 3 dX12_longBy_14 15 rfl rfl rfl ?_
    refine pv_iload_n (M := mX12_longBy) 2 dX12_longBy_15 16 rfl rfl rfl ?_
    refine iv_shrU (M := mX12_longBy) dX12_longBy_16 17 rfl (fun v7 ev7 => ?_)
    have k17 := ev7
    refine pv_iconst (M := mX12_longBy) (v := 1) dX12_longBy_17 18 rfl (by decide) ?_
    refine iv_iandm (M := mX12_longBy) dX12_longBy_18 19 rfl 1 (by decide) (by decide) (fun v9 ev9 pv9 qv9 => ?_)
    have qv9 : v9.toInt < 2 := qv9
    have k19 : v9.toInt = ((x2 >>> (x1 &&& 31)) &&& 1).toInt := by rw [ev9, k17]
    refine pv_if_ne (M := mX12_longBy) (tgt := 43) dX12_longBy_19 22 rfl (by decide) (fun c11 => ?_) (fun c11 => ?_)
    · have c11 := iv_ne (X := v9.toInt) (Y := 0) c11 rfl (by decide)
      refine pv_iconst (M := mX12_longBy) (v := 0) dX12_longBy_43 44 rfl (by decide) ?_
      have z12 : (0 : Int32).toInt = 0 := by decide
      exact pv_iret (M := mX12_longBy) dX12_longBy_44 rfl rfl ⟨_, rfl, rfl, by decide, by decide, (Or.inr ⟨by omega, rfl⟩)⟩
    · have c11 := iv_eq (X := v9.toInt) (Y := 0) c11 rfl (by decide)
      refine pv_iconst (M := mX12_longBy) (v := 1) dX12_longBy_22 23 rfl (by decide) ?_
      refine pv_aload_n (M := mX12_longBy) 0 dX12_longBy_23 24 rfl rfl rfl ?_
      refine mv_get (M := mX12_longBy) (v := .ref 168) dX12_longBy_24 FX12 63 wd1236 (by decide) (tl123 hT) rfl rfl 27 rfl ?_
      refine pv_sipush (M := mX12_longBy) (v := 256) dX12_longBy_27 30 rfl (by decide) ?_
      refine pv_iload_n (M := mX12_longBy) 2 dX12_longBy_30 31 rfl rfl rfl ?_
      refine iv_imul (M := mX12_longBy) (X := 256) (Y := x1.toInt) dX12_longBy_31 32 rfl (by decide) rfl (by omega) (by omega) (fun v13 ev13 => ?_)
      refine pv_iload_n (M := mX12_longBy) 3 dX12_longBy_32 33 rfl rfl rfl ?_
      refine pv_iconst (M := mX12_longBy) (v := 1) dX12_longBy_33 34 rfl (by decide) ?_
      refine pv_iload_n (M := mX12_longBy) 2 dX12_longBy_34 35 rfl rfl rfl ?_
      refine iv_shlU (M := mX12_longBy) dX12_longBy_35 36 rfl (fun v14 ev14 => ?_)
      have pv14 : 1 ≤ v14.toInt ∧ v14.toInt ≤ 128 := by rw [ev14]; exact iv_sh17 (by omega) (by omega)
      have k36 := ev14
      refine iv_orU (M := mX12_longBy) dX12_longBy_36 37 rfl (fun v16 ev16 => ?_)
      have pv16 : 0 ≤ v16.toInt ∧ v16.toInt ≤ 255 := by rw [ev16]; exact iv_or8 (by omega) (by omega) (by omega) (by omega)
      have k37 : v16 = x2 ||| ((1 : Int32) <<< (x1 &&& 31)) := by rw [ev16, k36]
      refine iv_iadd (M := mX12_longBy) (X := v13.toInt) (Y := v16.toInt) dX12_longBy_37 38 rfl rfl rfl (by omega) (by omega) (fun v18 ev18 => ?_)
      refine iv_iald (M := mX12_longBy) (X := v18.toInt) (l1 := (-2147483648)) (l2 := 2147483647) dX12_longBy_38 (tl168 hT) rfl (by omega) (by omega) I (fun _ => rfl) 39 rfl (fun v19 ev19 pv19 qv19 => ?_)
      have k39 : v19 = m 168 (256 * x1.toInt + (x2 ||| ((1 : Int32) <<< (x1 &&& 31))).toInt).toNat := ev19.trans (congrArg (fun z => m 168 z) (by rw [← k37]; omega))
      refine iv_addU (M := mX12_longBy) dX12_longBy_39 40 rfl (fun v21 ev21 => ?_)
      refine pv_goto (M := mX12_longBy) (tgt := 44) dX12_longBy_40 (by decide) ?_
      exact pv_iret (M := mX12_longBy) dX12_longBy_44 rfl rfl ⟨_, rfl, rfl, (iv_rng v21).1, (iv_rng v21).2, (Or.inl ⟨by omega, by omega, by rw [ev21, k39]⟩)⟩

set_option maxHeartbeats 2000000 in
set_option maxRecDepth 20000 in
theorem s_X12_manyOf (g : pv_G) {T : List mv_T} {m : Nat → Nat → Int32} {n : Nat → Nat → Int64} {r : Nat → Value} (hT : TX T) (I : IV BB m) (x0 : Int32) : PM g mX12_manyOf yX12_manyOf (sqP (mk T m n r) (-2147483648) 2147483647 (fun v => True)) 1 0 0 [.ref 123, .int x0] (mk T m n r) := by
  have Kp : fr (wl []) m m := fr.rf
  refine PM.of 0 (lo := [.ref 123, .int x0]) rfl (by decide) rfl rfl (Nat.le_of_ble_eq_true rfl) ?_
  refine pv_iload_n (M := mX12_manyOf) 1 dX12_manyOf_0 1 rfl rfl rfl ?_
  refine pv_sipush (M := mX12_manyOf) (v := 999) dX12_manyOf_1 4 rfl (by decide) ?_
  refine iv_addU (M := mX12_manyOf) dX12_manyOf_4 5 rfl (fun v1 ev1 => ?_)
  refine pv_sipush (M := mX12_manyOf) (v := 1000) dX12_manyOf_5 8 rfl (by decide) ?_
  refine iv_divU (M := mX12_manyOf) (Y := 1000) dX12_manyOf_8 9 rfl (by decide) (by omega) (fun v2 ev2 => ?_)
  exact pv_iret (M := mX12_manyOf) dX12_manyOf_9 rfl rfl ⟨_, rfl, rfl, (iv_rng v2).1, (iv_rng v2).2, trivial⟩

set_option maxHeartbeats 2000000 in
set_option maxRecDepth 20000 in
theorem s_X12_lostOf (g : pv_G) {T : List mv_T} {m : Nat → Nat → Int32} {n : Nat → Nat → Int64} {r : Nat → Value} (hT : TX T) (I : IV BB m) (x0 : Int32) : PM g mX12_lostOf yX12_lostOf (sqP (mk T m n r) (-2147483648) 2147483647 (fun v => True)) 2 0 0 [.ref 123, .int x0] (mk T m n r) := by
  have Kp : fr (wl []) m m := fr.rf
  refine PM.of 0 (lo := [.ref 123, .int x0]) rfl (by decide) rfl rfl (Nat.le_of_ble_eq_true rfl) ?_
  refine pv_sipush (M := mX12_lostOf) (v := 1000) dX12_lostOf_0 3 rfl (by decide) ?_
  refine pv_aload_n (M := mX12_lostOf) 0 dX12_lostOf_3 4 rfl rfl rfl ?_
  refine pv_iload_n (M := mX12_lostOf) 1 dX12_lostOf_4 5 rfl rfl rfl ?_
  refine pv_callv (M := mX12_lostOf) (as := [.int x0]) (st := [.int 1000]) (kc2 := 0) (ks2 := 0) dX12_lostOf_5 wd1729 YX12_manyOf ⟨wd1731, wd114⟩ (mk_get (tl123 hT)) rfl rfl (s_X12_manyOf g hT I x0) rfl rfl (Nat.le_of_ble_eq_true rfl) (by decide) rfl rfl 8 rfl (fun rv h1 q1 => ?_)
  obtain ⟨v2, rfl, rfl, pv2, qv2, rv2⟩ := q1
  show PV _ _ _ _ _ _ _ 8 [.ref 123, .int x0] [.int v2, .int 1000] _
  refine iv_mulU (M := mX12_lostOf) dX12_lostOf_8 9 rfl (fun v3 ev3 => ?_)
  refine pv_iload_n (M := mX12_lostOf) 1 dX12_lostOf_9 10 rfl rfl rfl ?_
  refine iv_subU (M := mX12_lostOf) dX12_lostOf_10 11 rfl (fun v4 ev4 => ?_)
  exact pv_iret (M := mX12_lostOf) dX12_lostOf_11 rfl rfl ⟨_, rfl, rfl, (iv_rng v4).1, (iv_rng v4).2, trivial⟩

set_option maxHeartbeats 2000000 in
set_option maxRecDepth 20000 in
theorem s_X12_laysEnd (g : pv_G) {T : List mv_T} {m : Nat → Nat → Int32} {n : Nat → Nat → Int64} {r : Nat → Value} (hT : TX T) (I : IV BB m) (x0 : Int32) (hl0 : 0 ≤ x0.toInt) (hh0 : x0.toInt ≤ 255) : PM g mX12_laysEnd yX12_laysEnd (sqV T BB (wl [(123, 123, some 40), (123, 123, some 41), (149, 149, none), (150, 150, none), (165, 165, none), (166, 166, none)]) r m (fun m' => True)) 3 0 0 [.ref 123, .int x0] (mk T m n r) := by
  have Kp : fr (wl [(123, 123, some 40), (123, 123, some 41), (149, 149, none), (150, 150, none), (165, 165, none), (166, 166, none)]) m m := fr.rf
  refine PM.of 4 (lo := [.ref 123, .int x0, pv_U, pv_U, pv_U, pv_U]) rfl (by decide) rfl rfl (Nat.le_of_ble_eq_true rfl) ?_
  refine pv_aload_n (M := mX12_laysEnd) 0 dX12_laysEnd_0 1 rfl rfl rfl ?_
  refine pv_callv (M := mX12_laysEnd) (as := []) (st := []) (kc2 := 0) (ks2 := 0) dX12_laysEnd_1 wd1720 YX12_laysComes ⟨wd1722, wd112⟩ (mk_get (tl123 hT)) rfl rfl (s_X12_laysComes g hT I) rfl rfl (Nat.le_of_ble_eq_true rfl) (by decide) rfl rfl 4 rfl (fun rv h1 q1 => ?_)
  obtain ⟨m2, n3, rfl, rfl, I4, K5, rm2⟩ := q1
  have K5c := K5
  have K5 := Kp.trans (K5.sub (wl_sub (by decide)))
  show PV _ _ _ _ _ _ _ 4 [.ref 123, .int x0, pv_U, pv_U, pv_U, pv_U] [] _
  refine pv_iconst (M := mX12_laysEnd) (v := 0) dX12_laysEnd_4 5 rfl (by decide) ?_
  refine pv_istore_n (M := mX12_laysEnd) 2 (lo2 := [.ref 123, .int x0, .int 0, pv_U, pv_U, pv_U]) dX12_laysEnd_5 6 rfl rfl (by decide) rfl rfl ?_
  have lp12 : ∀ (fuel11 : Nat) (y6 : Int32) (m7 : Nat → Nat → Int32) (n8 : Nat → Nat → Int64), (0 ≤ y6.toInt) → (y6.toInt ≤ 256) → IV BB m7 → fr (wl [(123, 123, some 40), (123, 123, some 41), (149, 149, none), (150, 150, none), (165, 165, none), (166, 166, none)]) m m7 → ((256 - y6.toInt) : Int).toNat < fuel11 → PV none g mX12_laysEnd (sqV T BB (wl [(123, 123, some 40), (123, 123, some 41), (149, 149, none), (150, 150, none), (165, 165, none), (166, 166, none)]) r m (fun m' => True)) 3 0 0 6 [.ref 123, .int x0, .int y6, pv_U, pv_U, pv_U] [] (mk T m7 n8 r) := by
    intro fuel11
    induction fuel11 with
    | zero => intro y6 m7 n8 b14 b15 I9 K10 z16; omega
    | succ fuel11 ih13 =>
      intro y6 m7 n8 b14 b15 I9 K10 z16
      refine pv_iload_n (M := mX12_laysEnd) 2 dX12_laysEnd_6 7 rfl rfl rfl ?_
      refine pv_sipush (M := mX12_laysEnd) (v := 256) dX12_laysEnd_7 10 rfl (by decide) ?_
      refine pv_icmp_ge (M := mX12_laysEnd) (tgt := 30) dX12_laysEnd_10 13 rfl (by decide) (fun c17 => ?_) (fun c17 => ?_)
      · have c17 := iv_le (X := 256) (Y := y6.toInt) c17 (by decide) rfl
        refine pv_bipush (M := mX12_laysEnd) (v := 7) dX12_laysEnd_30 32 rfl (by decide) ?_
        refine pv_istore_n (M := mX12_laysEnd) 2 (lo2 := [.ref 123, .int x0, .int 7, pv_U, pv_U, pv_U]) dX12_laysEnd_32 33 rfl rfl (by decide) rfl rfl ?_
        have lp24 : ∀ (fuel23 : Nat) (y18 : Int32) (m19 : Nat → Nat → Int32) (n20 : Nat → Nat → Int64), (-1 ≤ y18.toInt) → (y18.toInt ≤ 7) → IV BB m19 → fr (wl [(123, 123, some 40), (123, 123, some 41), (149, 149, none), (150, 150, none), (165, 165, none), (166, 166, none)]) m m19 → ((y18.toInt - (-1)) : Int).toNat < fuel23 → PV none g mX12_laysEnd (sqV T BB (wl [(123, 123, some 40), (123, 123, some 41), (149, 149, none), (150, 150, none), (165, 165, none), (166, 166, none)]) r m (fun m' => True)) 3 0 0 33 [.ref 123, .int x0, .int y18, pv_U, pv_U, pv_U] [] (mk T m19 n20 r) := by
          intro fuel23
          induction fuel23 with
          | zero => intro y18 m19 n20 b26 b27 I21 K22 z28; omega
          | succ fuel23 ih25 =>
            intro y18 m19 n20 b26 b27 I21 K22 z28
            refine pv_iload_n (M := mX12_laysEnd) 2 dX12_laysEnd_33 34 rfl rfl rfl ?_
            refine pv_if_lt (M := mX12_laysEnd) (tgt := 137) dX12_laysEnd_34 37 rfl (by decide) (fun c29 => ?_) (fun c29 => ?_)
            · have c29 := iv_lt (X := y18.toInt) (Y := 0) c29 rfl (by decide)
              exact pv_vret (M := mX12_laysEnd) dX12_laysEnd_137 rfl ⟨_, _, rfl, rfl, I21, K22, trivial⟩
            · have c29 := iv_nlt (X := y18.toInt) (Y := 0) c29 rfl (by decide)
              refine pv_iconst (M := mX12_laysEnd) (v := 0) dX12_laysEnd_37 38 rfl (by decide) ?_
              refine pv_istore_n (M := mX12_laysEnd) 3 (lo2 := [.ref 123, .int x0, .int y18, .int 0, pv_U, pv_U]) dX12_laysEnd_38 39 rfl rfl (by decide) rfl rfl ?_
              have lp36 : ∀ (fuel35 : Nat) (y30 : Int32) (m31 : Nat → Nat → Int32) (n32 : Nat → Nat → Int64), (0 ≤ y30.toInt) → (y30.toInt ≤ 256) → IV BB m31 → fr (wl [(123, 123, some 40), (123, 123, some 41), (149, 149, none), (150, 150, none), (165, 165, none), (166, 166, none)]) m m31 → ((256 - y30.toInt) : Int).toNat < fuel35 → PV none g mX12_laysEnd (sqV T BB (wl [(123, 123, some 40), (123, 123, some 41), (149, 149, none), (150, 150, none), (165, 165, none), (166, 166, none)]) r m (fun m' => True)) 3 0 0 39 [.ref 123, .int x0, .int y18, .int y30, pv_U, pv_U] [] (mk T m31 n32 r) := by
                intro fuel35
                induction fuel35 with
                | zero => intro y30 m31 n32 b38 b39 I33 K34 z40; omega
                | succ fuel35 ih37 =>
                  intro y30 m31 n32 b38 b39 I33 K34 z40
                  refine pv_iload_n (M := mX12_laysEnd) 3 dX12_laysEnd_39 40 rfl rfl rfl ?_
                  refine pv_sipush (M := mX12_laysEnd) (v := 256) dX12_laysEnd_40 43 rfl (by decide) ?_
                  refine pv_icmp_ge (M := mX12_laysEnd) (tgt := 131) dX12_laysEnd_43 46 rfl (by decide) (fun c41 => ?_) (fun c41 => ?_)
                  · have c41 := iv_le (X := 256) (Y := y30.toInt) c41 (by decide) rfl
                    refine iv_inc (M := mX12_laysEnd) (C := (-1)) dX12_laysEnd_131 134 rfl rfl (by decide) rfl rfl (by decide) (by omega) (by omega) (fun v42 ev42 => ?_)
                    show PV _ _ _ _ _ _ _ 134 [.ref 123, .int x0, .int v42, .int y30, pv_U, pv_U] [] _
                    refine pv_goto (M := mX12_laysEnd) (tgt := 33) dX12_laysEnd_134 (by decide) ?_
                    refine pv_fg (lo2 := [.ref 123, .int x0, .int v42, pv_U, pv_U, pv_U]) ⟨Or.inr rfl, ⟨Or.inr rfl, ⟨Or.inr rfl, ⟨Or.inl rfl, ⟨Or.inl rfl, ⟨Or.inl rfl, trivial⟩⟩⟩⟩⟩⟩ ?_
                    exact ih25 v42 m31 n32 (by first | omega | assumption | exact (iv_rng _).2 | exact (iv_rng _).1 | decide) (by first | omega | assumption | exact (iv_rng _).2 | exact (iv_rng _).1 | decide) I33 K34 (by omega)
                  · have c41 := iv_nle (X := 256) (Y := y30.toInt) c41 (by decide) rfl
                    refine pv_aload_n (M := mX12_laysEnd) 0 dX12_laysEnd_46 47 rfl rfl rfl ?_
                    refine pv_iload_n (M := mX12_laysEnd) 2 dX12_laysEnd_47 48 rfl rfl rfl ?_
                    refine pv_bipush (M := mX12_laysEnd) (v := 8) dX12_laysEnd_48 50 rfl (by decide) ?_
                    refine pv_iload_n (M := mX12_laysEnd) 3 dX12_laysEnd_50 51 rfl rfl rfl ?_
                    refine pv_callv (M := mX12_laysEnd) (as := [.int y18, .int 8, .int y30]) (st := []) (kc2 := 0) (ks2 := 0) dX12_laysEnd_51 wd1724 YX12_valueBy ⟨wd1726, wd113⟩ (mk_get (tl123 hT)) rfl rfl (s_X12_valueBy g hT I33 y18 (by omega) (by omega) 8 (by decide) (by decide) y30 (by omega) (by omega)) rfl rfl (Nat.le_of_ble_eq_true rfl) (by decide) rfl rfl 54 rfl (fun rv h1 q43 => ?_)
                    obtain ⟨v44, rfl, rfl, pv44, qv44, rv44⟩ := q43
                    show PV _ _ _ _ _ _ _ 54 [.ref 123, .int x0, .int y18, .int y30, pv_U, pv_U] [.int v44] _
                    refine pv_istore (M := mX12_laysEnd) (lo2 := [.ref 123, .int x0, .int y18, .int y30, .int v44, pv_U]) dX12_laysEnd_54 56 rfl (by decide) rfl rfl ?_
                    refine pv_iconst (M := mX12_laysEnd) (v := 0) dX12_laysEnd_56 57 rfl (by decide) ?_
                    refine pv_istore (M := mX12_laysEnd) (lo2 := [.ref 123, .int x0, .int y18, .int y30, .int v44, .int 0]) dX12_laysEnd_57 59 rfl (by decide) rfl rfl ?_
                    have lp52 : ∀ (fuel51 : Nat) (y45 : Int32) (y46 : Int32), (0 ≤ y46.toInt) → (y46.toInt ≤ 8) → ((8 - y46.toInt) : Int).toNat < fuel51 → PV none g mX12_laysEnd (sqV T BB (wl [(123, 123, some 40), (123, 123, some 41), (149, 149, none), (150, 150, none), (165, 165, none), (166, 166, none)]) r m (fun m' => True)) 3 0 0 59 [.ref 123, .int x0, .int y18, .int y30, .int y45, .int y46] [] (mk T m31 n32 r) := by
                      intro fuel51
                      induction fuel51 with
                      | zero => intro y45 y46 b54 b55 z56; omega
                      | succ fuel51 ih53 =>
                        intro y45 y46 b54 b55 z56
                        refine pv_iload (M := mX12_laysEnd) dX12_laysEnd_59 61 rfl rfl ?_
                        refine pv_aload_n (M := mX12_laysEnd) 0 dX12_laysEnd_61 62 rfl rfl rfl ?_
                        refine iv_get (M := mX12_laysEnd) (l1 := 0) (l2 := 8) dX12_laysEnd_62 FX12 0 wd1173 (by decide) (tl123 hT) rfl I33 rfl 65 rfl (fun v57 ev57 pv57 qv57 => ?_)
                        refine pv_icmp_ge (M := mX12_laysEnd) (tgt := 111) dX12_laysEnd_65 68 rfl (by decide) (fun c58 => ?_) (fun c58 => ?_)
                        · have c58 := iv_le (X := v57.toInt) (Y := y46.toInt) c58 rfl rfl
                          refine pv_aload_n (M := mX12_laysEnd) 0 dX12_laysEnd_111 112 rfl rfl rfl ?_
                          refine mv_get (M := mX12_laysEnd) (v := .ref 166) dX12_laysEnd_112 FX12 60 wd1233 (by decide) (tl123 hT) rfl rfl 115 rfl ?_
                          refine pv_sipush (M := mX12_laysEnd) (v := 256) dX12_laysEnd_115 118 rfl (by decide) ?_
                          refine pv_iload_n (M := mX12_laysEnd) 2 dX12_laysEnd_118 119 rfl rfl rfl ?_
                          refine iv_imul (M := mX12_laysEnd) (X := 256) (Y := y18.toInt) dX12_laysEnd_119 120 rfl (by decide) rfl (by omega) (by omega) (fun v59 ev59 => ?_)
                          refine pv_iload_n (M := mX12_laysEnd) 3 dX12_laysEnd_120 121 rfl rfl rfl ?_
                          refine iv_iadd (M := mX12_laysEnd) (X := v59.toInt) (Y := y30.toInt) dX12_laysEnd_121 122 rfl rfl rfl (by omega) (by omega) (fun v60 ev60 => ?_)
                          refine pv_iload (M := mX12_laysEnd) dX12_laysEnd_122 124 rfl rfl ?_
                          refine iv_iast (M := mX12_laysEnd) (X := v60.toInt) (l1 := (-2147483648)) (l2 := 2147483647) dX12_laysEnd_124 (tl166 hT) rfl (by omega) (by omega) I33 (fun _ => rfl) (iv_rng y45).1 (iv_rng y45).2 125 rfl (fun m61 e64 I62 => ?_)
                          have K63 := K34.set e64 rfl
                          refine iv_inc (M := mX12_laysEnd) (C := 1) dX12_laysEnd_125 128 rfl rfl (by decide) rfl rfl (by decide) (by omega) (by omega) (fun v65 ev65 => ?_)
                          show PV _ _ _ _ _ _ _ 128 [.ref 123, .int x0, .int y18, .int v65, .int y45, .int y46] [] _
                          refine pv_goto (M := mX12_laysEnd) (tgt := 39) dX12_laysEnd_128 (by decide) ?_
                          refine pv_fg (lo2 := [.ref 123, .int x0, .int y18, .int v65, pv_U, pv_U]) ⟨Or.inr rfl, ⟨Or.inr rfl, ⟨Or.inr rfl, ⟨Or.inr rfl, ⟨Or.inl rfl, ⟨Or.inl rfl, trivial⟩⟩⟩⟩⟩⟩ ?_
                          exact ih37 v65 m61 n32 (by first | omega | assumption | exact (iv_rng _).2 | exact (iv_rng _).1 | decide) (by first | omega | assumption | exact (iv_rng _).2 | exact (iv_rng _).1 | decide) I62 K63 (by omega)
                        · have c58 := iv_nle (X := v57.toInt) (Y := y46.toInt) c58 rfl rfl
                          refine pv_iload_n (M := mX12_laysEnd) 1 dX12_laysEnd_68 69 rfl rfl rfl ?_
                          refine pv_iload_n (M := mX12_laysEnd) 2 dX12_laysEnd_69 70 rfl rfl rfl ?_
                          refine iv_shrU (M := mX12_laysEnd) dX12_laysEnd_70 71 rfl (fun v66 ev66 => ?_)
                          refine pv_iconst (M := mX12_laysEnd) (v := 1) dX12_laysEnd_71 72 rfl (by decide) ?_
                          refine iv_iandm (M := mX12_laysEnd) dX12_laysEnd_72 73 rfl 1 (by decide) (by decide) (fun v67 ev67 pv67 qv67 => ?_)
                          have qv67 : v67.toInt < 2 := qv67
                          refine pv_iconst (M := mX12_laysEnd) (v := 1) dX12_laysEnd_73 74 rfl (by decide) ?_
                          refine pv_icmp_ne (M := mX12_laysEnd) (tgt := 111) dX12_laysEnd_74 77 rfl (by decide) (fun c68 => ?_) (fun c68 => ?_)
                          · have c68 := iv_ne (X := v67.toInt) (Y := 1) c68 rfl (by decide)
                            refine pv_aload_n (M := mX12_laysEnd) 0 dX12_laysEnd_111 112 rfl rfl rfl ?_
                            refine mv_get (M := mX12_laysEnd) (v := .ref 166) dX12_laysEnd_112 FX12 60 wd1233 (by decide) (tl123 hT) rfl rfl 115 rfl ?_
                            refine pv_sipush (M := mX12_laysEnd) (v := 256) dX12_laysEnd_115 118 rfl (by decide) ?_
                            refine pv_iload_n (M := mX12_laysEnd) 2 dX12_laysEnd_118 119 rfl rfl rfl ?_
                            refine iv_imul (M := mX12_laysEnd) (X := 256) (Y := y18.toInt) dX12_laysEnd_119 120 rfl (by decide) rfl (by omega) (by omega) (fun v69 ev69 => ?_)
                            refine pv_iload_n (M := mX12_laysEnd) 3 dX12_laysEnd_120 121 rfl rfl rfl ?_
                            refine iv_iadd (M := mX12_laysEnd) (X := v69.toInt) (Y := y30.toInt) dX12_laysEnd_121 122 rfl rfl rfl (by omega) (by omega) (fun v70 ev70 => ?_)
                            refine pv_iload (M := mX12_laysEnd) dX12_laysEnd_122 124 rfl rfl ?_
                            refine iv_iast (M := mX12_laysEnd) (X := v70.toInt) (l1 := (-2147483648)) (l2 := 2147483647) dX12_laysEnd_124 (tl166 hT) rfl (by omega) (by omega) I33 (fun _ => rfl) (iv_rng y45).1 (iv_rng y45).2 125 rfl (fun m71 e74 I72 => ?_)
                            have K73 := K34.set e74 rfl
                            refine iv_inc (M := mX12_laysEnd) (C := 1) dX12_laysEnd_125 128 rfl rfl (by decide) rfl rfl (by decide) (by omega) (by omega) (fun v75 ev75 => ?_)
                            show PV _ _ _ _ _ _ _ 128 [.ref 123, .int x0, .int y18, .int v75, .int y45, .int y46] [] _
                            refine pv_goto (M := mX12_laysEnd) (tgt := 39) dX12_laysEnd_128 (by decide) ?_
                            refine pv_fg (lo2 := [.ref 123, .int x0, .int y18, .int v75, pv_U, pv_U]) ⟨Or.inr rfl, ⟨Or.inr rfl, ⟨Or.inr rfl, ⟨Or.inr rfl, ⟨Or.inl rfl, ⟨Or.inl rfl, trivial⟩⟩⟩⟩⟩⟩ ?_
                            exact ih37 v75 m71 n32 (by first | omega | assumption | exact (iv_rng _).2 | exact (iv_rng _).1 | decide) (by first | omega | assumption | exact (iv_rng _).2 | exact (iv_rng _).1 | decide) I72 K73 (by omega)
                          · have c68 := iv_eq (X := v67.toInt) (Y := 1) c68 rfl (by decide)
                            refine pv_aload_n (M := mX12_laysEnd) 0 dX12_laysEnd_77 78 rfl rfl rfl ?_
                            refine pv_iload_n (M := mX12_laysEnd) 2 dX12_laysEnd_78 79 rfl rfl rfl ?_
                            refine pv_iload (M := mX12_laysEnd) dX12_laysEnd_79 81 rfl rfl ?_
                            refine pv_iload_n (M := mX12_laysEnd) 3 dX12_laysEnd_81 82 rfl rfl rfl ?_
                            refine pv_callv (M := mX12_laysEnd) (as := [.int y18, .int y46, .int y30]) (st := []) (kc2 := 0) (ks2 := 0) dX12_laysEnd_82 wd1724 YX12_valueBy ⟨wd1726, wd113⟩ (mk_get (tl123 hT)) rfl rfl (s_X12_valueBy g hT I33 y18 (by omega) (by omega) y46 (by omega) (by omega) y30 (by omega) (by omega)) rfl rfl (Nat.le_of_ble_eq_true rfl) (by decide) rfl rfl 85 rfl (fun rv h1 q76 => ?_)
                            obtain ⟨v77, rfl, rfl, pv77, qv77, rv77⟩ := q76
                            show PV _ _ _ _ _ _ _ 85 [.ref 123, .int x0, .int y18, .int y30, .int y45, .int y46] [.int v77] _
                            refine pv_iload (M := mX12_laysEnd) dX12_laysEnd_85 87 rfl rfl ?_
                            refine pv_icmp_le (M := mX12_laysEnd) (tgt := 101) dX12_laysEnd_87 90 rfl (by decide) (fun c78 => ?_) (fun c78 => ?_)
                            · have c78 := iv_le (X := v77.toInt) (Y := y45.toInt) c78 rfl rfl
                              refine pv_iload (M := mX12_laysEnd) dX12_laysEnd_101 103 rfl rfl ?_
                              refine pv_istore (M := mX12_laysEnd) (lo2 := [.ref 123, .int x0, .int y18, .int y30, .int y45, .int y46]) dX12_laysEnd_103 105 rfl (by decide) rfl rfl ?_
                              refine iv_inc (M := mX12_laysEnd) (C := 1) dX12_laysEnd_105 108 rfl rfl (by decide) rfl rfl (by decide) (by omega) (by omega) (fun v79 ev79 => ?_)
                              show PV _ _ _ _ _ _ _ 108 [.ref 123, .int x0, .int y18, .int y30, .int y45, .int v79] [] _
                              refine pv_goto (M := mX12_laysEnd) (tgt := 59) dX12_laysEnd_108 (by decide) ?_
                              exact ih53 y45 v79 (by first | omega | assumption | exact (iv_rng _).2 | exact (iv_rng _).1 | decide) (by first | omega | assumption | exact (iv_rng _).2 | exact (iv_rng _).1 | decide) (by omega)
                            · have c78 := iv_nle (X := v77.toInt) (Y := y45.toInt) c78 rfl rfl
                              refine pv_aload_n (M := mX12_laysEnd) 0 dX12_laysEnd_90 91 rfl rfl rfl ?_
                              refine pv_iload_n (M := mX12_laysEnd) 2 dX12_laysEnd_91 92 rfl rfl rfl ?_
                              refine pv_iload (M := mX12_laysEnd) dX12_laysEnd_92 94 rfl rfl ?_
                              refine pv_iload_n (M := mX12_laysEnd) 3 dX12_laysEnd_94 95 rfl rfl rfl ?_
                              refine pv_callv (M := mX12_laysEnd) (as := [.int y18, .int y46, .int y30]) (st := []) (kc2 := 0) (ks2 := 0) dX12_laysEnd_95 wd1724 YX12_valueBy ⟨wd1726, wd113⟩ (mk_get (tl123 hT)) rfl rfl (s_X12_valueBy g hT I33 y18 (by omega) (by omega) y46 (by omega) (by omega) y30 (by omega) (by omega)) rfl rfl (Nat.le_of_ble_eq_true rfl) (by decide) rfl rfl 98 rfl (fun rv h1 q80 => ?_)
                              obtain ⟨v81, rfl, rfl, pv81, qv81, rv81⟩ := q80
                              show PV _ _ _ _ _ _ _ 98 [.ref 123, .int x0, .int y18, .int y30, .int y45, .int y46] [.int v81] _
                              refine pv_goto (M := mX12_laysEnd) (tgt := 103) dX12_laysEnd_98 (by decide) ?_
                              refine pv_istore (M := mX12_laysEnd) (lo2 := [.ref 123, .int x0, .int y18, .int y30, .int v81, .int y46]) dX12_laysEnd_103 105 rfl (by decide) rfl rfl ?_
                              refine iv_inc (M := mX12_laysEnd) (C := 1) dX12_laysEnd_105 108 rfl rfl (by decide) rfl rfl (by decide) (by omega) (by omega) (fun v82 ev82 => ?_)
                              show PV _ _ _ _ _ _ _ 108 [.ref 123, .int x0, .int y18, .int y30, .int v81, .int v82] [] _
                              refine pv_goto (M := mX12_laysEnd) (tgt := 59) dX12_laysEnd_108 (by decide) ?_
                              exact ih53 v81 v82 (by first | omega | assumption | exact (iv_rng _).2 | exact (iv_rng _).1 | decide) (by first | omega | assumption | exact (iv_rng _).2 | exact (iv_rng _).1 | decide) (by omega)
                    have z83 : (0 : Int32).toInt = 0 := by decide
                    exact lp52 (((8 - 0) : Int).toNat + 1) v44 0 (by first | omega | assumption | exact (iv_rng _).2 | exact (iv_rng _).1 | decide) (by first | omega | assumption | exact (iv_rng _).2 | exact (iv_rng _).1 | decide) (by omega)
              have z84 : (0 : Int32).toInt = 0 := by decide
              exact lp36 (((256 - 0) : Int).toNat + 1) 0 m19 n20 (by first | omega | assumption | exact (iv_rng _).2 | exact (iv_rng _).1 | decide) (by first | omega | assumption | exact (iv_rng _).2 | exact (iv_rng _).1 | decide) I21 K22 (by omega)
        have z85 : (7 : Int32).toInt = 7 := by decide
        exact lp24 (((7 - (-1)) : Int).toNat + 1) 7 m7 n8 (by first | omega | assumption | exact (iv_rng _).2 | exact (iv_rng _).1 | decide) (by first | omega | assumption | exact (iv_rng _).2 | exact (iv_rng _).1 | decide) I9 K10 (by omega)
      · have c17 := iv_nle (X := 256) (Y := y6.toInt) c17 (by decide) rfl
        refine pv_aload_n (M := mX12_laysEnd) 0 dX12_laysEnd_13 14 rfl rfl rfl ?_
        refine mv_get (M := mX12_laysEnd) (v := .ref 166) dX12_laysEnd_14 FX12 60 wd1233 (by decide) (tl123 hT) rfl rfl 17 rfl ?_
        refine pv_sipush (M := mX12_laysEnd) (v := 2048) dX12_laysEnd_17 20 rfl (by decide) ?_
        refine pv_iload_n (M := mX12_laysEnd) 2 dX12_laysEnd_20 21 rfl rfl rfl ?_
        refine iv_iadd (M := mX12_laysEnd) (X := 2048) (Y := y6.toInt) dX12_laysEnd_21 22 rfl (by decide) rfl (by omega) (by omega) (fun v86 ev86 => ?_)
        refine pv_iconst (M := mX12_laysEnd) (v := 0) dX12_laysEnd_22 23 rfl (by decide) ?_
        refine iv_iast (M := mX12_laysEnd) (X := v86.toInt) (l1 := (-2147483648)) (l2 := 2147483647) dX12_laysEnd_23 (tl166 hT) rfl (by omega) (by omega) I9 (fun _ => rfl) (by decide) (by decide) 24 rfl (fun m87 e90 I88 => ?_)
        have K89 := K10.set e90 rfl
        refine iv_inc (M := mX12_laysEnd) (C := 1) dX12_laysEnd_24 27 rfl rfl (by decide) rfl rfl (by decide) (by omega) (by omega) (fun v91 ev91 => ?_)
        show PV _ _ _ _ _ _ _ 27 [.ref 123, .int x0, .int v91, pv_U, pv_U, pv_U] [] _
        refine pv_goto (M := mX12_laysEnd) (tgt := 6) dX12_laysEnd_27 (by decide) ?_
        exact ih13 v91 m87 n8 (by first | omega | assumption | exact (iv_rng _).2 | exact (iv_rng _).1 | decide) (by first | omega | assumption | exact (iv_rng _).2 | exact (iv_rng _).1 | decide) I88 K89 (by omega)
  have z92 : (0 : Int32).toInt = 0 := by decide
  exact lp12 (((256 - 0) : Int).toNat + 1) 0 m2 n3 (by first | omega | assumption | exact (iv_rng _).2 | exact (iv_rng _).1 | decide) (by first | omega | assumption | exact (iv_rng _).2 | exact (iv_rng _).1 | decide) I4 K5 (by omega)

set_option maxHeartbeats 2000000 in
set_option maxRecDepth 20000 in
theorem s_X12_laysLong (g : pv_G) {T : List mv_T} {m : Nat → Nat → Int32} {n : Nat → Nat → Int64} {r : Nat → Value} (hT : TX T) (I : IV BB m) : PM g mX12_laysLong yX12_laysLong (sqV T BB (wl [(168, 168, none)]) r m (fun m' => LTu m' (-1))) 2 0 0 [.ref 123] (mk T m n r) := by
  have Kp : fr (wl [(168, 168, none)]) m m := fr.rf
  refine PM.of 4 (lo := [.ref 123, pv_U, pv_U, pv_U, pv_U]) rfl (by decide) rfl rfl (Nat.le_of_ble_eq_true rfl) ?_
  refine pv_sipush (M := mX12_laysLong) (v := 255) dX12_laysLong_0 3 rfl (by decide) ?_
  refine pv_istore_n (M := mX12_laysLong) 1 (lo2 := [.ref 123, .int 255, pv_U, pv_U, pv_U]) dX12_laysLong_3 4 rfl rfl (by decide) rfl rfl ?_
  have lp7 : ∀ (fuel6 : Nat) (y1 : Int32) (m2 : Nat → Nat → Int32) (n3 : Nat → Nat → Int64), (-1 ≤ y1.toInt) → (y1.toInt ≤ 255) → (LTu m2 y1.toInt) → IV BB m2 → fr (wl [(168, 168, none)]) m m2 → ((y1.toInt - (-1)) : Int).toNat < fuel6 → PV none g mX12_laysLong (sqV T BB (wl [(168, 168, none)]) r m (fun m' => LTu m' (-1))) 2 0 0 4 [.ref 123, .int y1, pv_U, pv_U, pv_U] [] (mk T m2 n3 r) := by
    intro fuel6
    induction fuel6 with
    | zero => intro y1 m2 n3 b9 b10 b11 I4 K5 z12; omega
    | succ fuel6 ih8 =>
      intro y1 m2 n3 b9 b10 b11 I4 K5 z12
      have kg1 := (show LTu m2 y1.toInt by assumption)
      refine pv_iload_n (M := mX12_laysLong) 1 dX12_laysLong_4 5 rfl rfl rfl ?_
      refine pv_if_lt (M := mX12_laysLong) (tgt := 84) dX12_laysLong_5 8 rfl (by decide) (fun c14 => ?_) (fun c14 => ?_)
      · have c14 := iv_lt (X := y1.toInt) (Y := 0) c14 rfl (by decide)
        exact pv_vret (M := mX12_laysLong) dX12_laysLong_84 rfl ⟨_, _, rfl, rfl, I4, K5, (by have q := kg1; rw [show y1.toInt = -1 by omega] at q; exact q)⟩
      · have c14 := iv_nlt (X := y1.toInt) (Y := 0) c14 rfl (by decide)
        refine pv_iconst (M := mX12_laysLong) (v := 0) dX12_laysLong_8 9 rfl (by decide) ?_
        refine pv_istore_n (M := mX12_laysLong) 2 (lo2 := [.ref 123, .int y1, .int 0, pv_U, pv_U]) dX12_laysLong_9 10 rfl rfl (by decide) rfl rfl ?_
        have lp21 : ∀ (fuel20 : Nat) (y15 : Int32) (m16 : Nat → Nat → Int32) (n17 : Nat → Nat → Int64), (0 ≤ y15.toInt) → (y15.toInt ≤ 9) → (LTu m16 y1.toInt) → (LTl m16 y1 y15.toInt) → IV BB m16 → fr (wl [(168, 168, none)]) m m16 → ((9 - y15.toInt) : Int).toNat < fuel20 → PV none g mX12_laysLong (sqV T BB (wl [(168, 168, none)]) r m (fun m' => LTu m' (-1))) 2 0 0 10 [.ref 123, .int y1, .int y15, pv_U, pv_U] [] (mk T m16 n17 r) := by
          intro fuel20
          induction fuel20 with
          | zero => intro y15 m16 n17 b23 b24 b25 b26 I18 K19 z27; omega
          | succ fuel20 ih22 =>
            intro y15 m16 n17 b23 b24 b25 b26 I18 K19 z27
            have kg2 := (show LTu m16 y1.toInt by assumption)
            have kg3 := (show LTl m16 y1 y15.toInt by assumption)
            refine pv_iload_n (M := mX12_laysLong) 2 dX12_laysLong_10 11 rfl rfl rfl ?_
            refine pv_bipush (M := mX12_laysLong) (v := 9) dX12_laysLong_11 13 rfl (by decide) ?_
            refine pv_icmp_ge (M := mX12_laysLong) (tgt := 78) dX12_laysLong_13 16 rfl (by decide) (fun c30 => ?_) (fun c30 => ?_)
            · have c30 := iv_le (X := 9) (Y := y15.toInt) c30 (by decide) rfl
              have k78 : LTl m16 y1 9 := by have q := kg3; rw [show y15.toInt = 9 by omega] at q; exact q
              refine iv_inc (M := mX12_laysLong) (C := (-1)) dX12_laysLong_78 81 rfl rfl (by decide) rfl rfl (by decide) (by omega) (by omega) (fun v32 ev32 => ?_)
              show PV _ _ _ _ _ _ _ 81 [.ref 123, .int v32, .int y15, pv_U, pv_U] [] _
              refine pv_goto (M := mX12_laysLong) (tgt := 4) dX12_laysLong_81 (by decide) ?_
              refine pv_fg (lo2 := [.ref 123, .int v32, pv_U, pv_U, pv_U]) ⟨Or.inr rfl, ⟨Or.inr rfl, ⟨Or.inl rfl, ⟨Or.inl rfl, ⟨Or.inl rfl, trivial⟩⟩⟩⟩⟩ ?_
              have kb1 : LTu m16 v32.toInt := LTu_next (u := y1) kg2 k78 (by omega) (by omega)
              exact ih8 v32 m16 n17 (by first | omega | assumption | exact (iv_rng _).2 | exact (iv_rng _).1 | decide) (by first | omega | assumption | exact (iv_rng _).2 | exact (iv_rng _).1 | decide) kb1 I18 K19 (by omega)
            · have c30 := iv_nle (X := 9) (Y := y15.toInt) c30 (by decide) rfl
              refine pv_iconst (M := mX12_laysLong) (v := 0) dX12_laysLong_16 17 rfl (by decide) ?_
              refine pv_istore_n (M := mX12_laysLong) 3 (lo2 := [.ref 123, .int y1, .int y15, .int 0, pv_U]) dX12_laysLong_17 18 rfl rfl (by decide) rfl rfl ?_
              refine pv_iconst (M := mX12_laysLong) (v := 0) dX12_laysLong_18 19 rfl (by decide) ?_
              refine pv_istore (M := mX12_laysLong) (lo2 := [.ref 123, .int y1, .int y15, .int 0, .int 0]) dX12_laysLong_19 21 rfl (by decide) rfl rfl ?_
              have lp41 : ∀ (fuel40 : Nat) (y34 : Int32) (y35 : Int32), (0 ≤ y34.toInt) → (y34.toInt ≤ 2147483647) → (0 ≤ y35.toInt) → (y35.toInt ≤ 8) → (LBB m16 y15 y1 y34) → ((8 - y35.toInt) : Int).toNat < fuel40 → PV none g mX12_laysLong (sqV T BB (wl [(168, 168, none)]) r m (fun m' => LTu m' (-1))) 2 0 0 21 [.ref 123, .int y1, .int y15, .int y34, .int y35] [] (mk T m16 n17 r) := by
                intro fuel40
                induction fuel40 with
                | zero => intro y34 y35 b43 b44 b45 b46 b47 z48; omega
                | succ fuel40 ih42 =>
                  intro y34 y35 b43 b44 b45 b46 b47 z48
                  have kg4 := (show LBB m16 y15 y1 y34 by assumption)
                  refine pv_iload (M := mX12_laysLong) dX12_laysLong_21 23 rfl rfl ?_
                  refine pv_bipush (M := mX12_laysLong) (v := 8) dX12_laysLong_23 25 rfl (by decide) ?_
                  refine pv_icmp_ge (M := mX12_laysLong) (tgt := 59) dX12_laysLong_25 28 rfl (by decide) (fun c50 => ?_) (fun c50 => ?_)
                  · have c50 := iv_le (X := 8) (Y := y35.toInt) c50 (by decide) rfl
                    refine pv_aload_n (M := mX12_laysLong) 0 dX12_laysLong_59 60 rfl rfl rfl ?_
                    refine mv_get (M := mX12_laysLong) (v := .ref 168) dX12_laysLong_60 FX12 63 wd1236 (by decide) (tl123 hT) rfl rfl 63 rfl ?_
                    refine pv_sipush (M := mX12_laysLong) (v := 256) dX12_laysLong_63 66 rfl (by decide) ?_
                    refine pv_iload_n (M := mX12_laysLong) 2 dX12_laysLong_66 67 rfl rfl rfl ?_
                    refine iv_imul (M := mX12_laysLong) (X := 256) (Y := y15.toInt) dX12_laysLong_67 68 rfl (by decide) rfl (by omega) (by omega) (fun v51 ev51 => ?_)
                    refine pv_iload_n (M := mX12_laysLong) 1 dX12_laysLong_68 69 rfl rfl rfl ?_
                    refine iv_iadd (M := mX12_laysLong) (X := v51.toInt) (Y := y1.toInt) dX12_laysLong_69 70 rfl rfl rfl (by omega) (by omega) (fun v52 ev52 => ?_)
                    refine pv_iload_n (M := mX12_laysLong) 3 dX12_laysLong_70 71 rfl rfl rfl ?_
                    refine iv_iast (M := mX12_laysLong) (X := v52.toInt) (l1 := (-2147483648)) (l2 := 2147483647) dX12_laysLong_71 (tl168 hT) rfl (by omega) (by omega) I18 (fun _ => rfl) (iv_rng y34).1 (iv_rng y34).2 72 rfl (fun m53 e56 I54 => ?_)
                    have K55 := K19.set e56 rfl
                    have k72 := (e56).trans (up2_ix (j := (256 * y15.toInt + y1.toInt).toNat) (by omega))
                    have kb2 := LTu_set kg2 k72 (by omega) (by omega) (by omega) (by omega)
                    have kb3x := LTl_set kg3 k72 (by omega) (by omega) (by omega) (by omega) kg4
                    refine iv_inc (M := mX12_laysLong) (C := 1) dX12_laysLong_72 75 rfl rfl (by decide) rfl rfl (by decide) (by omega) (by omega) (fun v60 ev60 => ?_)
                    show PV _ _ _ _ _ _ _ 75 [.ref 123, .int y1, .int v60, .int y34, .int y35] [] _
                    refine pv_goto (M := mX12_laysLong) (tgt := 10) dX12_laysLong_75 (by decide) ?_
                    refine pv_fg (lo2 := [.ref 123, .int y1, .int v60, pv_U, pv_U]) ⟨Or.inr rfl, ⟨Or.inr rfl, ⟨Or.inr rfl, ⟨Or.inl rfl, ⟨Or.inl rfl, trivial⟩⟩⟩⟩⟩ ?_
                    have kb3 : LTl m53 y1 v60.toInt := by rw [show v60.toInt = y15.toInt + 1 by omega]; exact kb3x
                    exact ih22 v60 m53 n17 (by first | omega | assumption | exact (iv_rng _).2 | exact (iv_rng _).1 | decide) (by first | omega | assumption | exact (iv_rng _).2 | exact (iv_rng _).1 | decide) kb2 kb3 I54 K55 (by omega)
                  · have c50 := iv_nle (X := 8) (Y := y35.toInt) c50 (by decide) rfl
                    refine pv_aload_n (M := mX12_laysLong) 0 dX12_laysLong_28 29 rfl rfl rfl ?_
                    refine pv_iload_n (M := mX12_laysLong) 2 dX12_laysLong_29 30 rfl rfl rfl ?_
                    refine pv_iload (M := mX12_laysLong) dX12_laysLong_30 32 rfl rfl ?_
                    refine pv_iload_n (M := mX12_laysLong) 1 dX12_laysLong_32 33 rfl rfl rfl ?_
                    refine pv_callv (M := mX12_laysLong) (as := [.int y15, .int y35, .int y1]) (st := []) (kc2 := 0) (ks2 := 0) dX12_laysLong_33 wd1769 YX12_longBy ⟨wd1771, wd121⟩ (mk_get (tl123 hT)) rfl rfl (s_X12_longBy g hT I18 y15 (by omega) (by omega) y35 (by omega) (by omega) y1 (by omega) (by omega)) rfl rfl (Nat.le_of_ble_eq_true rfl) (by decide) rfl rfl 36 rfl (fun rv h1 q62 => ?_)
                    obtain ⟨v63, rfl, rfl, pv63, qv63, rv63⟩ := q62
                    replace rv63 : LBv m16 y15 y35 y1 v63 := rv63
                    show PV _ _ _ _ _ _ _ 36 [.ref 123, .int y1, .int y15, .int y34, .int y35] [.int v63] _
                    have kr1 := rv63
                    refine pv_iload_n (M := mX12_laysLong) 3 dX12_laysLong_36 37 rfl rfl rfl ?_
                    refine pv_icmp_le (M := mX12_laysLong) (tgt := 51) dX12_laysLong_37 40 rfl (by decide) (fun c65 => ?_) (fun c65 => ?_)
                    · have c65 := iv_le (X := v63.toInt) (Y := y34.toInt) c65 rfl rfl
                      refine pv_iload_n (M := mX12_laysLong) 3 dX12_laysLong_51 52 rfl rfl rfl ?_
                      refine pv_istore_n (M := mX12_laysLong) 3 (lo2 := [.ref 123, .int y1, .int y15, .int y34, .int y35]) dX12_laysLong_52 53 rfl rfl (by decide) rfl rfl ?_
                      refine iv_inc (M := mX12_laysLong) (C := 1) dX12_laysLong_53 56 rfl rfl (by decide) rfl rfl (by decide) (by omega) (by omega) (fun v66 ev66 => ?_)
                      show PV _ _ _ _ _ _ _ 56 [.ref 123, .int y1, .int y15, .int y34, .int v66] [] _
                      refine pv_goto (M := mX12_laysLong) (tgt := 21) dX12_laysLong_56 (by decide) ?_
                      have kb4 : LBB m16 y15 y1 y34 := by first | exact LBB.of (i := y35) (by omega) (by omega) kr2 | exact kg4
                      exact ih42 y34 v66 (by first | omega | assumption | exact (iv_rng _).2 | exact (iv_rng _).1 | decide) (by first | omega | assumption | exact (iv_rng _).2 | exact (iv_rng _).1 | decide) (by first | omega | assumption | exact (iv_rng _).2 | exact (iv_rng _).1 | decide) (by first | omega | assumption | exact (iv_rng _).2 | exact (iv_rng _).1 | decide) kb4 (by omega)
                    · have c65 := iv_nle (X := v63.toInt) (Y := y34.toInt) c65 rfl rfl
                      refine pv_aload_n (M := mX12_laysLong) 0 dX12_laysLong_40 41 rfl rfl rfl ?_
                      refine pv_iload_n (M := mX12_laysLong) 2 dX12_laysLong_41 42 rfl rfl rfl ?_
                      refine pv_iload (M := mX12_laysLong) dX12_laysLong_42 44 rfl rfl ?_
                      refine pv_iload_n (M := mX12_laysLong) 1 dX12_laysLong_44 45 rfl rfl rfl ?_
                      refine pv_callv (M := mX12_laysLong) (as := [.int y15, .int y35, .int y1]) (st := []) (kc2 := 0) (ks2 := 0) dX12_laysLong_45 wd1769 YX12_longBy ⟨wd1771, wd121⟩ (mk_get (tl123 hT)) rfl rfl (s_X12_longBy g hT I18 y15 (by omega) (by omega) y35 (by omega) (by omega) y1 (by omega) (by omega)) rfl rfl (Nat.le_of_ble_eq_true rfl) (by decide) rfl rfl 48 rfl (fun rv h1 q68 => ?_)
                      obtain ⟨v69, rfl, rfl, pv69, qv69, rv69⟩ := q68
                      replace rv69 : LBv m16 y15 y35 y1 v69 := rv69
                      show PV _ _ _ _ _ _ _ 48 [.ref 123, .int y1, .int y15, .int y34, .int y35] [.int v69] _
                      have kr2 := rv69
                      have kfn := congrArg Int32.toInt (LBv_fn kr1 kr2)
                      refine pv_goto (M := mX12_laysLong) (tgt := 52) dX12_laysLong_48 (by decide) ?_
                      refine pv_istore_n (M := mX12_laysLong) 3 (lo2 := [.ref 123, .int y1, .int y15, .int v69, .int y35]) dX12_laysLong_52 53 rfl rfl (by decide) rfl rfl ?_
                      refine iv_inc (M := mX12_laysLong) (C := 1) dX12_laysLong_53 56 rfl rfl (by decide) rfl rfl (by decide) (by omega) (by omega) (fun v72 ev72 => ?_)
                      show PV _ _ _ _ _ _ _ 56 [.ref 123, .int y1, .int y15, .int v69, .int v72] [] _
                      refine pv_goto (M := mX12_laysLong) (tgt := 21) dX12_laysLong_56 (by decide) ?_
                      have kb4 : LBB m16 y15 y1 v69 := by first | exact LBB.of (i := y35) (by omega) (by omega) kr2 | exact kg4
                      exact ih42 v69 v72 (by first | omega | assumption | exact (iv_rng _).2 | exact (iv_rng _).1 | decide) (by first | omega | assumption | exact (iv_rng _).2 | exact (iv_rng _).1 | decide) (by first | omega | assumption | exact (iv_rng _).2 | exact (iv_rng _).1 | decide) (by first | omega | assumption | exact (iv_rng _).2 | exact (iv_rng _).1 | decide) kb4 (by omega)
              have z74 : (0 : Int32).toInt = 0 := by decide
              have z75 : (0 : Int32).toInt = 0 := by decide
              exact lp41 (((8 - 0) : Int).toNat + 1) 0 0 (by first | omega | assumption | exact (iv_rng _).2 | exact (iv_rng _).1 | decide) (by first | omega | assumption | exact (iv_rng _).2 | exact (iv_rng _).1 | decide) (by first | omega | assumption | exact (iv_rng _).2 | exact (iv_rng _).1 | decide) (by first | omega | assumption | exact (iv_rng _).2 | exact (iv_rng _).1 | decide) (LBB.z (by omega)) (by omega)
        have z76 : (0 : Int32).toInt = 0 := by decide
        exact lp21 (((9 - 0) : Int).toNat + 1) 0 m2 n3 (by first | omega | assumption | exact (iv_rng _).2 | exact (iv_rng _).1 | decide) (by first | omega | assumption | exact (iv_rng _).2 | exact (iv_rng _).1 | decide) kg1 (fun l a1 a2 => by omega) I4 K5 (by omega)
  have z77 : (255 : Int32).toInt = 255 := by decide
  exact lp7 (((255 - (-1)) : Int).toNat + 1) 255 m n (by first | omega | assumption | exact (iv_rng _).2 | exact (iv_rng _).1 | decide) (by first | omega | assumption | exact (iv_rng _).2 | exact (iv_rng _).1 | decide) (fun l u a1 a2 a3 a4 a5 => by omega) I Kp (by omega)

set_option maxHeartbeats 2000000 in
set_option maxRecDepth 20000 in
theorem s_X12_laysFollows (g : pv_G) {T : List mv_T} {m : Nat → Nat → Int32} {n : Nat → Nat → Int64} {r : Nat → Value} (hT : TX T) (I : IV BB m) (x0 : Int32) (hl0 : 0 ≤ x0.toInt) (hh0 : x0.toInt ≤ 7) : PM g mX12_laysFollows yX12_laysFollows (sqV T BB (wl [(123, 123, some 40), (123, 123, some 41), (149, 149, none), (150, 150, none), (167, 167, none)]) r m (fun m' => True)) 2 0 0 [.ref 123, .int x0] (mk T m n r) := by
  have Kp : fr (wl [(123, 123, some 40), (123, 123, some 41), (149, 149, none), (150, 150, none), (167, 167, none)]) m m := fr.rf
  refine PM.of 2 (lo := [.ref 123, .int x0, pv_U, pv_U]) rfl (by decide) rfl rfl (Nat.le_of_ble_eq_true rfl) ?_
  refine pv_iconst (M := mX12_laysFollows) (v := 0) dX12_laysFollows_0 1 rfl (by decide) ?_
  refine pv_istore_n (M := mX12_laysFollows) 2 (lo2 := [.ref 123, .int x0, .int 0, pv_U]) dX12_laysFollows_1 2 rfl rfl (by decide) rfl rfl ?_
  have lp7 : ∀ (fuel6 : Nat) (y1 : Int32) (m2 : Nat → Nat → Int32) (n3 : Nat → Nat → Int64), (0 ≤ y1.toInt) → (y1.toInt ≤ 9) → IV BB m2 → fr (wl [(123, 123, some 40), (123, 123, some 41), (149, 149, none), (150, 150, none), (167, 167, none)]) m m2 → ((9 - y1.toInt) : Int).toNat < fuel6 → PV none g mX12_laysFollows (sqV T BB (wl [(123, 123, some 40), (123, 123, some 41), (149, 149, none), (150, 150, none), (167, 167, none)]) r m (fun m' => True)) 2 0 0 2 [.ref 123, .int x0, .int y1, pv_U] [] (mk T m2 n3 r) := by
    intro fuel6
    induction fuel6 with
    | zero => intro y1 m2 n3 b9 b10 I4 K5 z11; omega
    | succ fuel6 ih8 =>
      intro y1 m2 n3 b9 b10 I4 K5 z11
      refine pv_iload_n (M := mX12_laysFollows) 2 dX12_laysFollows_2 3 rfl rfl rfl ?_
      refine pv_bipush (M := mX12_laysFollows) (v := 9) dX12_laysFollows_3 5 rfl (by decide) ?_
      refine pv_icmp_ge (M := mX12_laysFollows) (tgt := 120) dX12_laysFollows_5 8 rfl (by decide) (fun c12 => ?_) (fun c12 => ?_)
      · have c12 := iv_le (X := 9) (Y := y1.toInt) c12 (by decide) rfl
        exact pv_vret (M := mX12_laysFollows) dX12_laysFollows_120 rfl ⟨_, _, rfl, rfl, I4, K5, trivial⟩
      · have c12 := iv_nle (X := 9) (Y := y1.toInt) c12 (by decide) rfl
        refine pv_iload_n (M := mX12_laysFollows) 2 dX12_laysFollows_8 9 rfl rfl rfl ?_
        refine pv_bipush (M := mX12_laysFollows) (v := 8) dX12_laysFollows_9 11 rfl (by decide) ?_
        refine pv_icmp_ne (M := mX12_laysFollows) (tgt := 23) dX12_laysFollows_11 14 rfl (by decide) (fun c13 => ?_) (fun c13 => ?_)
        · have c13 := iv_ne (X := y1.toInt) (Y := 8) c13 rfl (by decide)
          refine pv_aload_n (M := mX12_laysFollows) 0 dX12_laysFollows_23 24 rfl rfl rfl ?_
          refine pv_iload_n (M := mX12_laysFollows) 2 dX12_laysFollows_24 25 rfl rfl rfl ?_
          refine pv_callv (M := mX12_laysFollows) (as := [.int y1]) (st := []) (kc2 := 0) (ks2 := 0) dX12_laysFollows_25 wd1558 YX12_isDeed ⟨wd1560, wd87⟩ (mk_get (tl123 hT)) rfl rfl (s_X12_isDeed g hT I4 y1) rfl rfl (Nat.le_of_ble_eq_true rfl) (by decide) rfl rfl 28 rfl (fun rv h1 q14 => ?_)
          obtain ⟨v15, rfl, rfl, pv15, qv15, rv15⟩ := q14
          replace rv15 : v15 = 0 ∨ (0 ≤ y1.toInt ∧ y1.toInt ≤ 7) := rv15
          show PV _ _ _ _ _ _ _ 28 [.ref 123, .int x0, .int y1, pv_U] [.int v15] _
          refine pv_if_eq (M := mX12_laysFollows) (tgt := 36) dX12_laysFollows_28 31 rfl (by decide) (fun c16 => ?_) (fun c16 => ?_)
          · have c16 := iv_eq (X := v15.toInt) (Y := 0) c16 rfl (by decide)
            refine pv_iconst (M := mX12_laysFollows) (v := 0) dX12_laysFollows_36 37 rfl (by decide) ?_
            refine pv_istore_n (M := mX12_laysFollows) 3 (lo2 := [.ref 123, .int x0, .int y1, .int 0]) dX12_laysFollows_37 38 rfl rfl (by decide) rfl rfl ?_
            have lp23 : ∀ (fuel22 : Nat) (y17 : Int32) (m18 : Nat → Nat → Int32) (n19 : Nat → Nat → Int64), (0 ≤ y17.toInt) → (y17.toInt ≤ 8) → IV BB m18 → fr (wl [(123, 123, some 40), (123, 123, some 41), (149, 149, none), (150, 150, none), (167, 167, none)]) m m18 → ((8 - y17.toInt) : Int).toNat < fuel22 → PV none g mX12_laysFollows (sqV T BB (wl [(123, 123, some 40), (123, 123, some 41), (149, 149, none), (150, 150, none), (167, 167, none)]) r m (fun m' => True)) 2 0 0 38 [.ref 123, .int x0, .int y1, .int y17] [] (mk T m18 n19 r) := by
              intro fuel22
              induction fuel22 with
              | zero => intro y17 m18 n19 b25 b26 I20 K21 z27; omega
              | succ fuel22 ih24 =>
                intro y17 m18 n19 b25 b26 I20 K21 z27
                refine pv_iload_n (M := mX12_laysFollows) 3 dX12_laysFollows_38 39 rfl rfl rfl ?_
                refine pv_bipush (M := mX12_laysFollows) (v := 8) dX12_laysFollows_39 41 rfl (by decide) ?_
                refine pv_icmp_ge (M := mX12_laysFollows) (tgt := 114) dX12_laysFollows_41 44 rfl (by decide) (fun c28 => ?_) (fun c28 => ?_)
                · have c28 := iv_le (X := 8) (Y := y17.toInt) c28 (by decide) rfl
                  refine iv_inc (M := mX12_laysFollows) (C := 1) dX12_laysFollows_114 117 rfl rfl (by decide) rfl rfl (by decide) (by omega) (by omega) (fun v29 ev29 => ?_)
                  show PV _ _ _ _ _ _ _ 117 [.ref 123, .int x0, .int v29, .int y17] [] _
                  refine pv_goto (M := mX12_laysFollows) (tgt := 2) dX12_laysFollows_117 (by decide) ?_
                  refine pv_fg (lo2 := [.ref 123, .int x0, .int v29, pv_U]) ⟨Or.inr rfl, ⟨Or.inr rfl, ⟨Or.inr rfl, ⟨Or.inl rfl, trivial⟩⟩⟩⟩ ?_
                  exact ih8 v29 m18 n19 (by first | omega | assumption | exact (iv_rng _).2 | exact (iv_rng _).1 | decide) (by first | omega | assumption | exact (iv_rng _).2 | exact (iv_rng _).1 | decide) I20 K21 (by omega)
                · have c28 := iv_nle (X := 8) (Y := y17.toInt) c28 (by decide) rfl
                  refine pv_aload_n (M := mX12_laysFollows) 0 dX12_laysFollows_44 45 rfl rfl rfl ?_
                  refine pv_iload_n (M := mX12_laysFollows) 3 dX12_laysFollows_45 46 rfl rfl rfl ?_
                  refine pv_callv (M := mX12_laysFollows) (as := [.int y17]) (st := []) (kc2 := 0) (ks2 := 0) dX12_laysFollows_46 wd1558 YX12_isDeed ⟨wd1560, wd87⟩ (mk_get (tl123 hT)) rfl rfl (s_X12_isDeed g hT I20 y17) rfl rfl (Nat.le_of_ble_eq_true rfl) (by decide) rfl rfl 49 rfl (fun rv h1 q30 => ?_)
                  obtain ⟨v31, rfl, rfl, pv31, qv31, rv31⟩ := q30
                  replace rv31 : v31 = 0 ∨ (0 ≤ y17.toInt ∧ y17.toInt ≤ 7) := rv31
                  show PV _ _ _ _ _ _ _ 49 [.ref 123, .int x0, .int y1, .int y17] [.int v31] _
                  refine pv_if_eq (M := mX12_laysFollows) (tgt := 57) dX12_laysFollows_49 52 rfl (by decide) (fun c32 => ?_) (fun c32 => ?_)
                  · have c32 := iv_eq (X := v31.toInt) (Y := 0) c32 rfl (by decide)
                    refine pv_aload_n (M := mX12_laysFollows) 0 dX12_laysFollows_57 58 rfl rfl rfl ?_
                    refine mv_get (M := mX12_laysFollows) (v := .ref 167) dX12_laysFollows_58 FX12 62 wd1235 (by decide) (tl123 hT) rfl rfl 61 rfl ?_
                    refine pv_bipush (M := mX12_laysFollows) (v := 8) dX12_laysFollows_61 63 rfl (by decide) ?_
                    refine pv_iload_n (M := mX12_laysFollows) 2 dX12_laysFollows_63 64 rfl rfl rfl ?_
                    refine iv_imul (M := mX12_laysFollows) (X := 8) (Y := y1.toInt) dX12_laysFollows_64 65 rfl (by decide) rfl (by omega) (by omega) (fun v33 ev33 => ?_)
                    refine pv_iload_n (M := mX12_laysFollows) 3 dX12_laysFollows_65 66 rfl rfl rfl ?_
                    refine iv_iadd (M := mX12_laysFollows) (X := v33.toInt) (Y := y17.toInt) dX12_laysFollows_66 67 rfl rfl rfl (by omega) (by omega) (fun v34 ev34 => ?_)
                    refine pv_iload_n (M := mX12_laysFollows) 3 dX12_laysFollows_67 68 rfl rfl rfl ?_
                    refine pv_iload_n (M := mX12_laysFollows) 2 dX12_laysFollows_68 69 rfl rfl rfl ?_
                    refine pv_icmp_eq (M := mX12_laysFollows) (tgt := 106) dX12_laysFollows_69 72 rfl (by decide) (fun c35 => ?_) (fun c35 => ?_)
                    · have c35 := iv_eq (X := y17.toInt) (Y := y1.toInt) c35 rfl rfl
                      refine pv_iconst (M := mX12_laysFollows) (v := 0) dX12_laysFollows_106 107 rfl (by decide) ?_
                      refine iv_zast (M := mX12_laysFollows) (X := v34.toInt) (l1 := 0) (l2 := 1) dX12_laysFollows_107 (tl167 hT) rfl (by omega) (by omega) I20 (fun _ => rfl) (y := 0) (by decide) (by decide) (by decide) 108 rfl (fun m36 e39 I37 => ?_)
                      have K38 := K21.set e39 rfl
                      refine iv_inc (M := mX12_laysFollows) (C := 1) dX12_laysFollows_108 111 rfl rfl (by decide) rfl rfl (by decide) (by omega) (by omega) (fun v40 ev40 => ?_)
                      show PV _ _ _ _ _ _ _ 111 [.ref 123, .int x0, .int y1, .int v40] [] _
                      refine pv_goto (M := mX12_laysFollows) (tgt := 38) dX12_laysFollows_111 (by decide) ?_
                      exact ih24 v40 m36 n19 (by first | omega | assumption | exact (iv_rng _).2 | exact (iv_rng _).1 | decide) (by first | omega | assumption | exact (iv_rng _).2 | exact (iv_rng _).1 | decide) I37 K38 (by omega)
                    · have c35 := iv_ne (X := y17.toInt) (Y := y1.toInt) c35 rfl rfl
                      refine pv_aload_n (M := mX12_laysFollows) 0 dX12_laysFollows_72 73 rfl rfl rfl ?_
                      refine pv_iload_n (M := mX12_laysFollows) 3 dX12_laysFollows_73 74 rfl rfl rfl ?_
                      refine pv_callv (M := mX12_laysFollows) (as := [.int y17]) (st := [.int v34, .ref 167]) (kc2 := 0) (ks2 := 0) dX12_laysFollows_74 wd1558 YX12_isDeed ⟨wd1560, wd87⟩ (mk_get (tl123 hT)) rfl rfl (s_X12_isDeed g hT I20 y17) rfl rfl (Nat.le_of_ble_eq_true rfl) (by decide) rfl rfl 77 rfl (fun rv h1 q41 => ?_)
                      obtain ⟨v42, rfl, rfl, pv42, qv42, rv42⟩ := q41
                      replace rv42 : v42 = 0 ∨ (0 ≤ y17.toInt ∧ y17.toInt ≤ 7) := rv42
                      show PV _ _ _ _ _ _ _ 77 [.ref 123, .int x0, .int y1, .int y17] [.int v42, .int v34, .ref 167] _
                      refine pv_if_eq (M := mX12_laysFollows) (tgt := 106) dX12_laysFollows_77 80 rfl (by decide) (fun c43 => ?_) (fun c43 => ?_)
                      · have c43 := iv_eq (X := v42.toInt) (Y := 0) c43 rfl (by decide)
                        refine pv_iconst (M := mX12_laysFollows) (v := 0) dX12_laysFollows_106 107 rfl (by decide) ?_
                        refine iv_zast (M := mX12_laysFollows) (X := v34.toInt) (l1 := 0) (l2 := 1) dX12_laysFollows_107 (tl167 hT) rfl (by omega) (by omega) I20 (fun _ => rfl) (y := 0) (by decide) (by decide) (by decide) 108 rfl (fun m44 e47 I45 => ?_)
                        have K46 := K21.set e47 rfl
                        refine iv_inc (M := mX12_laysFollows) (C := 1) dX12_laysFollows_108 111 rfl rfl (by decide) rfl rfl (by decide) (by omega) (by omega) (fun v48 ev48 => ?_)
                        show PV _ _ _ _ _ _ _ 111 [.ref 123, .int x0, .int y1, .int v48] [] _
                        refine pv_goto (M := mX12_laysFollows) (tgt := 38) dX12_laysFollows_111 (by decide) ?_
                        exact ih24 v48 m44 n19 (by first | omega | assumption | exact (iv_rng _).2 | exact (iv_rng _).1 | decide) (by first | omega | assumption | exact (iv_rng _).2 | exact (iv_rng _).1 | decide) I45 K46 (by omega)
                      · have pc43 := rv42.resolve_left c43
                        have c43 := iv_ne (X := v42.toInt) (Y := 0) c43 rfl (by decide)
                        refine pv_iload_n (M := mX12_laysFollows) 2 dX12_laysFollows_80 81 rfl rfl rfl ?_
                        refine pv_bipush (M := mX12_laysFollows) (v := 8) dX12_laysFollows_81 83 rfl (by decide) ?_
                        refine pv_icmp_eq (M := mX12_laysFollows) (tgt := 94) dX12_laysFollows_83 86 rfl (by decide) (fun c49 => ?_) (fun c49 => ?_)
                        · have c49 := iv_eq (X := y1.toInt) (Y := 8) c49 rfl (by decide)
                          omega
                        · have c49 := iv_ne (X := y1.toInt) (Y := 8) c49 rfl (by decide)
                          refine pv_aload_n (M := mX12_laysFollows) 0 dX12_laysFollows_86 87 rfl rfl rfl ?_
                          refine pv_iload_n (M := mX12_laysFollows) 2 dX12_laysFollows_87 88 rfl rfl rfl ?_
                          refine pv_callv (M := mX12_laysFollows) (as := [.int y1]) (st := [.int v34, .ref 167]) (kc2 := 0) (ks2 := 0) dX12_laysFollows_88 wd1558 YX12_isDeed ⟨wd1560, wd87⟩ (mk_get (tl123 hT)) rfl rfl (s_X12_isDeed g hT I20 y1) rfl rfl (Nat.le_of_ble_eq_true rfl) (by decide) rfl rfl 91 rfl (fun rv h1 q50 => ?_)
                          obtain ⟨v51, rfl, rfl, pv51, qv51, rv51⟩ := q50
                          replace rv51 : v51 = 0 ∨ (0 ≤ y1.toInt ∧ y1.toInt ≤ 7) := rv51
                          show PV _ _ _ _ _ _ _ 91 [.ref 123, .int x0, .int y1, .int y17] [.int v51, .int v34, .ref 167] _
                          refine pv_if_eq (M := mX12_laysFollows) (tgt := 106) dX12_laysFollows_91 94 rfl (by decide) (fun c52 => ?_) (fun c52 => ?_)
                          · have c52 := iv_eq (X := v51.toInt) (Y := 0) c52 rfl (by decide)
                            refine pv_iconst (M := mX12_laysFollows) (v := 0) dX12_laysFollows_106 107 rfl (by decide) ?_
                            refine iv_zast (M := mX12_laysFollows) (X := v34.toInt) (l1 := 0) (l2 := 1) dX12_laysFollows_107 (tl167 hT) rfl (by omega) (by omega) I20 (fun _ => rfl) (y := 0) (by decide) (by decide) (by decide) 108 rfl (fun m53 e56 I54 => ?_)
                            have K55 := K21.set e56 rfl
                            refine iv_inc (M := mX12_laysFollows) (C := 1) dX12_laysFollows_108 111 rfl rfl (by decide) rfl rfl (by decide) (by omega) (by omega) (fun v57 ev57 => ?_)
                            show PV _ _ _ _ _ _ _ 111 [.ref 123, .int x0, .int y1, .int v57] [] _
                            refine pv_goto (M := mX12_laysFollows) (tgt := 38) dX12_laysFollows_111 (by decide) ?_
                            exact ih24 v57 m53 n19 (by first | omega | assumption | exact (iv_rng _).2 | exact (iv_rng _).1 | decide) (by first | omega | assumption | exact (iv_rng _).2 | exact (iv_rng _).1 | decide) I54 K55 (by omega)
                          · have pc52 := rv51.resolve_left c52
                            have c52 := iv_ne (X := v51.toInt) (Y := 0) c52 rfl (by decide)
                            refine pv_aload_n (M := mX12_laysFollows) 0 dX12_laysFollows_94 95 rfl rfl rfl ?_
                            refine pv_iconst (M := mX12_laysFollows) (v := (-1)) dX12_laysFollows_95 96 rfl (by decide) ?_
                            refine pv_callv (M := mX12_laysFollows) (as := [.int (-1)]) (st := [.int v34, .ref 167]) (kc2 := 0) (ks2 := 0) dX12_laysFollows_96 wd1696 YX12_comesWithout ⟨wd1698, wd108⟩ (mk_get (tl123 hT)) rfl rfl (s_X12_comesWithout g hT I20 (-1)) rfl rfl (Nat.le_of_ble_eq_true rfl) (by decide) rfl rfl 99 rfl (fun rv h1 q58 => ?_)
                            obtain ⟨v59, rfl, rfl, pv59, qv59, rv59⟩ := q58
                            show PV _ _ _ _ _ _ _ 99 [.ref 123, .int x0, .int y1, .int y17] [.int v59, .int v34, .ref 167] _
                            refine pv_if_eq (M := mX12_laysFollows) (tgt := 106) dX12_laysFollows_99 102 rfl (by decide) (fun c60 => ?_) (fun c60 => ?_)
                            · have c60 := iv_eq (X := v59.toInt) (Y := 0) c60 rfl (by decide)
                              refine pv_iconst (M := mX12_laysFollows) (v := 0) dX12_laysFollows_106 107 rfl (by decide) ?_
                              refine iv_zast (M := mX12_laysFollows) (X := v34.toInt) (l1 := 0) (l2 := 1) dX12_laysFollows_107 (tl167 hT) rfl (by omega) (by omega) I20 (fun _ => rfl) (y := 0) (by decide) (by decide) (by decide) 108 rfl (fun m61 e64 I62 => ?_)
                              have K63 := K21.set e64 rfl
                              refine iv_inc (M := mX12_laysFollows) (C := 1) dX12_laysFollows_108 111 rfl rfl (by decide) rfl rfl (by decide) (by omega) (by omega) (fun v65 ev65 => ?_)
                              show PV _ _ _ _ _ _ _ 111 [.ref 123, .int x0, .int y1, .int v65] [] _
                              refine pv_goto (M := mX12_laysFollows) (tgt := 38) dX12_laysFollows_111 (by decide) ?_
                              exact ih24 v65 m61 n19 (by first | omega | assumption | exact (iv_rng _).2 | exact (iv_rng _).1 | decide) (by first | omega | assumption | exact (iv_rng _).2 | exact (iv_rng _).1 | decide) I62 K63 (by omega)
                            · have c60 := iv_ne (X := v59.toInt) (Y := 0) c60 rfl (by decide)
                              refine pv_iconst (M := mX12_laysFollows) (v := 1) dX12_laysFollows_102 103 rfl (by decide) ?_
                              refine pv_goto (M := mX12_laysFollows) (tgt := 107) dX12_laysFollows_103 (by decide) ?_
                              refine iv_zast (M := mX12_laysFollows) (X := v34.toInt) (l1 := 0) (l2 := 1) dX12_laysFollows_107 (tl167 hT) rfl (by omega) (by omega) I20 (fun _ => rfl) (y := 1) (by decide) (by decide) (by decide) 108 rfl (fun m66 e69 I67 => ?_)
                              have K68 := K21.set e69 rfl
                              refine iv_inc (M := mX12_laysFollows) (C := 1) dX12_laysFollows_108 111 rfl rfl (by decide) rfl rfl (by decide) (by omega) (by omega) (fun v70 ev70 => ?_)
                              show PV _ _ _ _ _ _ _ 111 [.ref 123, .int x0, .int y1, .int v70] [] _
                              refine pv_goto (M := mX12_laysFollows) (tgt := 38) dX12_laysFollows_111 (by decide) ?_
                              exact ih24 v70 m66 n19 (by first | omega | assumption | exact (iv_rng _).2 | exact (iv_rng _).1 | decide) (by first | omega | assumption | exact (iv_rng _).2 | exact (iv_rng _).1 | decide) I67 K68 (by omega)
                  · have pc32 := rv31.resolve_left c32
                    have c32 := iv_ne (X := v31.toInt) (Y := 0) c32 rfl (by decide)
                    refine pv_aload_n (M := mX12_laysFollows) 0 dX12_laysFollows_52 53 rfl rfl rfl ?_
                    refine pv_iload_n (M := mX12_laysFollows) 3 dX12_laysFollows_53 54 rfl rfl rfl ?_
                    refine pv_callv (M := mX12_laysFollows) (as := [.int y17]) (st := []) (kc2 := 0) (ks2 := 0) dX12_laysFollows_54 wd1567 YX12_laysDeed ⟨wd1569, wd89⟩ (mk_get (tl123 hT)) rfl rfl (s_X12_laysDeed g hT I20 y17 (by omega) (by omega)) rfl rfl (Nat.le_of_ble_eq_true rfl) (by decide) rfl rfl 57 rfl (fun rv h1 q71 => ?_)
                    obtain ⟨m72, n73, rfl, rfl, I74, K75, rm72⟩ := q71
                    have K75c := K75
                    have K75 := K21.trans (K75.sub (wl_sub (by decide)))
                    show PV _ _ _ _ _ _ _ 57 [.ref 123, .int x0, .int y1, .int y17] [] _
                    refine pv_aload_n (M := mX12_laysFollows) 0 dX12_laysFollows_57 58 rfl rfl rfl ?_
                    refine mv_get (M := mX12_laysFollows) (v := .ref 167) dX12_laysFollows_58 FX12 62 wd1235 (by decide) (tl123 hT) rfl rfl 61 rfl ?_
                    refine pv_bipush (M := mX12_laysFollows) (v := 8) dX12_laysFollows_61 63 rfl (by decide) ?_
                    refine pv_iload_n (M := mX12_laysFollows) 2 dX12_laysFollows_63 64 rfl rfl rfl ?_
                    refine iv_imul (M := mX12_laysFollows) (X := 8) (Y := y1.toInt) dX12_laysFollows_64 65 rfl (by decide) rfl (by omega) (by omega) (fun v76 ev76 => ?_)
                    refine pv_iload_n (M := mX12_laysFollows) 3 dX12_laysFollows_65 66 rfl rfl rfl ?_
                    refine iv_iadd (M := mX12_laysFollows) (X := v76.toInt) (Y := y17.toInt) dX12_laysFollows_66 67 rfl rfl rfl (by omega) (by omega) (fun v77 ev77 => ?_)
                    refine pv_iload_n (M := mX12_laysFollows) 3 dX12_laysFollows_67 68 rfl rfl rfl ?_
                    refine pv_iload_n (M := mX12_laysFollows) 2 dX12_laysFollows_68 69 rfl rfl rfl ?_
                    refine pv_icmp_eq (M := mX12_laysFollows) (tgt := 106) dX12_laysFollows_69 72 rfl (by decide) (fun c78 => ?_) (fun c78 => ?_)
                    · have c78 := iv_eq (X := y17.toInt) (Y := y1.toInt) c78 rfl rfl
                      refine pv_iconst (M := mX12_laysFollows) (v := 0) dX12_laysFollows_106 107 rfl (by decide) ?_
                      refine iv_zast (M := mX12_laysFollows) (X := v77.toInt) (l1 := 0) (l2 := 1) dX12_laysFollows_107 (tl167 hT) rfl (by omega) (by omega) I74 (fun _ => rfl) (y := 0) (by decide) (by decide) (by decide) 108 rfl (fun m79 e82 I80 => ?_)
                      have K81 := K75.set e82 rfl
                      refine iv_inc (M := mX12_laysFollows) (C := 1) dX12_laysFollows_108 111 rfl rfl (by decide) rfl rfl (by decide) (by omega) (by omega) (fun v83 ev83 => ?_)
                      show PV _ _ _ _ _ _ _ 111 [.ref 123, .int x0, .int y1, .int v83] [] _
                      refine pv_goto (M := mX12_laysFollows) (tgt := 38) dX12_laysFollows_111 (by decide) ?_
                      exact ih24 v83 m79 n73 (by first | omega | assumption | exact (iv_rng _).2 | exact (iv_rng _).1 | decide) (by first | omega | assumption | exact (iv_rng _).2 | exact (iv_rng _).1 | decide) I80 K81 (by omega)
                    · have c78 := iv_ne (X := y17.toInt) (Y := y1.toInt) c78 rfl rfl
                      refine pv_aload_n (M := mX12_laysFollows) 0 dX12_laysFollows_72 73 rfl rfl rfl ?_
                      refine pv_iload_n (M := mX12_laysFollows) 3 dX12_laysFollows_73 74 rfl rfl rfl ?_
                      refine pv_callv (M := mX12_laysFollows) (as := [.int y17]) (st := [.int v77, .ref 167]) (kc2 := 0) (ks2 := 0) dX12_laysFollows_74 wd1558 YX12_isDeed ⟨wd1560, wd87⟩ (mk_get (tl123 hT)) rfl rfl (s_X12_isDeed g hT I74 y17) rfl rfl (Nat.le_of_ble_eq_true rfl) (by decide) rfl rfl 77 rfl (fun rv h1 q84 => ?_)
                      obtain ⟨v85, rfl, rfl, pv85, qv85, rv85⟩ := q84
                      replace rv85 : v85 = 0 ∨ (0 ≤ y17.toInt ∧ y17.toInt ≤ 7) := rv85
                      show PV _ _ _ _ _ _ _ 77 [.ref 123, .int x0, .int y1, .int y17] [.int v85, .int v77, .ref 167] _
                      refine pv_if_eq (M := mX12_laysFollows) (tgt := 106) dX12_laysFollows_77 80 rfl (by decide) (fun c86 => ?_) (fun c86 => ?_)
                      · have c86 := iv_eq (X := v85.toInt) (Y := 0) c86 rfl (by decide)
                        refine pv_iconst (M := mX12_laysFollows) (v := 0) dX12_laysFollows_106 107 rfl (by decide) ?_
                        refine iv_zast (M := mX12_laysFollows) (X := v77.toInt) (l1 := 0) (l2 := 1) dX12_laysFollows_107 (tl167 hT) rfl (by omega) (by omega) I74 (fun _ => rfl) (y := 0) (by decide) (by decide) (by decide) 108 rfl (fun m87 e90 I88 => ?_)
                        have K89 := K75.set e90 rfl
                        refine iv_inc (M := mX12_laysFollows) (C := 1) dX12_laysFollows_108 111 rfl rfl (by decide) rfl rfl (by decide) (by omega) (by omega) (fun v91 ev91 => ?_)
                        show PV _ _ _ _ _ _ _ 111 [.ref 123, .int x0, .int y1, .int v91] [] _
                        refine pv_goto (M := mX12_laysFollows) (tgt := 38) dX12_laysFollows_111 (by decide) ?_
                        exact ih24 v91 m87 n73 (by first | omega | assumption | exact (iv_rng _).2 | exact (iv_rng _).1 | decide) (by first | omega | assumption | exact (iv_rng _).2 | exact (iv_rng _).1 | decide) I88 K89 (by omega)
                      · have pc86 := rv85.resolve_left c86
                        have c86 := iv_ne (X := v85.toInt) (Y := 0) c86 rfl (by decide)
                        refine pv_iload_n (M := mX12_laysFollows) 2 dX12_laysFollows_80 81 rfl rfl rfl ?_
                        refine pv_bipush (M := mX12_laysFollows) (v := 8) dX12_laysFollows_81 83 rfl (by decide) ?_
                        refine pv_icmp_eq (M := mX12_laysFollows) (tgt := 94) dX12_laysFollows_83 86 rfl (by decide) (fun c92 => ?_) (fun c92 => ?_)
                        · have c92 := iv_eq (X := y1.toInt) (Y := 8) c92 rfl (by decide)
                          omega
                        · have c92 := iv_ne (X := y1.toInt) (Y := 8) c92 rfl (by decide)
                          refine pv_aload_n (M := mX12_laysFollows) 0 dX12_laysFollows_86 87 rfl rfl rfl ?_
                          refine pv_iload_n (M := mX12_laysFollows) 2 dX12_laysFollows_87 88 rfl rfl rfl ?_
                          refine pv_callv (M := mX12_laysFollows) (as := [.int y1]) (st := [.int v77, .ref 167]) (kc2 := 0) (ks2 := 0) dX12_laysFollows_88 wd1558 YX12_isDeed ⟨wd1560, wd87⟩ (mk_get (tl123 hT)) rfl rfl (s_X12_isDeed g hT I74 y1) rfl rfl (Nat.le_of_ble_eq_true rfl) (by decide) rfl rfl 91 rfl (fun rv h1 q93 => ?_)
                          obtain ⟨v94, rfl, rfl, pv94, qv94, rv94⟩ := q93
                          replace rv94 : v94 = 0 ∨ (0 ≤ y1.toInt ∧ y1.toInt ≤ 7) := rv94
                          show PV _ _ _ _ _ _ _ 91 [.ref 123, .int x0, .int y1, .int y17] [.int v94, .int v77, .ref 167] _
                          refine pv_if_eq (M := mX12_laysFollows) (tgt := 106) dX12_laysFollows_91 94 rfl (by decide) (fun c95 => ?_) (fun c95 => ?_)
                          · have c95 := iv_eq (X := v94.toInt) (Y := 0) c95 rfl (by decide)
                            refine pv_iconst (M := mX12_laysFollows) (v := 0) dX12_laysFollows_106 107 rfl (by decide) ?_
                            refine iv_zast (M := mX12_laysFollows) (X := v77.toInt) (l1 := 0) (l2 := 1) dX12_laysFollows_107 (tl167 hT) rfl (by omega) (by omega) I74 (fun _ => rfl) (y := 0) (by decide) (by decide) (by decide) 108 rfl (fun m96 e99 I97 => ?_)
                            have K98 := K75.set e99 rfl
                            refine iv_inc (M := mX12_laysFollows) (C := 1) dX12_laysFollows_108 111 rfl rfl (by decide) rfl rfl (by decide) (by omega) (by omega) (fun v100 ev100 => ?_)
                            show PV _ _ _ _ _ _ _ 111 [.ref 123, .int x0, .int y1, .int v100] [] _
                            refine pv_goto (M := mX12_laysFollows) (tgt := 38) dX12_laysFollows_111 (by decide) ?_
                            exact ih24 v100 m96 n73 (by first | omega | assumption | exact (iv_rng _).2 | exact (iv_rng _).1 | decide) (by first | omega | assumption | exact (iv_rng _).2 | exact (iv_rng _).1 | decide) I97 K98 (by omega)
                          · have pc95 := rv94.resolve_left c95
                            have c95 := iv_ne (X := v94.toInt) (Y := 0) c95 rfl (by decide)
                            refine pv_aload_n (M := mX12_laysFollows) 0 dX12_laysFollows_94 95 rfl rfl rfl ?_
                            refine pv_iconst (M := mX12_laysFollows) (v := (-1)) dX12_laysFollows_95 96 rfl (by decide) ?_
                            refine pv_callv (M := mX12_laysFollows) (as := [.int (-1)]) (st := [.int v77, .ref 167]) (kc2 := 0) (ks2 := 0) dX12_laysFollows_96 wd1696 YX12_comesWithout ⟨wd1698, wd108⟩ (mk_get (tl123 hT)) rfl rfl (s_X12_comesWithout g hT I74 (-1)) rfl rfl (Nat.le_of_ble_eq_true rfl) (by decide) rfl rfl 99 rfl (fun rv h1 q101 => ?_)
                            obtain ⟨v102, rfl, rfl, pv102, qv102, rv102⟩ := q101
                            show PV _ _ _ _ _ _ _ 99 [.ref 123, .int x0, .int y1, .int y17] [.int v102, .int v77, .ref 167] _
                            refine pv_if_eq (M := mX12_laysFollows) (tgt := 106) dX12_laysFollows_99 102 rfl (by decide) (fun c103 => ?_) (fun c103 => ?_)
                            · have c103 := iv_eq (X := v102.toInt) (Y := 0) c103 rfl (by decide)
                              refine pv_iconst (M := mX12_laysFollows) (v := 0) dX12_laysFollows_106 107 rfl (by decide) ?_
                              refine iv_zast (M := mX12_laysFollows) (X := v77.toInt) (l1 := 0) (l2 := 1) dX12_laysFollows_107 (tl167 hT) rfl (by omega) (by omega) I74 (fun _ => rfl) (y := 0) (by decide) (by decide) (by decide) 108 rfl (fun m104 e107 I105 => ?_)
                              have K106 := K75.set e107 rfl
                              refine iv_inc (M := mX12_laysFollows) (C := 1) dX12_laysFollows_108 111 rfl rfl (by decide) rfl rfl (by decide) (by omega) (by omega) (fun v108 ev108 => ?_)
                              show PV _ _ _ _ _ _ _ 111 [.ref 123, .int x0, .int y1, .int v108] [] _
                              refine pv_goto (M := mX12_laysFollows) (tgt := 38) dX12_laysFollows_111 (by decide) ?_
                              exact ih24 v108 m104 n73 (by first | omega | assumption | exact (iv_rng _).2 | exact (iv_rng _).1 | decide) (by first | omega | assumption | exact (iv_rng _).2 | exact (iv_rng _).1 | decide) I105 K106 (by omega)
                            · have c103 := iv_ne (X := v102.toInt) (Y := 0) c103 rfl (by decide)
                              refine pv_iconst (M := mX12_laysFollows) (v := 1) dX12_laysFollows_102 103 rfl (by decide) ?_
                              refine pv_goto (M := mX12_laysFollows) (tgt := 107) dX12_laysFollows_103 (by decide) ?_
                              refine iv_zast (M := mX12_laysFollows) (X := v77.toInt) (l1 := 0) (l2 := 1) dX12_laysFollows_107 (tl167 hT) rfl (by omega) (by omega) I74 (fun _ => rfl) (y := 1) (by decide) (by decide) (by decide) 108 rfl (fun m109 e112 I110 => ?_)
                              have K111 := K75.set e112 rfl
                              refine iv_inc (M := mX12_laysFollows) (C := 1) dX12_laysFollows_108 111 rfl rfl (by decide) rfl rfl (by decide) (by omega) (by omega) (fun v113 ev113 => ?_)
                              show PV _ _ _ _ _ _ _ 111 [.ref 123, .int x0, .int y1, .int v113] [] _
                              refine pv_goto (M := mX12_laysFollows) (tgt := 38) dX12_laysFollows_111 (by decide) ?_
                              exact ih24 v113 m109 n73 (by first | omega | assumption | exact (iv_rng _).2 | exact (iv_rng _).1 | decide) (by first | omega | assumption | exact (iv_rng _).2 | exact (iv_rng _).1 | decide) I110 K111 (by omega)
            have z114 : (0 : Int32).toInt = 0 := by decide
            exact lp23 (((8 - 0) : Int).toNat + 1) 0 m2 n3 (by first | omega | assumption | exact (iv_rng _).2 | exact (iv_rng _).1 | decide) (by first | omega | assumption | exact (iv_rng _).2 | exact (iv_rng _).1 | decide) I4 K5 (by omega)
          · have pc16 := rv15.resolve_left c16
            have c16 := iv_ne (X := v15.toInt) (Y := 0) c16 rfl (by decide)
            refine pv_aload_n (M := mX12_laysFollows) 0 dX12_laysFollows_31 32 rfl rfl rfl ?_
            refine pv_iload_n (M := mX12_laysFollows) 2 dX12_laysFollows_32 33 rfl rfl rfl ?_
            refine pv_callv (M := mX12_laysFollows) (as := [.int y1]) (st := []) (kc2 := 0) (ks2 := 0) dX12_laysFollows_33 wd1753 YX12_laysParent ⟨wd1755, wd118⟩ (mk_get (tl123 hT)) rfl rfl (s_X12_laysParent g hT I4 y1 (by omega) (by omega)) rfl rfl (Nat.le_of_ble_eq_true rfl) (by decide) rfl rfl 36 rfl (fun rv h1 q115 => ?_)
            obtain ⟨m116, n117, rfl, rfl, I118, K119, rm116⟩ := q115
            have K119c := K119
            have K119 := K5.trans (K119.sub (wl_sub (by decide)))
            show PV _ _ _ _ _ _ _ 36 [.ref 123, .int x0, .int y1, pv_U] [] _
            refine pv_iconst (M := mX12_laysFollows) (v := 0) dX12_laysFollows_36 37 rfl (by decide) ?_
            refine pv_istore_n (M := mX12_laysFollows) 3 (lo2 := [.ref 123, .int x0, .int y1, .int 0]) dX12_laysFollows_37 38 rfl rfl (by decide) rfl rfl ?_
            have lp126 : ∀ (fuel125 : Nat) (y120 : Int32) (m121 : Nat → Nat → Int32) (n122 : Nat → Nat → Int64), (0 ≤ y120.toInt) → (y120.toInt ≤ 8) → IV BB m121 → fr (wl [(123, 123, some 40), (123, 123, some 41), (149, 149, none), (150, 150, none), (167, 167, none)]) m m121 → ((8 - y120.toInt) : Int).toNat < fuel125 → PV none g mX12_laysFollows (sqV T BB (wl [(123, 123, some 40), (123, 123, some 41), (149, 149, none), (150, 150, none), (167, 167, none)]) r m (fun m' => True)) 2 0 0 38 [.ref 123, .int x0, .int y1, .int y120] [] (mk T m121 n122 r) := by
              intro fuel125
              induction fuel125 with
              | zero => intro y120 m121 n122 b128 b129 I123 K124 z130; omega
              | succ fuel125 ih127 =>
                intro y120 m121 n122 b128 b129 I123 K124 z130
                refine pv_iload_n (M := mX12_laysFollows) 3 dX12_laysFollows_38 39 rfl rfl rfl ?_
                refine pv_bipush (M := mX12_laysFollows) (v := 8) dX12_laysFollows_39 41 rfl (by decide) ?_
                refine pv_icmp_ge (M := mX12_laysFollows) (tgt := 114) dX12_laysFollows_41 44 rfl (by decide) (fun c131 => ?_) (fun c131 => ?_)
                · have c131 := iv_le (X := 8) (Y := y120.toInt) c131 (by decide) rfl
                  refine iv_inc (M := mX12_laysFollows) (C := 1) dX12_laysFollows_114 117 rfl rfl (by decide) rfl rfl (by decide) (by omega) (by omega) (fun v132 ev132 => ?_)
                  show PV _ _ _ _ _ _ _ 117 [.ref 123, .int x0, .int v132, .int y120] [] _
                  refine pv_goto (M := mX12_laysFollows) (tgt := 2) dX12_laysFollows_117 (by decide) ?_
                  refine pv_fg (lo2 := [.ref 123, .int x0, .int v132, pv_U]) ⟨Or.inr rfl, ⟨Or.inr rfl, ⟨Or.inr rfl, ⟨Or.inl rfl, trivial⟩⟩⟩⟩ ?_
                  exact ih8 v132 m121 n122 (by first | omega | assumption | exact (iv_rng _).2 | exact (iv_rng _).1 | decide) (by first | omega | assumption | exact (iv_rng _).2 | exact (iv_rng _).1 | decide) I123 K124 (by omega)
                · have c131 := iv_nle (X := 8) (Y := y120.toInt) c131 (by decide) rfl
                  refine pv_aload_n (M := mX12_laysFollows) 0 dX12_laysFollows_44 45 rfl rfl rfl ?_
                  refine pv_iload_n (M := mX12_laysFollows) 3 dX12_laysFollows_45 46 rfl rfl rfl ?_
                  refine pv_callv (M := mX12_laysFollows) (as := [.int y120]) (st := []) (kc2 := 0) (ks2 := 0) dX12_laysFollows_46 wd1558 YX12_isDeed ⟨wd1560, wd87⟩ (mk_get (tl123 hT)) rfl rfl (s_X12_isDeed g hT I123 y120) rfl rfl (Nat.le_of_ble_eq_true rfl) (by decide) rfl rfl 49 rfl (fun rv h1 q133 => ?_)
                  obtain ⟨v134, rfl, rfl, pv134, qv134, rv134⟩ := q133
                  replace rv134 : v134 = 0 ∨ (0 ≤ y120.toInt ∧ y120.toInt ≤ 7) := rv134
                  show PV _ _ _ _ _ _ _ 49 [.ref 123, .int x0, .int y1, .int y120] [.int v134] _
                  refine pv_if_eq (M := mX12_laysFollows) (tgt := 57) dX12_laysFollows_49 52 rfl (by decide) (fun c135 => ?_) (fun c135 => ?_)
                  · have c135 := iv_eq (X := v134.toInt) (Y := 0) c135 rfl (by decide)
                    refine pv_aload_n (M := mX12_laysFollows) 0 dX12_laysFollows_57 58 rfl rfl rfl ?_
                    refine mv_get (M := mX12_laysFollows) (v := .ref 167) dX12_laysFollows_58 FX12 62 wd1235 (by decide) (tl123 hT) rfl rfl 61 rfl ?_
                    refine pv_bipush (M := mX12_laysFollows) (v := 8) dX12_laysFollows_61 63 rfl (by decide) ?_
                    refine pv_iload_n (M := mX12_laysFollows) 2 dX12_laysFollows_63 64 rfl rfl rfl ?_
                    refine iv_imul (M := mX12_laysFollows) (X := 8) (Y := y1.toInt) dX12_laysFollows_64 65 rfl (by decide) rfl (by omega) (by omega) (fun v136 ev136 => ?_)
                    refine pv_iload_n (M := mX12_laysFollows) 3 dX12_laysFollows_65 66 rfl rfl rfl ?_
                    refine iv_iadd (M := mX12_laysFollows) (X := v136.toInt) (Y := y120.toInt) dX12_laysFollows_66 67 rfl rfl rfl (by omega) (by omega) (fun v137 ev137 => ?_)
                    refine pv_iload_n (M := mX12_laysFollows) 3 dX12_laysFollows_67 68 rfl rfl rfl ?_
                    refine pv_iload_n (M := mX12_laysFollows) 2 dX12_laysFollows_68 69 rfl rfl rfl ?_
                    refine pv_icmp_eq (M := mX12_laysFollows) (tgt := 106) dX12_laysFollows_69 72 rfl (by decide) (fun c138 => ?_) (fun c138 => ?_)
                    · have c138 := iv_eq (X := y120.toInt) (Y := y1.toInt) c138 rfl rfl
                      refine pv_iconst (M := mX12_laysFollows) (v := 0) dX12_laysFollows_106 107 rfl (by decide) ?_
                      refine iv_zast (M := mX12_laysFollows) (X := v137.toInt) (l1 := 0) (l2 := 1) dX12_laysFollows_107 (tl167 hT) rfl (by omega) (by omega) I123 (fun _ => rfl) (y := 0) (by decide) (by decide) (by decide) 108 rfl (fun m139 e142 I140 => ?_)
                      have K141 := K124.set e142 rfl
                      refine iv_inc (M := mX12_laysFollows) (C := 1) dX12_laysFollows_108 111 rfl rfl (by decide) rfl rfl (by decide) (by omega) (by omega) (fun v143 ev143 => ?_)
                      show PV _ _ _ _ _ _ _ 111 [.ref 123, .int x0, .int y1, .int v143] [] _
                      refine pv_goto (M := mX12_laysFollows) (tgt := 38) dX12_laysFollows_111 (by decide) ?_
                      exact ih127 v143 m139 n122 (by first | omega | assumption | exact (iv_rng _).2 | exact (iv_rng _).1 | decide) (by first | omega | assumption | exact (iv_rng _).2 | exact (iv_rng _).1 | decide) I140 K141 (by omega)
                    · have c138 := iv_ne (X := y120.toInt) (Y := y1.toInt) c138 rfl rfl
                      refine pv_aload_n (M := mX12_laysFollows) 0 dX12_laysFollows_72 73 rfl rfl rfl ?_
                      refine pv_iload_n (M := mX12_laysFollows) 3 dX12_laysFollows_73 74 rfl rfl rfl ?_
                      refine pv_callv (M := mX12_laysFollows) (as := [.int y120]) (st := [.int v137, .ref 167]) (kc2 := 0) (ks2 := 0) dX12_laysFollows_74 wd1558 YX12_isDeed ⟨wd1560, wd87⟩ (mk_get (tl123 hT)) rfl rfl (s_X12_isDeed g hT I123 y120) rfl rfl (Nat.le_of_ble_eq_true rfl) (by decide) rfl rfl 77 rfl (fun rv h1 q144 => ?_)
                      obtain ⟨v145, rfl, rfl, pv145, qv145, rv145⟩ := q144
                      replace rv145 : v145 = 0 ∨ (0 ≤ y120.toInt ∧ y120.toInt ≤ 7) := rv145
                      show PV _ _ _ _ _ _ _ 77 [.ref 123, .int x0, .int y1, .int y120] [.int v145, .int v137, .ref 167] _
                      refine pv_if_eq (M := mX12_laysFollows) (tgt := 106) dX12_laysFollows_77 80 rfl (by decide) (fun c146 => ?_) (fun c146 => ?_)
                      · have c146 := iv_eq (X := v145.toInt) (Y := 0) c146 rfl (by decide)
                        refine pv_iconst (M := mX12_laysFollows) (v := 0) dX12_laysFollows_106 107 rfl (by decide) ?_
                        refine iv_zast (M := mX12_laysFollows) (X := v137.toInt) (l1 := 0) (l2 := 1) dX12_laysFollows_107 (tl167 hT) rfl (by omega) (by omega) I123 (fun _ => rfl) (y := 0) (by decide) (by decide) (by decide) 108 rfl (fun m147 e150 I148 => ?_)
                        have K149 := K124.set e150 rfl
                        refine iv_inc (M := mX12_laysFollows) (C := 1) dX12_laysFollows_108 111 rfl rfl (by decide) rfl rfl (by decide) (by omega) (by omega) (fun v151 ev151 => ?_)
                        show PV _ _ _ _ _ _ _ 111 [.ref 123, .int x0, .int y1, .int v151] [] _
                        refine pv_goto (M := mX12_laysFollows) (tgt := 38) dX12_laysFollows_111 (by decide) ?_
                        exact ih127 v151 m147 n122 (by first | omega | assumption | exact (iv_rng _).2 | exact (iv_rng _).1 | decide) (by first | omega | assumption | exact (iv_rng _).2 | exact (iv_rng _).1 | decide) I148 K149 (by omega)
                      · have pc146 := rv145.resolve_left c146
                        have c146 := iv_ne (X := v145.toInt) (Y := 0) c146 rfl (by decide)
                        refine pv_iload_n (M := mX12_laysFollows) 2 dX12_laysFollows_80 81 rfl rfl rfl ?_
                        refine pv_bipush (M := mX12_laysFollows) (v := 8) dX12_laysFollows_81 83 rfl (by decide) ?_
                        refine pv_icmp_eq (M := mX12_laysFollows) (tgt := 94) dX12_laysFollows_83 86 rfl (by decide) (fun c152 => ?_) (fun c152 => ?_)
                        · have c152 := iv_eq (X := y1.toInt) (Y := 8) c152 rfl (by decide)
                          omega
                        · have c152 := iv_ne (X := y1.toInt) (Y := 8) c152 rfl (by decide)
                          refine pv_aload_n (M := mX12_laysFollows) 0 dX12_laysFollows_86 87 rfl rfl rfl ?_
                          refine pv_iload_n (M := mX12_laysFollows) 2 dX12_laysFollows_87 88 rfl rfl rfl ?_
                          refine pv_callv (M := mX12_laysFollows) (as := [.int y1]) (st := [.int v137, .ref 167]) (kc2 := 0) (ks2 := 0) dX12_laysFollows_88 wd1558 YX12_isDeed ⟨wd1560, wd87⟩ (mk_get (tl123 hT)) rfl rfl (s_X12_isDeed g hT I123 y1) rfl rfl (Nat.le_of_ble_eq_true rfl) (by decide) rfl rfl 91 rfl (fun rv h1 q153 => ?_)
                          obtain ⟨v154, rfl, rfl, pv154, qv154, rv154⟩ := q153
                          replace rv154 : v154 = 0 ∨ (0 ≤ y1.toInt ∧ y1.toInt ≤ 7) := rv154
                          show PV _ _ _ _ _ _ _ 91 [.ref 123, .int x0, .int y1, .int y120] [.int v154, .int v137, .ref 167] _
                          refine pv_if_eq (M := mX12_laysFollows) (tgt := 106) dX12_laysFollows_91 94 rfl (by decide) (fun c155 => ?_) (fun c155 => ?_)
                          · have c155 := iv_eq (X := v154.toInt) (Y := 0) c155 rfl (by decide)
                            refine pv_iconst (M := mX12_laysFollows) (v := 0) dX12_laysFollows_106 107 rfl (by decide) ?_
                            refine iv_zast (M := mX12_laysFollows) (X := v137.toInt) (l1 := 0) (l2 := 1) dX12_laysFollows_107 (tl167 hT) rfl (by omega) (by omega) I123 (fun _ => rfl) (y := 0) (by decide) (by decide) (by decide) 108 rfl (fun m156 e159 I157 => ?_)
                            have K158 := K124.set e159 rfl
                            refine iv_inc (M := mX12_laysFollows) (C := 1) dX12_laysFollows_108 111 rfl rfl (by decide) rfl rfl (by decide) (by omega) (by omega) (fun v160 ev160 => ?_)
                            show PV _ _ _ _ _ _ _ 111 [.ref 123, .int x0, .int y1, .int v160] [] _
                            refine pv_goto (M := mX12_laysFollows) (tgt := 38) dX12_laysFollows_111 (by decide) ?_
                            exact ih127 v160 m156 n122 (by first | omega | assumption | exact (iv_rng _).2 | exact (iv_rng _).1 | decide) (by first | omega | assumption | exact (iv_rng _).2 | exact (iv_rng _).1 | decide) I157 K158 (by omega)
                          · have pc155 := rv154.resolve_left c155
                            have c155 := iv_ne (X := v154.toInt) (Y := 0) c155 rfl (by decide)
                            refine pv_aload_n (M := mX12_laysFollows) 0 dX12_laysFollows_94 95 rfl rfl rfl ?_
                            refine pv_iconst (M := mX12_laysFollows) (v := (-1)) dX12_laysFollows_95 96 rfl (by decide) ?_
                            refine pv_callv (M := mX12_laysFollows) (as := [.int (-1)]) (st := [.int v137, .ref 167]) (kc2 := 0) (ks2 := 0) dX12_laysFollows_96 wd1696 YX12_comesWithout ⟨wd1698, wd108⟩ (mk_get (tl123 hT)) rfl rfl (s_X12_comesWithout g hT I123 (-1)) rfl rfl (Nat.le_of_ble_eq_true rfl) (by decide) rfl rfl 99 rfl (fun rv h1 q161 => ?_)
                            obtain ⟨v162, rfl, rfl, pv162, qv162, rv162⟩ := q161
                            show PV _ _ _ _ _ _ _ 99 [.ref 123, .int x0, .int y1, .int y120] [.int v162, .int v137, .ref 167] _
                            refine pv_if_eq (M := mX12_laysFollows) (tgt := 106) dX12_laysFollows_99 102 rfl (by decide) (fun c163 => ?_) (fun c163 => ?_)
                            · have c163 := iv_eq (X := v162.toInt) (Y := 0) c163 rfl (by decide)
                              refine pv_iconst (M := mX12_laysFollows) (v := 0) dX12_laysFollows_106 107 rfl (by decide) ?_
                              refine iv_zast (M := mX12_laysFollows) (X := v137.toInt) (l1 := 0) (l2 := 1) dX12_laysFollows_107 (tl167 hT) rfl (by omega) (by omega) I123 (fun _ => rfl) (y := 0) (by decide) (by decide) (by decide) 108 rfl (fun m164 e167 I165 => ?_)
                              have K166 := K124.set e167 rfl
                              refine iv_inc (M := mX12_laysFollows) (C := 1) dX12_laysFollows_108 111 rfl rfl (by decide) rfl rfl (by decide) (by omega) (by omega) (fun v168 ev168 => ?_)
                              show PV _ _ _ _ _ _ _ 111 [.ref 123, .int x0, .int y1, .int v168] [] _
                              refine pv_goto (M := mX12_laysFollows) (tgt := 38) dX12_laysFollows_111 (by decide) ?_
                              exact ih127 v168 m164 n122 (by first | omega | assumption | exact (iv_rng _).2 | exact (iv_rng _).1 | decide) (by first | omega | assumption | exact (iv_rng _).2 | exact (iv_rng _).1 | decide) I165 K166 (by omega)
                            · have c163 := iv_ne (X := v162.toInt) (Y := 0) c163 rfl (by decide)
                              refine pv_iconst (M := mX12_laysFollows) (v := 1) dX12_laysFollows_102 103 rfl (by decide) ?_
                              refine pv_goto (M := mX12_laysFollows) (tgt := 107) dX12_laysFollows_103 (by decide) ?_
                              refine iv_zast (M := mX12_laysFollows) (X := v137.toInt) (l1 := 0) (l2 := 1) dX12_laysFollows_107 (tl167 hT) rfl (by omega) (by omega) I123 (fun _ => rfl) (y := 1) (by decide) (by decide) (by decide) 108 rfl (fun m169 e172 I170 => ?_)
                              have K171 := K124.set e172 rfl
                              refine iv_inc (M := mX12_laysFollows) (C := 1) dX12_laysFollows_108 111 rfl rfl (by decide) rfl rfl (by decide) (by omega) (by omega) (fun v173 ev173 => ?_)
                              show PV _ _ _ _ _ _ _ 111 [.ref 123, .int x0, .int y1, .int v173] [] _
                              refine pv_goto (M := mX12_laysFollows) (tgt := 38) dX12_laysFollows_111 (by decide) ?_
                              exact ih127 v173 m169 n122 (by first | omega | assumption | exact (iv_rng _).2 | exact (iv_rng _).1 | decide) (by first | omega | assumption | exact (iv_rng _).2 | exact (iv_rng _).1 | decide) I170 K171 (by omega)
                  · have pc135 := rv134.resolve_left c135
                    have c135 := iv_ne (X := v134.toInt) (Y := 0) c135 rfl (by decide)
                    refine pv_aload_n (M := mX12_laysFollows) 0 dX12_laysFollows_52 53 rfl rfl rfl ?_
                    refine pv_iload_n (M := mX12_laysFollows) 3 dX12_laysFollows_53 54 rfl rfl rfl ?_
                    refine pv_callv (M := mX12_laysFollows) (as := [.int y120]) (st := []) (kc2 := 0) (ks2 := 0) dX12_laysFollows_54 wd1567 YX12_laysDeed ⟨wd1569, wd89⟩ (mk_get (tl123 hT)) rfl rfl (s_X12_laysDeed g hT I123 y120 (by omega) (by omega)) rfl rfl (Nat.le_of_ble_eq_true rfl) (by decide) rfl rfl 57 rfl (fun rv h1 q174 => ?_)
                    obtain ⟨m175, n176, rfl, rfl, I177, K178, rm175⟩ := q174
                    have K178c := K178
                    have K178 := K124.trans (K178.sub (wl_sub (by decide)))
                    show PV _ _ _ _ _ _ _ 57 [.ref 123, .int x0, .int y1, .int y120] [] _
                    refine pv_aload_n (M := mX12_laysFollows) 0 dX12_laysFollows_57 58 rfl rfl rfl ?_
                    refine mv_get (M := mX12_laysFollows) (v := .ref 167) dX12_laysFollows_58 FX12 62 wd1235 (by decide) (tl123 hT) rfl rfl 61 rfl ?_
                    refine pv_bipush (M := mX12_laysFollows) (v := 8) dX12_laysFollows_61 63 rfl (by decide) ?_
                    refine pv_iload_n (M := mX12_laysFollows) 2 dX12_laysFollows_63 64 rfl rfl rfl ?_
                    refine iv_imul (M := mX12_laysFollows) (X := 8) (Y := y1.toInt) dX12_laysFollows_64 65 rfl (by decide) rfl (by omega) (by omega) (fun v179 ev179 => ?_)
                    refine pv_iload_n (M := mX12_laysFollows) 3 dX12_laysFollows_65 66 rfl rfl rfl ?_
                    refine iv_iadd (M := mX12_laysFollows) (X := v179.toInt) (Y := y120.toInt) dX12_laysFollows_66 67 rfl rfl rfl (by omega) (by omega) (fun v180 ev180 => ?_)
                    refine pv_iload_n (M := mX12_laysFollows) 3 dX12_laysFollows_67 68 rfl rfl rfl ?_
                    refine pv_iload_n (M := mX12_laysFollows) 2 dX12_laysFollows_68 69 rfl rfl rfl ?_
                    refine pv_icmp_eq (M := mX12_laysFollows) (tgt := 106) dX12_laysFollows_69 72 rfl (by decide) (fun c181 => ?_) (fun c181 => ?_)
                    · have c181 := iv_eq (X := y120.toInt) (Y := y1.toInt) c181 rfl rfl
                      refine pv_iconst (M := mX12_laysFollows) (v := 0) dX12_laysFollows_106 107 rfl (by decide) ?_
                      refine iv_zast (M := mX12_laysFollows) (X := v180.toInt) (l1 := 0) (l2 := 1) dX12_laysFollows_107 (tl167 hT) rfl (by omega) (by omega) I177 (fun _ => rfl) (y := 0) (by decide) (by decide) (by decide) 108 rfl (fun m182 e185 I183 => ?_)
                      have K184 := K178.set e185 rfl
                      refine iv_inc (M := mX12_laysFollows) (C := 1) dX12_laysFollows_108 111 rfl rfl (by decide) rfl rfl (by decide) (by omega) (by omega) (fun v186 ev186 => ?_)
                      show PV _ _ _ _ _ _ _ 111 [.ref 123, .int x0, .int y1, .int v186] [] _
                      refine pv_goto (M := mX12_laysFollows) (tgt := 38) dX12_laysFollows_111 (by decide) ?_
                      exact ih127 v186 m182 n176 (by first | omega | assumption | exact (iv_rng _).2 | exact (iv_rng _).1 | decide) (by first | omega | assumption | exact (iv_rng _).2 | exact (iv_rng _).1 | decide) I183 K184 (by omega)
                    · have c181 := iv_ne (X := y120.toInt) (Y := y1.toInt) c181 rfl rfl
                      refine pv_aload_n (M := mX12_laysFollows) 0 dX12_laysFollows_72 73 rfl rfl rfl ?_
                      refine pv_iload_n (M := mX12_laysFollows) 3 dX12_laysFollows_73 74 rfl rfl rfl ?_
                      refine pv_callv (M := mX12_laysFollows) (as := [.int y120]) (st := [.int v180, .ref 167]) (kc2 := 0) (ks2 := 0) dX12_laysFollows_74 wd1558 YX12_isDeed ⟨wd1560, wd87⟩ (mk_get (tl123 hT)) rfl rfl (s_X12_isDeed g hT I177 y120) rfl rfl (Nat.le_of_ble_eq_true rfl) (by decide) rfl rfl 77 rfl (fun rv h1 q187 => ?_)
                      obtain ⟨v188, rfl, rfl, pv188, qv188, rv188⟩ := q187
                      replace rv188 : v188 = 0 ∨ (0 ≤ y120.toInt ∧ y120.toInt ≤ 7) := rv188
                      show PV _ _ _ _ _ _ _ 77 [.ref 123, .int x0, .int y1, .int y120] [.int v188, .int v180, .ref 167] _
                      refine pv_if_eq (M := mX12_laysFollows) (tgt := 106) dX12_laysFollows_77 80 rfl (by decide) (fun c189 => ?_) (fun c189 => ?_)
                      · have c189 := iv_eq (X := v188.toInt) (Y := 0) c189 rfl (by decide)
                        refine pv_iconst (M := mX12_laysFollows) (v := 0) dX12_laysFollows_106 107 rfl (by decide) ?_
                        refine iv_zast (M := mX12_laysFollows) (X := v180.toInt) (l1 := 0) (l2 := 1) dX12_laysFollows_107 (tl167 hT) rfl (by omega) (by omega) I177 (fun _ => rfl) (y := 0) (by decide) (by decide) (by decide) 108 rfl (fun m190 e193 I191 => ?_)
                        have K192 := K178.set e193 rfl
                        refine iv_inc (M := mX12_laysFollows) (C := 1) dX12_laysFollows_108 111 rfl rfl (by decide) rfl rfl (by decide) (by omega) (by omega) (fun v194 ev194 => ?_)
                        show PV _ _ _ _ _ _ _ 111 [.ref 123, .int x0, .int y1, .int v194] [] _
                        refine pv_goto (M := mX12_laysFollows) (tgt := 38) dX12_laysFollows_111 (by decide) ?_
                        exact ih127 v194 m190 n176 (by first | omega | assumption | exact (iv_rng _).2 | exact (iv_rng _).1 | decide) (by first | omega | assumption | exact (iv_rng _).2 | exact (iv_rng _).1 | decide) I191 K192 (by omega)
                      · have pc189 := rv188.resolve_left c189
                        have c189 := iv_ne (X := v188.toInt) (Y := 0) c189 rfl (by decide)
                        refine pv_iload_n (M := mX12_laysFollows) 2 dX12_laysFollows_80 81 rfl rfl rfl ?_
                        refine pv_bipush (M := mX12_laysFollows) (v := 8) dX12_laysFollows_81 83 rfl (by decide) ?_
                        refine pv_icmp_eq (M := mX12_laysFollows) (tgt := 94) dX12_laysFollows_83 86 rfl (by decide) (fun c195 => ?_) (fun c195 => ?_)
                        · have c195 := iv_eq (X := y1.toInt) (Y := 8) c195 rfl (by decide)
                          omega
                        · have c195 := iv_ne (X := y1.toInt) (Y := 8) c195 rfl (by decide)
                          refine pv_aload_n (M := mX12_laysFollows) 0 dX12_laysFollows_86 87 rfl rfl rfl ?_
                          refine pv_iload_n (M := mX12_laysFollows) 2 dX12_laysFollows_87 88 rfl rfl rfl ?_
                          refine pv_callv (M := mX12_laysFollows) (as := [.int y1]) (st := [.int v180, .ref 167]) (kc2 := 0) (ks2 := 0) dX12_laysFollows_88 wd1558 YX12_isDeed ⟨wd1560, wd87⟩ (mk_get (tl123 hT)) rfl rfl (s_X12_isDeed g hT I177 y1) rfl rfl (Nat.le_of_ble_eq_true rfl) (by decide) rfl rfl 91 rfl (fun rv h1 q196 => ?_)
                          obtain ⟨v197, rfl, rfl, pv197, qv197, rv197⟩ := q196
                          replace rv197 : v197 = 0 ∨ (0 ≤ y1.toInt ∧ y1.toInt ≤ 7) := rv197
                          show PV _ _ _ _ _ _ _ 91 [.ref 123, .int x0, .int y1, .int y120] [.int v197, .int v180, .ref 167] _
                          refine pv_if_eq (M := mX12_laysFollows) (tgt := 106) dX12_laysFollows_91 94 rfl (by decide) (fun c198 => ?_) (fun c198 => ?_)
                          · have c198 := iv_eq (X := v197.toInt) (Y := 0) c198 rfl (by decide)
                            refine pv_iconst (M := mX12_laysFollows) (v := 0) dX12_laysFollows_106 107 rfl (by decide) ?_
                            refine iv_zast (M := mX12_laysFollows) (X := v180.toInt) (l1 := 0) (l2 := 1) dX12_laysFollows_107 (tl167 hT) rfl (by omega) (by omega) I177 (fun _ => rfl) (y := 0) (by decide) (by decide) (by decide) 108 rfl (fun m199 e202 I200 => ?_)
                            have K201 := K178.set e202 rfl
                            refine iv_inc (M := mX12_laysFollows) (C := 1) dX12_laysFollows_108 111 rfl rfl (by decide) rfl rfl (by decide) (by omega) (by omega) (fun v203 ev203 => ?_)
                            show PV _ _ _ _ _ _ _ 111 [.ref 123, .int x0, .int y1, .int v203] [] _
                            refine pv_goto (M := mX12_laysFollows) (tgt := 38) dX12_laysFollows_111 (by decide) ?_
                            exact ih127 v203 m199 n176 (by first | omega | assumption | exact (iv_rng _).2 | exact (iv_rng _).1 | decide) (by first | omega | assumption | exact (iv_rng _).2 | exact (iv_rng _).1 | decide) I200 K201 (by omega)
                          · have pc198 := rv197.resolve_left c198
                            have c198 := iv_ne (X := v197.toInt) (Y := 0) c198 rfl (by decide)
                            refine pv_aload_n (M := mX12_laysFollows) 0 dX12_laysFollows_94 95 rfl rfl rfl ?_
                            refine pv_iconst (M := mX12_laysFollows) (v := (-1)) dX12_laysFollows_95 96 rfl (by decide) ?_
                            refine pv_callv (M := mX12_laysFollows) (as := [.int (-1)]) (st := [.int v180, .ref 167]) (kc2 := 0) (ks2 := 0) dX12_laysFollows_96 wd1696 YX12_comesWithout ⟨wd1698, wd108⟩ (mk_get (tl123 hT)) rfl rfl (s_X12_comesWithout g hT I177 (-1)) rfl rfl (Nat.le_of_ble_eq_true rfl) (by decide) rfl rfl 99 rfl (fun rv h1 q204 => ?_)
                            obtain ⟨v205, rfl, rfl, pv205, qv205, rv205⟩ := q204
                            show PV _ _ _ _ _ _ _ 99 [.ref 123, .int x0, .int y1, .int y120] [.int v205, .int v180, .ref 167] _
                            refine pv_if_eq (M := mX12_laysFollows) (tgt := 106) dX12_laysFollows_99 102 rfl (by decide) (fun c206 => ?_) (fun c206 => ?_)
                            · have c206 := iv_eq (X := v205.toInt) (Y := 0) c206 rfl (by decide)
                              refine pv_iconst (M := mX12_laysFollows) (v := 0) dX12_laysFollows_106 107 rfl (by decide) ?_
                              refine iv_zast (M := mX12_laysFollows) (X := v180.toInt) (l1 := 0) (l2 := 1) dX12_laysFollows_107 (tl167 hT) rfl (by omega) (by omega) I177 (fun _ => rfl) (y := 0) (by decide) (by decide) (by decide) 108 rfl (fun m207 e210 I208 => ?_)
                              have K209 := K178.set e210 rfl
                              refine iv_inc (M := mX12_laysFollows) (C := 1) dX12_laysFollows_108 111 rfl rfl (by decide) rfl rfl (by decide) (by omega) (by omega) (fun v211 ev211 => ?_)
                              show PV _ _ _ _ _ _ _ 111 [.ref 123, .int x0, .int y1, .int v211] [] _
                              refine pv_goto (M := mX12_laysFollows) (tgt := 38) dX12_laysFollows_111 (by decide) ?_
                              exact ih127 v211 m207 n176 (by first | omega | assumption | exact (iv_rng _).2 | exact (iv_rng _).1 | decide) (by first | omega | assumption | exact (iv_rng _).2 | exact (iv_rng _).1 | decide) I208 K209 (by omega)
                            · have c206 := iv_ne (X := v205.toInt) (Y := 0) c206 rfl (by decide)
                              refine pv_iconst (M := mX12_laysFollows) (v := 1) dX12_laysFollows_102 103 rfl (by decide) ?_
                              refine pv_goto (M := mX12_laysFollows) (tgt := 107) dX12_laysFollows_103 (by decide) ?_
                              refine iv_zast (M := mX12_laysFollows) (X := v180.toInt) (l1 := 0) (l2 := 1) dX12_laysFollows_107 (tl167 hT) rfl (by omega) (by omega) I177 (fun _ => rfl) (y := 1) (by decide) (by decide) (by decide) 108 rfl (fun m212 e215 I213 => ?_)
                              have K214 := K178.set e215 rfl
                              refine iv_inc (M := mX12_laysFollows) (C := 1) dX12_laysFollows_108 111 rfl rfl (by decide) rfl rfl (by decide) (by omega) (by omega) (fun v216 ev216 => ?_)
                              show PV _ _ _ _ _ _ _ 111 [.ref 123, .int x0, .int y1, .int v216] [] _
                              refine pv_goto (M := mX12_laysFollows) (tgt := 38) dX12_laysFollows_111 (by decide) ?_
                              exact ih127 v216 m212 n176 (by first | omega | assumption | exact (iv_rng _).2 | exact (iv_rng _).1 | decide) (by first | omega | assumption | exact (iv_rng _).2 | exact (iv_rng _).1 | decide) I213 K214 (by omega)
            have z217 : (0 : Int32).toInt = 0 := by decide
            exact lp126 (((8 - 0) : Int).toNat + 1) 0 m116 n117 (by first | omega | assumption | exact (iv_rng _).2 | exact (iv_rng _).1 | decide) (by first | omega | assumption | exact (iv_rng _).2 | exact (iv_rng _).1 | decide) I118 K119 (by omega)
        · have c13 := iv_eq (X := y1.toInt) (Y := 8) c13 rfl (by decide)
          refine pv_aload_n (M := mX12_laysFollows) 0 dX12_laysFollows_14 15 rfl rfl rfl ?_
          refine pv_iload_n (M := mX12_laysFollows) 1 dX12_laysFollows_15 16 rfl rfl rfl ?_
          refine pv_iconst (M := mX12_laysFollows) (v := 0) dX12_laysFollows_16 17 rfl (by decide) ?_
          have z218 : (0 : Int32).toInt = 0 := by decide
          refine pv_callv (M := mX12_laysFollows) (as := [.int x0, .int 0]) (st := []) (kc2 := 0) (ks2 := 0) dX12_laysFollows_17 wd1563 YX12_laysBlank ⟨wd1565, wd88⟩ (mk_get (tl123 hT)) rfl rfl (s_X12_laysBlank g hT I4 x0 (by omega) (by omega) 0 (by decide) (by decide)) rfl rfl (Nat.le_of_ble_eq_true rfl) (by decide) rfl rfl 20 rfl (fun rv h1 q219 => ?_)
          obtain ⟨m220, n221, rfl, rfl, I222, K223, rm220⟩ := q219
          replace rm220 : (0 : Int) = 0 → (m220 123 40).toInt = nu m220 x0.toInt 0 := by have q_ := rm220; (try rw [z218] at q_); exact q_
          have K223c := K223
          have K223 := K5.trans (K223.sub (wl_sub (by decide)))
          show PV _ _ _ _ _ _ _ 20 [.ref 123, .int x0, .int y1, pv_U] [] _
          refine pv_goto (M := mX12_laysFollows) (tgt := 36) dX12_laysFollows_20 (by decide) ?_
          refine pv_iconst (M := mX12_laysFollows) (v := 0) dX12_laysFollows_36 37 rfl (by decide) ?_
          refine pv_istore_n (M := mX12_laysFollows) 3 (lo2 := [.ref 123, .int x0, .int y1, .int 0]) dX12_laysFollows_37 38 rfl rfl (by decide) rfl rfl ?_
          have lp230 : ∀ (fuel229 : Nat) (y224 : Int32) (m225 : Nat → Nat → Int32) (n226 : Nat → Nat → Int64), (0 ≤ y224.toInt) → (y224.toInt ≤ 8) → IV BB m225 → fr (wl [(123, 123, some 40), (123, 123, some 41), (149, 149, none), (150, 150, none), (167, 167, none)]) m m225 → ((8 - y224.toInt) : Int).toNat < fuel229 → PV none g mX12_laysFollows (sqV T BB (wl [(123, 123, some 40), (123, 123, some 41), (149, 149, none), (150, 150, none), (167, 167, none)]) r m (fun m' => True)) 2 0 0 38 [.ref 123, .int x0, .int y1, .int y224] [] (mk T m225 n226 r) := by
            intro fuel229
            induction fuel229 with
            | zero => intro y224 m225 n226 b232 b233 I227 K228 z234; omega
            | succ fuel229 ih231 =>
              intro y224 m225 n226 b232 b233 I227 K228 z234
              refine pv_iload_n (M := mX12_laysFollows) 3 dX12_laysFollows_38 39 rfl rfl rfl ?_
              refine pv_bipush (M := mX12_laysFollows) (v := 8) dX12_laysFollows_39 41 rfl (by decide) ?_
              refine pv_icmp_ge (M := mX12_laysFollows) (tgt := 114) dX12_laysFollows_41 44 rfl (by decide) (fun c235 => ?_) (fun c235 => ?_)
              · have c235 := iv_le (X := 8) (Y := y224.toInt) c235 (by decide) rfl
                refine iv_inc (M := mX12_laysFollows) (C := 1) dX12_laysFollows_114 117 rfl rfl (by decide) rfl rfl (by decide) (by omega) (by omega) (fun v236 ev236 => ?_)
                show PV _ _ _ _ _ _ _ 117 [.ref 123, .int x0, .int v236, .int y224] [] _
                refine pv_goto (M := mX12_laysFollows) (tgt := 2) dX12_laysFollows_117 (by decide) ?_
                refine pv_fg (lo2 := [.ref 123, .int x0, .int v236, pv_U]) ⟨Or.inr rfl, ⟨Or.inr rfl, ⟨Or.inr rfl, ⟨Or.inl rfl, trivial⟩⟩⟩⟩ ?_
                exact ih8 v236 m225 n226 (by first | omega | assumption | exact (iv_rng _).2 | exact (iv_rng _).1 | decide) (by first | omega | assumption | exact (iv_rng _).2 | exact (iv_rng _).1 | decide) I227 K228 (by omega)
              · have c235 := iv_nle (X := 8) (Y := y224.toInt) c235 (by decide) rfl
                refine pv_aload_n (M := mX12_laysFollows) 0 dX12_laysFollows_44 45 rfl rfl rfl ?_
                refine pv_iload_n (M := mX12_laysFollows) 3 dX12_laysFollows_45 46 rfl rfl rfl ?_
                refine pv_callv (M := mX12_laysFollows) (as := [.int y224]) (st := []) (kc2 := 0) (ks2 := 0) dX12_laysFollows_46 wd1558 YX12_isDeed ⟨wd1560, wd87⟩ (mk_get (tl123 hT)) rfl rfl (s_X12_isDeed g hT I227 y224) rfl rfl (Nat.le_of_ble_eq_true rfl) (by decide) rfl rfl 49 rfl (fun rv h1 q237 => ?_)
                obtain ⟨v238, rfl, rfl, pv238, qv238, rv238⟩ := q237
                replace rv238 : v238 = 0 ∨ (0 ≤ y224.toInt ∧ y224.toInt ≤ 7) := rv238
                show PV _ _ _ _ _ _ _ 49 [.ref 123, .int x0, .int y1, .int y224] [.int v238] _
                refine pv_if_eq (M := mX12_laysFollows) (tgt := 57) dX12_laysFollows_49 52 rfl (by decide) (fun c239 => ?_) (fun c239 => ?_)
                · have c239 := iv_eq (X := v238.toInt) (Y := 0) c239 rfl (by decide)
                  refine pv_aload_n (M := mX12_laysFollows) 0 dX12_laysFollows_57 58 rfl rfl rfl ?_
                  refine mv_get (M := mX12_laysFollows) (v := .ref 167) dX12_laysFollows_58 FX12 62 wd1235 (by decide) (tl123 hT) rfl rfl 61 rfl ?_
                  refine pv_bipush (M := mX12_laysFollows) (v := 8) dX12_laysFollows_61 63 rfl (by decide) ?_
                  refine pv_iload_n (M := mX12_laysFollows) 2 dX12_laysFollows_63 64 rfl rfl rfl ?_
                  refine iv_imul (M := mX12_laysFollows) (X := 8) (Y := y1.toInt) dX12_laysFollows_64 65 rfl (by decide) rfl (by omega) (by omega) (fun v240 ev240 => ?_)
                  refine pv_iload_n (M := mX12_laysFollows) 3 dX12_laysFollows_65 66 rfl rfl rfl ?_
                  refine iv_iadd (M := mX12_laysFollows) (X := v240.toInt) (Y := y224.toInt) dX12_laysFollows_66 67 rfl rfl rfl (by omega) (by omega) (fun v241 ev241 => ?_)
                  refine pv_iload_n (M := mX12_laysFollows) 3 dX12_laysFollows_67 68 rfl rfl rfl ?_
                  refine pv_iload_n (M := mX12_laysFollows) 2 dX12_laysFollows_68 69 rfl rfl rfl ?_
                  refine pv_icmp_eq (M := mX12_laysFollows) (tgt := 106) dX12_laysFollows_69 72 rfl (by decide) (fun c242 => ?_) (fun c242 => ?_)
                  · have c242 := iv_eq (X := y224.toInt) (Y := y1.toInt) c242 rfl rfl
                    omega
                  · have c242 := iv_ne (X := y224.toInt) (Y := y1.toInt) c242 rfl rfl
                    refine pv_aload_n (M := mX12_laysFollows) 0 dX12_laysFollows_72 73 rfl rfl rfl ?_
                    refine pv_iload_n (M := mX12_laysFollows) 3 dX12_laysFollows_73 74 rfl rfl rfl ?_
                    refine pv_callv (M := mX12_laysFollows) (as := [.int y224]) (st := [.int v241, .ref 167]) (kc2 := 0) (ks2 := 0) dX12_laysFollows_74 wd1558 YX12_isDeed ⟨wd1560, wd87⟩ (mk_get (tl123 hT)) rfl rfl (s_X12_isDeed g hT I227 y224) rfl rfl (Nat.le_of_ble_eq_true rfl) (by decide) rfl rfl 77 rfl (fun rv h1 q243 => ?_)
                    obtain ⟨v244, rfl, rfl, pv244, qv244, rv244⟩ := q243
                    replace rv244 : v244 = 0 ∨ (0 ≤ y224.toInt ∧ y224.toInt ≤ 7) := rv244
                    show PV _ _ _ _ _ _ _ 77 [.ref 123, .int x0, .int y1, .int y224] [.int v244, .int v241, .ref 167] _
                    refine pv_if_eq (M := mX12_laysFollows) (tgt := 106) dX12_laysFollows_77 80 rfl (by decide) (fun c245 => ?_) (fun c245 => ?_)
                    · have c245 := iv_eq (X := v244.toInt) (Y := 0) c245 rfl (by decide)
                      refine pv_iconst (M := mX12_laysFollows) (v := 0) dX12_laysFollows_106 107 rfl (by decide) ?_
                      refine iv_zast (M := mX12_laysFollows) (X := v241.toInt) (l1 := 0) (l2 := 1) dX12_laysFollows_107 (tl167 hT) rfl (by omega) (by omega) I227 (fun _ => rfl) (y := 0) (by decide) (by decide) (by decide) 108 rfl (fun m246 e249 I247 => ?_)
                      have K248 := K228.set e249 rfl
                      refine iv_inc (M := mX12_laysFollows) (C := 1) dX12_laysFollows_108 111 rfl rfl (by decide) rfl rfl (by decide) (by omega) (by omega) (fun v250 ev250 => ?_)
                      show PV _ _ _ _ _ _ _ 111 [.ref 123, .int x0, .int y1, .int v250] [] _
                      refine pv_goto (M := mX12_laysFollows) (tgt := 38) dX12_laysFollows_111 (by decide) ?_
                      exact ih231 v250 m246 n226 (by first | omega | assumption | exact (iv_rng _).2 | exact (iv_rng _).1 | decide) (by first | omega | assumption | exact (iv_rng _).2 | exact (iv_rng _).1 | decide) I247 K248 (by omega)
                    · have pc245 := rv244.resolve_left c245
                      have c245 := iv_ne (X := v244.toInt) (Y := 0) c245 rfl (by decide)
                      refine pv_iload_n (M := mX12_laysFollows) 2 dX12_laysFollows_80 81 rfl rfl rfl ?_
                      refine pv_bipush (M := mX12_laysFollows) (v := 8) dX12_laysFollows_81 83 rfl (by decide) ?_
                      refine pv_icmp_eq (M := mX12_laysFollows) (tgt := 94) dX12_laysFollows_83 86 rfl (by decide) (fun c251 => ?_) (fun c251 => ?_)
                      · have c251 := iv_eq (X := y1.toInt) (Y := 8) c251 rfl (by decide)
                        refine pv_aload_n (M := mX12_laysFollows) 0 dX12_laysFollows_94 95 rfl rfl rfl ?_
                        refine pv_iconst (M := mX12_laysFollows) (v := (-1)) dX12_laysFollows_95 96 rfl (by decide) ?_
                        refine pv_callv (M := mX12_laysFollows) (as := [.int (-1)]) (st := [.int v241, .ref 167]) (kc2 := 0) (ks2 := 0) dX12_laysFollows_96 wd1696 YX12_comesWithout ⟨wd1698, wd108⟩ (mk_get (tl123 hT)) rfl rfl (s_X12_comesWithout g hT I227 (-1)) rfl rfl (Nat.le_of_ble_eq_true rfl) (by decide) rfl rfl 99 rfl (fun rv h1 q252 => ?_)
                        obtain ⟨v253, rfl, rfl, pv253, qv253, rv253⟩ := q252
                        show PV _ _ _ _ _ _ _ 99 [.ref 123, .int x0, .int y1, .int y224] [.int v253, .int v241, .ref 167] _
                        refine pv_if_eq (M := mX12_laysFollows) (tgt := 106) dX12_laysFollows_99 102 rfl (by decide) (fun c254 => ?_) (fun c254 => ?_)
                        · have c254 := iv_eq (X := v253.toInt) (Y := 0) c254 rfl (by decide)
                          refine pv_iconst (M := mX12_laysFollows) (v := 0) dX12_laysFollows_106 107 rfl (by decide) ?_
                          refine iv_zast (M := mX12_laysFollows) (X := v241.toInt) (l1 := 0) (l2 := 1) dX12_laysFollows_107 (tl167 hT) rfl (by omega) (by omega) I227 (fun _ => rfl) (y := 0) (by decide) (by decide) (by decide) 108 rfl (fun m255 e258 I256 => ?_)
                          have K257 := K228.set e258 rfl
                          refine iv_inc (M := mX12_laysFollows) (C := 1) dX12_laysFollows_108 111 rfl rfl (by decide) rfl rfl (by decide) (by omega) (by omega) (fun v259 ev259 => ?_)
                          show PV _ _ _ _ _ _ _ 111 [.ref 123, .int x0, .int y1, .int v259] [] _
                          refine pv_goto (M := mX12_laysFollows) (tgt := 38) dX12_laysFollows_111 (by decide) ?_
                          exact ih231 v259 m255 n226 (by first | omega | assumption | exact (iv_rng _).2 | exact (iv_rng _).1 | decide) (by first | omega | assumption | exact (iv_rng _).2 | exact (iv_rng _).1 | decide) I256 K257 (by omega)
                        · have c254 := iv_ne (X := v253.toInt) (Y := 0) c254 rfl (by decide)
                          refine pv_iconst (M := mX12_laysFollows) (v := 1) dX12_laysFollows_102 103 rfl (by decide) ?_
                          refine pv_goto (M := mX12_laysFollows) (tgt := 107) dX12_laysFollows_103 (by decide) ?_
                          refine iv_zast (M := mX12_laysFollows) (X := v241.toInt) (l1 := 0) (l2 := 1) dX12_laysFollows_107 (tl167 hT) rfl (by omega) (by omega) I227 (fun _ => rfl) (y := 1) (by decide) (by decide) (by decide) 108 rfl (fun m260 e263 I261 => ?_)
                          have K262 := K228.set e263 rfl
                          refine iv_inc (M := mX12_laysFollows) (C := 1) dX12_laysFollows_108 111 rfl rfl (by decide) rfl rfl (by decide) (by omega) (by omega) (fun v264 ev264 => ?_)
                          show PV _ _ _ _ _ _ _ 111 [.ref 123, .int x0, .int y1, .int v264] [] _
                          refine pv_goto (M := mX12_laysFollows) (tgt := 38) dX12_laysFollows_111 (by decide) ?_
                          exact ih231 v264 m260 n226 (by first | omega | assumption | exact (iv_rng _).2 | exact (iv_rng _).1 | decide) (by first | omega | assumption | exact (iv_rng _).2 | exact (iv_rng _).1 | decide) I261 K262 (by omega)
                      · have c251 := iv_ne (X := y1.toInt) (Y := 8) c251 rfl (by decide)
                        omega
                · have pc239 := rv238.resolve_left c239
                  have c239 := iv_ne (X := v238.toInt) (Y := 0) c239 rfl (by decide)
                  refine pv_aload_n (M := mX12_laysFollows) 0 dX12_laysFollows_52 53 rfl rfl rfl ?_
                  refine pv_iload_n (M := mX12_laysFollows) 3 dX12_laysFollows_53 54 rfl rfl rfl ?_
                  refine pv_callv (M := mX12_laysFollows) (as := [.int y224]) (st := []) (kc2 := 0) (ks2 := 0) dX12_laysFollows_54 wd1567 YX12_laysDeed ⟨wd1569, wd89⟩ (mk_get (tl123 hT)) rfl rfl (s_X12_laysDeed g hT I227 y224 (by omega) (by omega)) rfl rfl (Nat.le_of_ble_eq_true rfl) (by decide) rfl rfl 57 rfl (fun rv h1 q265 => ?_)
                  obtain ⟨m266, n267, rfl, rfl, I268, K269, rm266⟩ := q265
                  have K269c := K269
                  have K269 := K228.trans (K269.sub (wl_sub (by decide)))
                  show PV _ _ _ _ _ _ _ 57 [.ref 123, .int x0, .int y1, .int y224] [] _
                  refine pv_aload_n (M := mX12_laysFollows) 0 dX12_laysFollows_57 58 rfl rfl rfl ?_
                  refine mv_get (M := mX12_laysFollows) (v := .ref 167) dX12_laysFollows_58 FX12 62 wd1235 (by decide) (tl123 hT) rfl rfl 61 rfl ?_
                  refine pv_bipush (M := mX12_laysFollows) (v := 8) dX12_laysFollows_61 63 rfl (by decide) ?_
                  refine pv_iload_n (M := mX12_laysFollows) 2 dX12_laysFollows_63 64 rfl rfl rfl ?_
                  refine iv_imul (M := mX12_laysFollows) (X := 8) (Y := y1.toInt) dX12_laysFollows_64 65 rfl (by decide) rfl (by omega) (by omega) (fun v270 ev270 => ?_)
                  refine pv_iload_n (M := mX12_laysFollows) 3 dX12_laysFollows_65 66 rfl rfl rfl ?_
                  refine iv_iadd (M := mX12_laysFollows) (X := v270.toInt) (Y := y224.toInt) dX12_laysFollows_66 67 rfl rfl rfl (by omega) (by omega) (fun v271 ev271 => ?_)
                  refine pv_iload_n (M := mX12_laysFollows) 3 dX12_laysFollows_67 68 rfl rfl rfl ?_
                  refine pv_iload_n (M := mX12_laysFollows) 2 dX12_laysFollows_68 69 rfl rfl rfl ?_
                  refine pv_icmp_eq (M := mX12_laysFollows) (tgt := 106) dX12_laysFollows_69 72 rfl (by decide) (fun c272 => ?_) (fun c272 => ?_)
                  · have c272 := iv_eq (X := y224.toInt) (Y := y1.toInt) c272 rfl rfl
                    omega
                  · have c272 := iv_ne (X := y224.toInt) (Y := y1.toInt) c272 rfl rfl
                    refine pv_aload_n (M := mX12_laysFollows) 0 dX12_laysFollows_72 73 rfl rfl rfl ?_
                    refine pv_iload_n (M := mX12_laysFollows) 3 dX12_laysFollows_73 74 rfl rfl rfl ?_
                    refine pv_callv (M := mX12_laysFollows) (as := [.int y224]) (st := [.int v271, .ref 167]) (kc2 := 0) (ks2 := 0) dX12_laysFollows_74 wd1558 YX12_isDeed ⟨wd1560, wd87⟩ (mk_get (tl123 hT)) rfl rfl (s_X12_isDeed g hT I268 y224) rfl rfl (Nat.le_of_ble_eq_true rfl) (by decide) rfl rfl 77 rfl (fun rv h1 q273 => ?_)
                    obtain ⟨v274, rfl, rfl, pv274, qv274, rv274⟩ := q273
                    replace rv274 : v274 = 0 ∨ (0 ≤ y224.toInt ∧ y224.toInt ≤ 7) := rv274
                    show PV _ _ _ _ _ _ _ 77 [.ref 123, .int x0, .int y1, .int y224] [.int v274, .int v271, .ref 167] _
                    refine pv_if_eq (M := mX12_laysFollows) (tgt := 106) dX12_laysFollows_77 80 rfl (by decide) (fun c275 => ?_) (fun c275 => ?_)
                    · have c275 := iv_eq (X := v274.toInt) (Y := 0) c275 rfl (by decide)
                      refine pv_iconst (M := mX12_laysFollows) (v := 0) dX12_laysFollows_106 107 rfl (by decide) ?_
                      refine iv_zast (M := mX12_laysFollows) (X := v271.toInt) (l1 := 0) (l2 := 1) dX12_laysFollows_107 (tl167 hT) rfl (by omega) (by omega) I268 (fun _ => rfl) (y := 0) (by decide) (by decide) (by decide) 108 rfl (fun m276 e279 I277 => ?_)
                      have K278 := K269.set e279 rfl
                      refine iv_inc (M := mX12_laysFollows) (C := 1) dX12_laysFollows_108 111 rfl rfl (by decide) rfl rfl (by decide) (by omega) (by omega) (fun v280 ev280 => ?_)
                      show PV _ _ _ _ _ _ _ 111 [.ref 123, .int x0, .int y1, .int v280] [] _
                      refine pv_goto (M := mX12_laysFollows) (tgt := 38) dX12_laysFollows_111 (by decide) ?_
                      exact ih231 v280 m276 n267 (by first | omega | assumption | exact (iv_rng _).2 | exact (iv_rng _).1 | decide) (by first | omega | assumption | exact (iv_rng _).2 | exact (iv_rng _).1 | decide) I277 K278 (by omega)
                    · have pc275 := rv274.resolve_left c275
                      have c275 := iv_ne (X := v274.toInt) (Y := 0) c275 rfl (by decide)
                      refine pv_iload_n (M := mX12_laysFollows) 2 dX12_laysFollows_80 81 rfl rfl rfl ?_
                      refine pv_bipush (M := mX12_laysFollows) (v := 8) dX12_laysFollows_81 83 rfl (by decide) ?_
                      refine pv_icmp_eq (M := mX12_laysFollows) (tgt := 94) dX12_laysFollows_83 86 rfl (by decide) (fun c281 => ?_) (fun c281 => ?_)
                      · have c281 := iv_eq (X := y1.toInt) (Y := 8) c281 rfl (by decide)
                        refine pv_aload_n (M := mX12_laysFollows) 0 dX12_laysFollows_94 95 rfl rfl rfl ?_
                        refine pv_iconst (M := mX12_laysFollows) (v := (-1)) dX12_laysFollows_95 96 rfl (by decide) ?_
                        refine pv_callv (M := mX12_laysFollows) (as := [.int (-1)]) (st := [.int v271, .ref 167]) (kc2 := 0) (ks2 := 0) dX12_laysFollows_96 wd1696 YX12_comesWithout ⟨wd1698, wd108⟩ (mk_get (tl123 hT)) rfl rfl (s_X12_comesWithout g hT I268 (-1)) rfl rfl (Nat.le_of_ble_eq_true rfl) (by decide) rfl rfl 99 rfl (fun rv h1 q282 => ?_)
                        obtain ⟨v283, rfl, rfl, pv283, qv283, rv283⟩ := q282
                        show PV _ _ _ _ _ _ _ 99 [.ref 123, .int x0, .int y1, .int y224] [.int v283, .int v271, .ref 167] _
                        refine pv_if_eq (M := mX12_laysFollows) (tgt := 106) dX12_laysFollows_99 102 rfl (by decide) (fun c284 => ?_) (fun c284 => ?_)
                        · have c284 := iv_eq (X := v283.toInt) (Y := 0) c284 rfl (by decide)
                          refine pv_iconst (M := mX12_laysFollows) (v := 0) dX12_laysFollows_106 107 rfl (by decide) ?_
                          refine iv_zast (M := mX12_laysFollows) (X := v271.toInt) (l1 := 0) (l2 := 1) dX12_laysFollows_107 (tl167 hT) rfl (by omega) (by omega) I268 (fun _ => rfl) (y := 0) (by decide) (by decide) (by decide) 108 rfl (fun m285 e288 I286 => ?_)
                          have K287 := K269.set e288 rfl
                          refine iv_inc (M := mX12_laysFollows) (C := 1) dX12_laysFollows_108 111 rfl rfl (by decide) rfl rfl (by decide) (by omega) (by omega) (fun v289 ev289 => ?_)
                          show PV _ _ _ _ _ _ _ 111 [.ref 123, .int x0, .int y1, .int v289] [] _
                          refine pv_goto (M := mX12_laysFollows) (tgt := 38) dX12_laysFollows_111 (by decide) ?_
                          exact ih231 v289 m285 n267 (by first | omega | assumption | exact (iv_rng _).2 | exact (iv_rng _).1 | decide) (by first | omega | assumption | exact (iv_rng _).2 | exact (iv_rng _).1 | decide) I286 K287 (by omega)
                        · have c284 := iv_ne (X := v283.toInt) (Y := 0) c284 rfl (by decide)
                          refine pv_iconst (M := mX12_laysFollows) (v := 1) dX12_laysFollows_102 103 rfl (by decide) ?_
                          refine pv_goto (M := mX12_laysFollows) (tgt := 107) dX12_laysFollows_103 (by decide) ?_
                          refine iv_zast (M := mX12_laysFollows) (X := v271.toInt) (l1 := 0) (l2 := 1) dX12_laysFollows_107 (tl167 hT) rfl (by omega) (by omega) I268 (fun _ => rfl) (y := 1) (by decide) (by decide) (by decide) 108 rfl (fun m290 e293 I291 => ?_)
                          have K292 := K269.set e293 rfl
                          refine iv_inc (M := mX12_laysFollows) (C := 1) dX12_laysFollows_108 111 rfl rfl (by decide) rfl rfl (by decide) (by omega) (by omega) (fun v294 ev294 => ?_)
                          show PV _ _ _ _ _ _ _ 111 [.ref 123, .int x0, .int y1, .int v294] [] _
                          refine pv_goto (M := mX12_laysFollows) (tgt := 38) dX12_laysFollows_111 (by decide) ?_
                          exact ih231 v294 m290 n267 (by first | omega | assumption | exact (iv_rng _).2 | exact (iv_rng _).1 | decide) (by first | omega | assumption | exact (iv_rng _).2 | exact (iv_rng _).1 | decide) I291 K292 (by omega)
                      · have c281 := iv_ne (X := y1.toInt) (Y := 8) c281 rfl (by decide)
                        omega
          have z295 : (0 : Int32).toInt = 0 := by decide
          exact lp230 (((8 - 0) : Int).toNat + 1) 0 m220 n221 (by first | omega | assumption | exact (iv_rng _).2 | exact (iv_rng _).1 | decide) (by first | omega | assumption | exact (iv_rng _).2 | exact (iv_rng _).1 | decide) I222 K223 (by omega)
  have z296 : (0 : Int32).toInt = 0 := by decide
  exact lp7 (((9 - 0) : Int).toNat + 1) 0 m n (by first | omega | assumption | exact (iv_rng _).2 | exact (iv_rng _).1 | decide) (by first | omega | assumption | exact (iv_rng _).2 | exact (iv_rng _).1 | decide) I Kp (by omega)

set_option maxHeartbeats 2000000 in
set_option maxRecDepth 20000 in
theorem s_X12_worth (g : pv_G) {T : List mv_T} {m : Nat → Nat → Int32} {n : Nat → Nat → Int64} {r : Nat → Value} (hT : TX T) (I : IV BB m) (x0 : Int32) (x1 : Int32) (x2 : Int32) : PM g mX12_worth yX12_worth (sqI T BB (wl [(123, 123, some 40), (123, 123, some 41), (149, 149, none), (150, 150, none), (165, 165, none), (166, 166, none)]) r m (-2147483648) 2147483647 (fun m' v => True)) 4 0 0 [.ref 123, .int x0, .int x1, .int x2] (mk T m n r) := by
  have Kp : fr (wl [(123, 123, some 40), (123, 123, some 41), (149, 149, none), (150, 150, none), (165, 165, none), (166, 166, none)]) m m := fr.rf
  refine PM.of 2 (lo := [.ref 123, .int x0, .int x1, .int x2, pv_U, pv_U]) rfl (by decide) rfl rfl (Nat.le_of_ble_eq_true rfl) ?_
  refine pv_aload_n (M := mX12_worth) 0 dX12_worth_0 1 rfl rfl rfl ?_
  refine pv_iload_n (M := mX12_worth) 1 dX12_worth_1 2 rfl rfl rfl ?_
  refine pv_callv (M := mX12_worth) (as := [.int x0]) (st := []) (kc2 := 0) (ks2 := 0) dX12_worth_2 wd1389 YX12_isBlank ⟨wd1391, wd55⟩ (mk_get (tl123 hT)) rfl rfl (s_X12_isBlank g hT I x0) rfl rfl (Nat.le_of_ble_eq_true rfl) (by decide) rfl rfl 5 rfl (fun rv h1 q1 => ?_)
  obtain ⟨v2, rfl, rfl, pv2, qv2, rv2⟩ := q1
  replace rv2 : v2 = 0 ∨ (0 ≤ x0.toInt ∧ x0.toInt ≤ 7) := rv2
  show PV _ _ _ _ _ _ _ 5 [.ref 123, .int x0, .int x1, .int x2, pv_U, pv_U] [.int v2] _
  refine pv_if_eq (M := mX12_worth) (tgt := 29) dX12_worth_5 8 rfl (by decide) (fun c3 => ?_) (fun c3 => ?_)
  · have c3 := iv_eq (X := v2.toInt) (Y := 0) c3 rfl (by decide)
    refine pv_sipush (M := mX12_worth) (v := (-1000)) dX12_worth_29 32 rfl (by decide) ?_
    exact pv_iret (M := mX12_worth) dX12_worth_32 rfl rfl ⟨_, _, _, rfl, rfl, I, Kp, by decide, by decide, trivial⟩
  · have pc3 := rv2.resolve_left c3
    have c3 := iv_ne (X := v2.toInt) (Y := 0) c3 rfl (by decide)
    refine pv_aload_n (M := mX12_worth) 0 dX12_worth_8 9 rfl rfl rfl ?_
    refine pv_iload_n (M := mX12_worth) 2 dX12_worth_9 10 rfl rfl rfl ?_
    refine pv_callv (M := mX12_worth) (as := [.int x1]) (st := []) (kc2 := 0) (ks2 := 0) dX12_worth_10 wd1704 YX12_areSet ⟨wd1706, wd109⟩ (mk_get (tl123 hT)) rfl rfl (s_X12_areSet g hT I x1) rfl rfl (Nat.le_of_ble_eq_true rfl) (by decide) rfl rfl 13 rfl (fun rv h1 q4 => ?_)
    obtain ⟨v5, rfl, rfl, pv5, qv5, rv5⟩ := q4
    replace rv5 : v5 = 0 ∨ (0 ≤ x1.toInt ∧ x1.toInt ≤ 255) := rv5
    show PV _ _ _ _ _ _ _ 13 [.ref 123, .int x0, .int x1, .int x2, pv_U, pv_U] [.int v5] _
    refine pv_if_eq (M := mX12_worth) (tgt := 29) dX12_worth_13 16 rfl (by decide) (fun c6 => ?_) (fun c6 => ?_)
    · have c6 := iv_eq (X := v5.toInt) (Y := 0) c6 rfl (by decide)
      refine pv_sipush (M := mX12_worth) (v := (-1000)) dX12_worth_29 32 rfl (by decide) ?_
      exact pv_iret (M := mX12_worth) dX12_worth_32 rfl rfl ⟨_, _, _, rfl, rfl, I, Kp, by decide, by decide, trivial⟩
    · have pc6 := rv5.resolve_left c6
      have c6 := iv_ne (X := v5.toInt) (Y := 0) c6 rfl (by decide)
      refine pv_iload_n (M := mX12_worth) 2 dX12_worth_16 17 rfl rfl rfl ?_
      refine pv_if_eq (M := mX12_worth) (tgt := 29) dX12_worth_17 20 rfl (by decide) (fun c7 => ?_) (fun c7 => ?_)
      · have c7 := iv_eq (X := x1.toInt) (Y := 0) c7 rfl (by decide)
        refine pv_sipush (M := mX12_worth) (v := (-1000)) dX12_worth_29 32 rfl (by decide) ?_
        exact pv_iret (M := mX12_worth) dX12_worth_32 rfl rfl ⟨_, _, _, rfl, rfl, I, Kp, by decide, by decide, trivial⟩
      · have c7 := iv_ne (X := x1.toInt) (Y := 0) c7 rfl (by decide)
        refine pv_iload_n (M := mX12_worth) 3 dX12_worth_20 21 rfl rfl rfl ?_
        refine pv_iconst (M := mX12_worth) (v := 0) dX12_worth_21 22 rfl (by decide) ?_
        refine pv_iconst (M := mX12_worth) (v := 1) dX12_worth_22 23 rfl (by decide) ?_
        have z8 : (0 : Int32).toInt = 0 := by decide
        have z9 : (1 : Int32).toInt = 1 := by decide
        refine pv_calls (M := mX12_worth) (as := [.int x2, .int 0, .int 1]) (st := []) (kc2 := 0) (ks2 := 0) dX12_worth_23 wd1370 YX12_in wd1371 (s_X12_in g hT I x2 0 1) rfl rfl (Nat.le_of_ble_eq_true rfl) (by decide) rfl rfl 26 rfl (fun rv h1 q10 => ?_)
        obtain ⟨v11, rfl, rfl, pv11, qv11, rv11⟩ := q10
        replace rv11 : v11 = 0 ∨ ((0 : Int) ≤ x2.toInt ∧ x2.toInt ≤ (1 : Int)) := by have q_ := rv11; (try rw [z8] at q_); (try rw [z9] at q_); exact q_
        show PV _ _ _ _ _ _ _ 26 [.ref 123, .int x0, .int x1, .int x2, pv_U, pv_U] [.int v11] _
        refine pv_if_ne (M := mX12_worth) (tgt := 33) dX12_worth_26 29 rfl (by decide) (fun c12 => ?_) (fun c12 => ?_)
        · have pc12 := rv11.resolve_left c12
          have c12 := iv_ne (X := v11.toInt) (Y := 0) c12 rfl (by decide)
          refine pv_aload_n (M := mX12_worth) 0 dX12_worth_33 34 rfl rfl rfl ?_
          refine pv_iload_n (M := mX12_worth) 2 dX12_worth_34 35 rfl rfl rfl ?_
          refine pv_callv (M := mX12_worth) (as := [.int x1]) (st := []) (kc2 := 0) (ks2 := 0) dX12_worth_35 wd1716 YX12_laysEnd ⟨wd1718, wd111⟩ (mk_get (tl123 hT)) rfl rfl (s_X12_laysEnd g hT I x1 (by omega) (by omega)) rfl rfl (Nat.le_of_ble_eq_true rfl) (by decide) rfl rfl 38 rfl (fun rv h1 q13 => ?_)
          obtain ⟨m14, n15, rfl, rfl, I16, K17, rm14⟩ := q13
          have K17c := K17
          have K17 := Kp.trans (K17.sub (fun _ _ q => q))
          show PV _ _ _ _ _ _ _ 38 [.ref 123, .int x0, .int x1, .int x2, pv_U, pv_U] [] _
          refine pv_aload_n (M := mX12_worth) 0 dX12_worth_38 39 rfl rfl rfl ?_
          refine mv_get (M := mX12_worth) (v := .ref 166) dX12_worth_39 FX12 60 wd1233 (by decide) (tl123 hT) rfl rfl 42 rfl ?_
          refine pv_iconst (M := mX12_worth) (v := 0) dX12_worth_42 43 rfl (by decide) ?_
          refine iv_iald (M := mX12_worth) (X := 0) (l1 := (-2147483648)) (l2 := 2147483647) dX12_worth_43 (tl166 hT) (by decide) (by omega) (by omega) I16 (fun _ => rfl) 44 rfl (fun v18 ev18 pv18 qv18 => ?_)
          refine pv_istore (M := mX12_worth) (lo2 := [.ref 123, .int x0, .int x1, .int x2, .int v18, pv_U]) dX12_worth_44 46 rfl (by decide) rfl rfl ?_
          refine pv_aload_n (M := mX12_worth) 0 dX12_worth_46 47 rfl rfl rfl ?_
          refine mv_get (M := mX12_worth) (v := .ref 166) dX12_worth_47 FX12 60 wd1233 (by decide) (tl123 hT) rfl rfl 50 rfl ?_
          refine pv_iconst (M := mX12_worth) (v := 1) dX12_worth_50 51 rfl (by decide) ?_
          refine pv_iload_n (M := mX12_worth) 1 dX12_worth_51 52 rfl rfl rfl ?_
          refine iv_shlU (M := mX12_worth) dX12_worth_52 53 rfl (fun v19 ev19 => ?_)
          have pv19 : 1 ≤ v19.toInt ∧ v19.toInt ≤ 128 := by rw [ev19]; exact iv_sh17 (by omega) (by omega)
          refine iv_iald (M := mX12_worth) (X := v19.toInt) (l1 := (-2147483648)) (l2 := 2147483647) dX12_worth_53 (tl166 hT) rfl (by omega) (by omega) I16 (fun _ => rfl) 54 rfl (fun v20 ev20 pv20 qv20 => ?_)
          refine pv_istore (M := mX12_worth) (lo2 := [.ref 123, .int x0, .int x1, .int x2, .int v18, .int v20]) dX12_worth_54 56 rfl (by decide) rfl rfl ?_
          refine pv_iload_n (M := mX12_worth) 3 dX12_worth_56 57 rfl rfl rfl ?_
          refine pv_if_ne (M := mX12_worth) (tgt := 76) dX12_worth_57 60 rfl (by decide) (fun c21 => ?_) (fun c21 => ?_)
          · have c21 := iv_ne (X := x2.toInt) (Y := 0) c21 rfl (by decide)
            refine pv_aload_n (M := mX12_worth) 0 dX12_worth_76 77 rfl rfl rfl ?_
            refine pv_iload (M := mX12_worth) dX12_worth_77 79 rfl rfl ?_
            refine pv_callv (M := mX12_worth) (as := [.int v20]) (st := []) (kc2 := 0) (ks2 := 0) dX12_worth_79 wd1733 YX12_lostOf ⟨wd1735, wd115⟩ (mk_get (tl123 hT)) rfl rfl (s_X12_lostOf g hT I16 v20) rfl rfl (Nat.le_of_ble_eq_true rfl) (by decide) rfl rfl 82 rfl (fun rv h1 q22 => ?_)
            obtain ⟨v23, rfl, rfl, pv23, qv23, rv23⟩ := q22
            show PV _ _ _ _ _ _ _ 82 [.ref 123, .int x0, .int x1, .int x2, .int v18, .int v20] [.int v23] _
            refine pv_aload_n (M := mX12_worth) 0 dX12_worth_82 83 rfl rfl rfl ?_
            refine pv_iload (M := mX12_worth) dX12_worth_83 85 rfl rfl ?_
            refine pv_callv (M := mX12_worth) (as := [.int v18]) (st := [.int v23]) (kc2 := 0) (ks2 := 0) dX12_worth_85 wd1733 YX12_lostOf ⟨wd1735, wd115⟩ (mk_get (tl123 hT)) rfl rfl (s_X12_lostOf g hT I16 v18) rfl rfl (Nat.le_of_ble_eq_true rfl) (by decide) rfl rfl 88 rfl (fun rv h1 q24 => ?_)
            obtain ⟨v25, rfl, rfl, pv25, qv25, rv25⟩ := q24
            show PV _ _ _ _ _ _ _ 88 [.ref 123, .int x0, .int x1, .int x2, .int v18, .int v20] [.int v25, .int v23] _
            refine iv_subU (M := mX12_worth) dX12_worth_88 89 rfl (fun v26 ev26 => ?_)
            exact pv_iret (M := mX12_worth) dX12_worth_89 rfl rfl ⟨_, _, _, rfl, rfl, I16, K17, (iv_rng v26).1, (iv_rng v26).2, trivial⟩
          · have c21 := iv_eq (X := x2.toInt) (Y := 0) c21 rfl (by decide)
            refine pv_aload_n (M := mX12_worth) 0 dX12_worth_60 61 rfl rfl rfl ?_
            refine pv_iload (M := mX12_worth) dX12_worth_61 63 rfl rfl ?_
            refine pv_callv (M := mX12_worth) (as := [.int v18]) (st := []) (kc2 := 0) (ks2 := 0) dX12_worth_63 wd1729 YX12_manyOf ⟨wd1731, wd114⟩ (mk_get (tl123 hT)) rfl rfl (s_X12_manyOf g hT I16 v18) rfl rfl (Nat.le_of_ble_eq_true rfl) (by decide) rfl rfl 66 rfl (fun rv h1 q27 => ?_)
            obtain ⟨v28, rfl, rfl, pv28, qv28, rv28⟩ := q27
            show PV _ _ _ _ _ _ _ 66 [.ref 123, .int x0, .int x1, .int x2, .int v18, .int v20] [.int v28] _
            refine pv_aload_n (M := mX12_worth) 0 dX12_worth_66 67 rfl rfl rfl ?_
            refine pv_iload (M := mX12_worth) dX12_worth_67 69 rfl rfl ?_
            refine pv_callv (M := mX12_worth) (as := [.int v20]) (st := [.int v28]) (kc2 := 0) (ks2 := 0) dX12_worth_69 wd1729 YX12_manyOf ⟨wd1731, wd114⟩ (mk_get (tl123 hT)) rfl rfl (s_X12_manyOf g hT I16 v20) rfl rfl (Nat.le_of_ble_eq_true rfl) (by decide) rfl rfl 72 rfl (fun rv h1 q29 => ?_)
            obtain ⟨v30, rfl, rfl, pv30, qv30, rv30⟩ := q29
            show PV _ _ _ _ _ _ _ 72 [.ref 123, .int x0, .int x1, .int x2, .int v18, .int v20] [.int v30, .int v28] _
            refine iv_subU (M := mX12_worth) dX12_worth_72 73 rfl (fun v31 ev31 => ?_)
            refine pv_goto (M := mX12_worth) (tgt := 89) dX12_worth_73 (by decide) ?_
            exact pv_iret (M := mX12_worth) dX12_worth_89 rfl rfl ⟨_, _, _, rfl, rfl, I16, K17, (iv_rng v31).1, (iv_rng v31).2, trivial⟩
        · have c12 := iv_eq (X := v11.toInt) (Y := 0) c12 rfl (by decide)
          refine pv_sipush (M := mX12_worth) (v := (-1000)) dX12_worth_29 32 rfl (by decide) ?_
          exact pv_iret (M := mX12_worth) dX12_worth_32 rfl rfl ⟨_, _, _, rfl, rfl, I, Kp, by decide, by decide, trivial⟩

set_option maxHeartbeats 2000000 in
set_option maxRecDepth 20000 in
theorem s_X12_parentOf (g : pv_G) {T : List mv_T} {m : Nat → Nat → Int32} {n : Nat → Nat → Int64} {r : Nat → Value} (hT : TX T) (I : IV BB m) (x0 : Int32) (hl0 : 0 ≤ x0.toInt) (hh0 : x0.toInt ≤ 7) (x1 : Int32) (hl1 : 0 ≤ x1.toInt) (hh1 : x1.toInt ≤ 255) (x2 : Int32) (hl2 : 1 ≤ x2.toInt) (hh2 : x2.toInt ≤ 9) (x3 : Int32) (hl3 : 0 ≤ x3.toInt) (hh3 : x3.toInt ≤ 7) : PM g mX12_parentOf yX12_parentOf (sqI T BB (wl [(123, 123, some 40), (123, 123, some 41), (123, 123, some 61), (149, 149, none), (150, 150, none), (155, 155, none)]) r m 0 8 (fun m' v => True)) 3 0 0 [.ref 123, .int x0, .int x1, .int x2, .int x3] (mk T m n r) := by
  have Kp : fr (wl [(123, 123, some 40), (123, 123, some 41), (123, 123, some 61), (149, 149, none), (150, 150, none), (155, 155, none)]) m m := fr.rf
  refine PM.of 3 (lo := [.ref 123, .int x0, .int x1, .int x2, .int x3, pv_U, pv_U, pv_U]) rfl (by decide) rfl rfl (Nat.le_of_ble_eq_true rfl) ?_
  refine pv_aload_n (M := mX12_parentOf) 0 dX12_parentOf_0 1 rfl rfl rfl ?_
  refine pv_iload (M := mX12_parentOf) dX12_parentOf_1 3 rfl rfl ?_
  refine pv_callv (M := mX12_parentOf) (as := [.int x3]) (st := []) (kc2 := 0) (ks2 := 0) dX12_parentOf_3 wd1567 YX12_laysDeed ⟨wd1569, wd89⟩ (mk_get (tl123 hT)) rfl rfl (s_X12_laysDeed g hT I x3 (by omega) (by omega)) rfl rfl (Nat.le_of_ble_eq_true rfl) (by decide) rfl rfl 6 rfl (fun rv h1 q1 => ?_)
  obtain ⟨m2, n3, rfl, rfl, I4, K5, rm2⟩ := q1
  have K5c := K5
  have K5 := Kp.trans (K5.sub (wl_sub (by decide)))
  show PV _ _ _ _ _ _ _ 6 [.ref 123, .int x0, .int x1, .int x2, .int x3, pv_U, pv_U, pv_U] [] _
  refine pv_aload_n (M := mX12_parentOf) 0 dX12_parentOf_6 7 rfl rfl rfl ?_
  refine pv_iload_n (M := mX12_parentOf) 1 dX12_parentOf_7 8 rfl rfl rfl ?_
  refine pv_iconst (M := mX12_parentOf) (v := 1) dX12_parentOf_8 9 rfl (by decide) ?_
  have z6 : (1 : Int32).toInt = 1 := by decide
  refine pv_callv (M := mX12_parentOf) (as := [.int x0, .int 1]) (st := []) (kc2 := 0) (ks2 := 0) dX12_parentOf_9 wd1563 YX12_laysBlank ⟨wd1565, wd88⟩ (mk_get (tl123 hT)) rfl rfl (s_X12_laysBlank g hT I4 x0 (by omega) (by omega) 1 (by decide) (by decide)) rfl rfl (Nat.le_of_ble_eq_true rfl) (by decide) rfl rfl 12 rfl (fun rv h1 q7 => ?_)
  obtain ⟨m8, n9, rfl, rfl, I10, K11, rm8⟩ := q7
  replace rm8 : (1 : Int) = 0 → (m8 123 40).toInt = nu m8 x0.toInt 0 := by have q_ := rm8; (try rw [z6] at q_); exact q_
  have K11c := K11
  have K11 := K5.trans (K11.sub (wl_sub (by decide)))
  show PV _ _ _ _ _ _ _ 12 [.ref 123, .int x0, .int x1, .int x2, .int x3, pv_U, pv_U, pv_U] [] _
  refine pv_bipush (M := mX12_parentOf) (v := 8) dX12_parentOf_12 14 rfl (by decide) ?_
  refine pv_istore (M := mX12_parentOf) (lo2 := [.ref 123, .int x0, .int x1, .int x2, .int x3, .int 8, pv_U, pv_U]) dX12_parentOf_14 16 rfl (by decide) rfl rfl ?_
  refine pv_aload_n (M := mX12_parentOf) 0 dX12_parentOf_16 17 rfl rfl rfl ?_
  refine pv_aload_n (M := mX12_parentOf) 0 dX12_parentOf_17 18 rfl rfl rfl ?_
  refine pv_iload_n (M := mX12_parentOf) 3 dX12_parentOf_18 19 rfl rfl rfl ?_
  refine pv_callv (M := mX12_parentOf) (as := [.int x2]) (st := [.ref 123]) (kc2 := 0) (ks2 := 0) dX12_parentOf_19 wd1607 YX12_fewestStrokes ⟨wd1609, wd95⟩ (mk_get (tl123 hT)) rfl rfl (s_X12_fewestStrokes g hT I10 x2 (by omega) (by omega)) rfl rfl (Nat.le_of_ble_eq_true rfl) (by decide) rfl rfl 22 rfl (fun rv h1 q12 => ?_)
  obtain ⟨m13, n14, v17, rfl, rfl, I15, K16, pv17, qv17, rv17⟩ := q12
  have K16c := K16
  have K16 := K11.trans (K16.sub (wl_sub (by decide)))
  show PV _ _ _ _ _ _ _ 22 [.ref 123, .int x0, .int x1, .int x2, .int x3, .int 8, pv_U, pv_U] [.int v17, .ref 123] _
  refine iv_put (M := mX12_parentOf) (l1 := (-2147483648)) (l2 := 2147483647) dX12_parentOf_22 FX12 61 wd1234 (by decide) rfl (tl123 hT) rfl rfl rfl I15 rfl (iv_rng v17).1 (iv_rng v17).2 25 rfl (fun m18 e21 I19 => ?_)
  have K20 := K16.set e21 rfl
  refine pv_iconst (M := mX12_parentOf) (v := 0) dX12_parentOf_25 26 rfl (by decide) ?_
  refine pv_istore (M := mX12_parentOf) (lo2 := [.ref 123, .int x0, .int x1, .int x2, .int x3, .int 8, .int 0, pv_U]) dX12_parentOf_26 28 rfl (by decide) rfl rfl ?_
  have lp29 : ∀ (fuel28 : Nat) (y22 : Int32) (y23 : Int32) (m24 : Nat → Nat → Int32) (n25 : Nat → Nat → Int64), (0 ≤ y22.toInt) → (y22.toInt ≤ 8) → (0 ≤ y23.toInt) → (y23.toInt ≤ 8) → IV BB m24 → fr (wl [(123, 123, some 40), (123, 123, some 41), (123, 123, some 61), (149, 149, none), (150, 150, none), (155, 155, none)]) m m24 → ((8 - y23.toInt) : Int).toNat < fuel28 → PV none g mX12_parentOf (sqI T BB (wl [(123, 123, some 40), (123, 123, some 41), (123, 123, some 61), (149, 149, none), (150, 150, none), (155, 155, none)]) r m 0 8 (fun m' v => True)) 3 0 0 28 [.ref 123, .int x0, .int x1, .int x2, .int x3, .int y22, .int y23, pv_U] [] (mk T m24 n25 r) := by
    intro fuel28
    induction fuel28 with
    | zero => intro y22 y23 m24 n25 b31 b32 b33 b34 I26 K27 z35; omega
    | succ fuel28 ih30 =>
      intro y22 y23 m24 n25 b31 b32 b33 b34 I26 K27 z35
      refine pv_iload (M := mX12_parentOf) dX12_parentOf_28 30 rfl rfl ?_
      refine pv_bipush (M := mX12_parentOf) (v := 8) dX12_parentOf_30 32 rfl (by decide) ?_
      refine pv_icmp_ge (M := mX12_parentOf) (tgt := 136) dX12_parentOf_32 35 rfl (by decide) (fun c36 => ?_) (fun c36 => ?_)
      · have c36 := iv_le (X := 8) (Y := y23.toInt) c36 (by decide) rfl
        refine pv_iload (M := mX12_parentOf) dX12_parentOf_136 138 rfl rfl ?_
        exact pv_iret (M := mX12_parentOf) dX12_parentOf_138 rfl rfl ⟨_, _, _, rfl, rfl, I26, K27, by omega, by omega, trivial⟩
      · have c36 := iv_nle (X := 8) (Y := y23.toInt) c36 (by decide) rfl
        refine pv_iload_n (M := mX12_parentOf) 2 dX12_parentOf_35 36 rfl rfl rfl ?_
        refine pv_iload (M := mX12_parentOf) dX12_parentOf_36 38 rfl rfl ?_
        refine iv_shrU (M := mX12_parentOf) dX12_parentOf_38 39 rfl (fun v37 ev37 => ?_)
        refine pv_iconst (M := mX12_parentOf) (v := 1) dX12_parentOf_39 40 rfl (by decide) ?_
        refine iv_iandm (M := mX12_parentOf) dX12_parentOf_40 41 rfl 1 (by decide) (by decide) (fun v38 ev38 pv38 qv38 => ?_)
        have qv38 : v38.toInt < 2 := qv38
        refine pv_if_eq (M := mX12_parentOf) (tgt := 130) dX12_parentOf_41 44 rfl (by decide) (fun c39 => ?_) (fun c39 => ?_)
        · have c39 := iv_eq (X := v38.toInt) (Y := 0) c39 rfl (by decide)
          refine iv_inc (M := mX12_parentOf) (C := 1) dX12_parentOf_130 133 rfl rfl (by decide) rfl rfl (by decide) (by omega) (by omega) (fun v40 ev40 => ?_)
          show PV _ _ _ _ _ _ _ 133 [.ref 123, .int x0, .int x1, .int x2, .int x3, .int y22, .int v40, pv_U] [] _
          refine pv_goto (M := mX12_parentOf) (tgt := 28) dX12_parentOf_133 (by decide) ?_
          exact ih30 y22 v40 m24 n25 (by first | omega | assumption | exact (iv_rng _).2 | exact (iv_rng _).1 | decide) (by first | omega | assumption | exact (iv_rng _).2 | exact (iv_rng _).1 | decide) (by first | omega | assumption | exact (iv_rng _).2 | exact (iv_rng _).1 | decide) (by first | omega | assumption | exact (iv_rng _).2 | exact (iv_rng _).1 | decide) I26 K27 (by omega)
        · have c39 := iv_ne (X := v38.toInt) (Y := 0) c39 rfl (by decide)
          refine pv_iload (M := mX12_parentOf) dX12_parentOf_44 46 rfl rfl ?_
          refine pv_iload (M := mX12_parentOf) dX12_parentOf_46 48 rfl rfl ?_
          refine pv_icmp_eq (M := mX12_parentOf) (tgt := 130) dX12_parentOf_48 51 rfl (by decide) (fun c41 => ?_) (fun c41 => ?_)
          · have c41 := iv_eq (X := y23.toInt) (Y := x3.toInt) c41 rfl rfl
            refine iv_inc (M := mX12_parentOf) (C := 1) dX12_parentOf_130 133 rfl rfl (by decide) rfl rfl (by decide) (by omega) (by omega) (fun v42 ev42 => ?_)
            show PV _ _ _ _ _ _ _ 133 [.ref 123, .int x0, .int x1, .int x2, .int x3, .int y22, .int v42, pv_U] [] _
            refine pv_goto (M := mX12_parentOf) (tgt := 28) dX12_parentOf_133 (by decide) ?_
            exact ih30 y22 v42 m24 n25 (by first | omega | assumption | exact (iv_rng _).2 | exact (iv_rng _).1 | decide) (by first | omega | assumption | exact (iv_rng _).2 | exact (iv_rng _).1 | decide) (by first | omega | assumption | exact (iv_rng _).2 | exact (iv_rng _).1 | decide) (by first | omega | assumption | exact (iv_rng _).2 | exact (iv_rng _).1 | decide) I26 K27 (by omega)
          · have c41 := iv_ne (X := y23.toInt) (Y := x3.toInt) c41 rfl rfl
            refine pv_aload_n (M := mX12_parentOf) 0 dX12_parentOf_51 52 rfl rfl rfl ?_
            refine mv_get (M := mX12_parentOf) (v := .ref 126) dX12_parentOf_52 FX12 7 wd1180 (by decide) (tl123 hT) rfl rfl 55 rfl ?_
            refine pv_iload (M := mX12_parentOf) dX12_parentOf_55 57 rfl rfl ?_
            refine iv_iald (M := mX12_parentOf) (X := y23.toInt) (l1 := 0) (l2 := 16) dX12_parentOf_57 (tl126 hT) rfl (by omega) (by omega) I26 (fun _ => rfl) 58 rfl (fun v43 ev43 pv43 qv43 => ?_)
            refine pv_aload_n (M := mX12_parentOf) 0 dX12_parentOf_58 59 rfl rfl rfl ?_
            refine mv_get (M := mX12_parentOf) (v := .ref 126) dX12_parentOf_59 FX12 7 wd1180 (by decide) (tl123 hT) rfl rfl 62 rfl ?_
            refine pv_iload (M := mX12_parentOf) dX12_parentOf_62 64 rfl rfl ?_
            refine iv_iald (M := mX12_parentOf) (X := x3.toInt) (l1 := 0) (l2 := 16) dX12_parentOf_64 (tl126 hT) rfl (by omega) (by omega) I26 (fun _ => rfl) 65 rfl (fun v44 ev44 pv44 qv44 => ?_)
            refine pv_icmp_lt (M := mX12_parentOf) (tgt := 130) dX12_parentOf_65 68 rfl (by decide) (fun c45 => ?_) (fun c45 => ?_)
            · have c45 := iv_lt (X := v43.toInt) (Y := v44.toInt) c45 rfl rfl
              refine iv_inc (M := mX12_parentOf) (C := 1) dX12_parentOf_130 133 rfl rfl (by decide) rfl rfl (by decide) (by omega) (by omega) (fun v46 ev46 => ?_)
              show PV _ _ _ _ _ _ _ 133 [.ref 123, .int x0, .int x1, .int x2, .int x3, .int y22, .int v46, pv_U] [] _
              refine pv_goto (M := mX12_parentOf) (tgt := 28) dX12_parentOf_133 (by decide) ?_
              exact ih30 y22 v46 m24 n25 (by first | omega | assumption | exact (iv_rng _).2 | exact (iv_rng _).1 | decide) (by first | omega | assumption | exact (iv_rng _).2 | exact (iv_rng _).1 | decide) (by first | omega | assumption | exact (iv_rng _).2 | exact (iv_rng _).1 | decide) (by first | omega | assumption | exact (iv_rng _).2 | exact (iv_rng _).1 | decide) I26 K27 (by omega)
            · have c45 := iv_nlt (X := v43.toInt) (Y := v44.toInt) c45 rfl rfl
              refine pv_aload_n (M := mX12_parentOf) 0 dX12_parentOf_68 69 rfl rfl rfl ?_
              refine mv_get (M := mX12_parentOf) (v := .ref 126) dX12_parentOf_69 FX12 7 wd1180 (by decide) (tl123 hT) rfl rfl 72 rfl ?_
              refine pv_iload (M := mX12_parentOf) dX12_parentOf_72 74 rfl rfl ?_
              refine iv_iald (M := mX12_parentOf) (X := y23.toInt) (l1 := 0) (l2 := 16) dX12_parentOf_74 (tl126 hT) rfl (by omega) (by omega) I26 (fun _ => rfl) 75 rfl (fun v47 ev47 pv47 qv47 => ?_)
              refine pv_aload_n (M := mX12_parentOf) 0 dX12_parentOf_75 76 rfl rfl rfl ?_
              refine mv_get (M := mX12_parentOf) (v := .ref 126) dX12_parentOf_76 FX12 7 wd1180 (by decide) (tl123 hT) rfl rfl 79 rfl ?_
              refine pv_iload (M := mX12_parentOf) dX12_parentOf_79 81 rfl rfl ?_
              refine iv_iald (M := mX12_parentOf) (X := x3.toInt) (l1 := 0) (l2 := 16) dX12_parentOf_81 (tl126 hT) rfl (by omega) (by omega) I26 (fun _ => rfl) 82 rfl (fun v48 ev48 pv48 qv48 => ?_)
              refine pv_icmp_ne (M := mX12_parentOf) (tgt := 95) dX12_parentOf_82 85 rfl (by decide) (fun c49 => ?_) (fun c49 => ?_)
              · have c49 := iv_ne (X := v47.toInt) (Y := v48.toInt) c49 rfl rfl
                refine pv_aload_n (M := mX12_parentOf) 0 dX12_parentOf_95 96 rfl rfl rfl ?_
                refine pv_iload (M := mX12_parentOf) dX12_parentOf_96 98 rfl rfl ?_
                refine pv_callv (M := mX12_parentOf) (as := [.int y23]) (st := []) (kc2 := 0) (ks2 := 0) dX12_parentOf_98 wd1753 YX12_laysParent ⟨wd1755, wd118⟩ (mk_get (tl123 hT)) rfl rfl (s_X12_laysParent g hT I26 y23 (by omega) (by omega)) rfl rfl (Nat.le_of_ble_eq_true rfl) (by decide) rfl rfl 101 rfl (fun rv h1 q50 => ?_)
                obtain ⟨m51, n52, rfl, rfl, I53, K54, rm51⟩ := q50
                have K54c := K54
                have K54 := K27.trans (K54.sub (wl_sub (by decide)))
                show PV _ _ _ _ _ _ _ 101 [.ref 123, .int x0, .int x1, .int x2, .int x3, .int y22, .int y23, pv_U] [] _
                refine pv_aload_n (M := mX12_parentOf) 0 dX12_parentOf_101 102 rfl rfl rfl ?_
                refine pv_iload_n (M := mX12_parentOf) 3 dX12_parentOf_102 103 rfl rfl rfl ?_
                refine pv_callv (M := mX12_parentOf) (as := [.int x2]) (st := []) (kc2 := 0) (ks2 := 0) dX12_parentOf_103 wd1607 YX12_fewestStrokes ⟨wd1609, wd95⟩ (mk_get (tl123 hT)) rfl rfl (s_X12_fewestStrokes g hT I53 x2 (by omega) (by omega)) rfl rfl (Nat.le_of_ble_eq_true rfl) (by decide) rfl rfl 106 rfl (fun rv h1 q55 => ?_)
                obtain ⟨m56, n57, v60, rfl, rfl, I58, K59, pv60, qv60, rv60⟩ := q55
                have K59c := K59
                have K59 := K54.trans (K59.sub (wl_sub (by decide)))
                show PV _ _ _ _ _ _ _ 106 [.ref 123, .int x0, .int x1, .int x2, .int x3, .int y22, .int y23, pv_U] [.int v60] _
                refine pv_istore (M := mX12_parentOf) (lo2 := [.ref 123, .int x0, .int x1, .int x2, .int x3, .int y22, .int y23, .int v60]) dX12_parentOf_106 108 rfl (by decide) rfl rfl ?_
                refine pv_iload (M := mX12_parentOf) dX12_parentOf_108 110 rfl rfl ?_
                refine pv_aload_n (M := mX12_parentOf) 0 dX12_parentOf_110 111 rfl rfl rfl ?_
                refine iv_get (M := mX12_parentOf) (l1 := (-2147483648)) (l2 := 2147483647) dX12_parentOf_111 FX12 61 wd1234 (by decide) (tl123 hT) rfl I58 rfl 114 rfl (fun v61 ev61 pv61 qv61 => ?_)
                refine pv_icmp_lt (M := mX12_parentOf) (tgt := 120) dX12_parentOf_114 117 rfl (by decide) (fun c62 => ?_) (fun c62 => ?_)
                · have c62 := iv_lt (X := v60.toInt) (Y := v61.toInt) c62 rfl rfl
                  refine pv_aload_n (M := mX12_parentOf) 0 dX12_parentOf_120 121 rfl rfl rfl ?_
                  refine pv_iload (M := mX12_parentOf) dX12_parentOf_121 123 rfl rfl ?_
                  refine iv_put (M := mX12_parentOf) (l1 := (-2147483648)) (l2 := 2147483647) dX12_parentOf_123 FX12 61 wd1234 (by decide) rfl (tl123 hT) rfl rfl rfl I58 rfl (iv_rng v60).1 (iv_rng v60).2 126 rfl (fun m63 e66 I64 => ?_)
                  have K65 := K59.set e66 rfl
                  refine pv_iload (M := mX12_parentOf) dX12_parentOf_126 128 rfl rfl ?_
                  refine pv_istore (M := mX12_parentOf) (lo2 := [.ref 123, .int x0, .int x1, .int x2, .int x3, .int y23, .int y23, .int v60]) dX12_parentOf_128 130 rfl (by decide) rfl rfl ?_
                  refine iv_inc (M := mX12_parentOf) (C := 1) dX12_parentOf_130 133 rfl rfl (by decide) rfl rfl (by decide) (by omega) (by omega) (fun v67 ev67 => ?_)
                  show PV _ _ _ _ _ _ _ 133 [.ref 123, .int x0, .int x1, .int x2, .int x3, .int y23, .int v67, .int v60] [] _
                  refine pv_goto (M := mX12_parentOf) (tgt := 28) dX12_parentOf_133 (by decide) ?_
                  refine pv_fg (lo2 := [.ref 123, .int x0, .int x1, .int x2, .int x3, .int y23, .int v67, pv_U]) ⟨Or.inr rfl, ⟨Or.inr rfl, ⟨Or.inr rfl, ⟨Or.inr rfl, ⟨Or.inr rfl, ⟨Or.inr rfl, ⟨Or.inr rfl, ⟨Or.inl rfl, trivial⟩⟩⟩⟩⟩⟩⟩⟩ ?_
                  exact ih30 y23 v67 m63 n57 (by first | omega | assumption | exact (iv_rng _).2 | exact (iv_rng _).1 | decide) (by first | omega | assumption | exact (iv_rng _).2 | exact (iv_rng _).1 | decide) (by first | omega | assumption | exact (iv_rng _).2 | exact (iv_rng _).1 | decide) (by first | omega | assumption | exact (iv_rng _).2 | exact (iv_rng _).1 | decide) I64 K65 (by omega)
                · have c62 := iv_nlt (X := v60.toInt) (Y := v61.toInt) c62 rfl rfl
                  refine pv_goto (M := mX12_parentOf) (tgt := 130) dX12_parentOf_117 (by decide) ?_
                  refine iv_inc (M := mX12_parentOf) (C := 1) dX12_parentOf_130 133 rfl rfl (by decide) rfl rfl (by decide) (by omega) (by omega) (fun v68 ev68 => ?_)
                  show PV _ _ _ _ _ _ _ 133 [.ref 123, .int x0, .int x1, .int x2, .int x3, .int y22, .int v68, .int v60] [] _
                  refine pv_goto (M := mX12_parentOf) (tgt := 28) dX12_parentOf_133 (by decide) ?_
                  refine pv_fg (lo2 := [.ref 123, .int x0, .int x1, .int x2, .int x3, .int y22, .int v68, pv_U]) ⟨Or.inr rfl, ⟨Or.inr rfl, ⟨Or.inr rfl, ⟨Or.inr rfl, ⟨Or.inr rfl, ⟨Or.inr rfl, ⟨Or.inr rfl, ⟨Or.inl rfl, trivial⟩⟩⟩⟩⟩⟩⟩⟩ ?_
                  exact ih30 y22 v68 m56 n57 (by first | omega | assumption | exact (iv_rng _).2 | exact (iv_rng _).1 | decide) (by first | omega | assumption | exact (iv_rng _).2 | exact (iv_rng _).1 | decide) (by first | omega | assumption | exact (iv_rng _).2 | exact (iv_rng _).1 | decide) (by first | omega | assumption | exact (iv_rng _).2 | exact (iv_rng _).1 | decide) I58 K59 (by omega)
              · have c49 := iv_eq (X := v47.toInt) (Y := v48.toInt) c49 rfl rfl
                refine pv_iload (M := mX12_parentOf) dX12_parentOf_85 87 rfl rfl ?_
                refine pv_iload (M := mX12_parentOf) dX12_parentOf_87 89 rfl rfl ?_
                refine pv_icmp_le (M := mX12_parentOf) (tgt := 95) dX12_parentOf_89 92 rfl (by decide) (fun c69 => ?_) (fun c69 => ?_)
                · have c69 := iv_le (X := y23.toInt) (Y := x3.toInt) c69 rfl rfl
                  refine pv_aload_n (M := mX12_parentOf) 0 dX12_parentOf_95 96 rfl rfl rfl ?_
                  refine pv_iload (M := mX12_parentOf) dX12_parentOf_96 98 rfl rfl ?_
                  refine pv_callv (M := mX12_parentOf) (as := [.int y23]) (st := []) (kc2 := 0) (ks2 := 0) dX12_parentOf_98 wd1753 YX12_laysParent ⟨wd1755, wd118⟩ (mk_get (tl123 hT)) rfl rfl (s_X12_laysParent g hT I26 y23 (by omega) (by omega)) rfl rfl (Nat.le_of_ble_eq_true rfl) (by decide) rfl rfl 101 rfl (fun rv h1 q70 => ?_)
                  obtain ⟨m71, n72, rfl, rfl, I73, K74, rm71⟩ := q70
                  have K74c := K74
                  have K74 := K27.trans (K74.sub (wl_sub (by decide)))
                  show PV _ _ _ _ _ _ _ 101 [.ref 123, .int x0, .int x1, .int x2, .int x3, .int y22, .int y23, pv_U] [] _
                  refine pv_aload_n (M := mX12_parentOf) 0 dX12_parentOf_101 102 rfl rfl rfl ?_
                  refine pv_iload_n (M := mX12_parentOf) 3 dX12_parentOf_102 103 rfl rfl rfl ?_
                  refine pv_callv (M := mX12_parentOf) (as := [.int x2]) (st := []) (kc2 := 0) (ks2 := 0) dX12_parentOf_103 wd1607 YX12_fewestStrokes ⟨wd1609, wd95⟩ (mk_get (tl123 hT)) rfl rfl (s_X12_fewestStrokes g hT I73 x2 (by omega) (by omega)) rfl rfl (Nat.le_of_ble_eq_true rfl) (by decide) rfl rfl 106 rfl (fun rv h1 q75 => ?_)
                  obtain ⟨m76, n77, v80, rfl, rfl, I78, K79, pv80, qv80, rv80⟩ := q75
                  have K79c := K79
                  have K79 := K74.trans (K79.sub (wl_sub (by decide)))
                  show PV _ _ _ _ _ _ _ 106 [.ref 123, .int x0, .int x1, .int x2, .int x3, .int y22, .int y23, pv_U] [.int v80] _
                  refine pv_istore (M := mX12_parentOf) (lo2 := [.ref 123, .int x0, .int x1, .int x2, .int x3, .int y22, .int y23, .int v80]) dX12_parentOf_106 108 rfl (by decide) rfl rfl ?_
                  refine pv_iload (M := mX12_parentOf) dX12_parentOf_108 110 rfl rfl ?_
                  refine pv_aload_n (M := mX12_parentOf) 0 dX12_parentOf_110 111 rfl rfl rfl ?_
                  refine iv_get (M := mX12_parentOf) (l1 := (-2147483648)) (l2 := 2147483647) dX12_parentOf_111 FX12 61 wd1234 (by decide) (tl123 hT) rfl I78 rfl 114 rfl (fun v81 ev81 pv81 qv81 => ?_)
                  refine pv_icmp_lt (M := mX12_parentOf) (tgt := 120) dX12_parentOf_114 117 rfl (by decide) (fun c82 => ?_) (fun c82 => ?_)
                  · have c82 := iv_lt (X := v80.toInt) (Y := v81.toInt) c82 rfl rfl
                    refine pv_aload_n (M := mX12_parentOf) 0 dX12_parentOf_120 121 rfl rfl rfl ?_
                    refine pv_iload (M := mX12_parentOf) dX12_parentOf_121 123 rfl rfl ?_
                    refine iv_put (M := mX12_parentOf) (l1 := (-2147483648)) (l2 := 2147483647) dX12_parentOf_123 FX12 61 wd1234 (by decide) rfl (tl123 hT) rfl rfl rfl I78 rfl (iv_rng v80).1 (iv_rng v80).2 126 rfl (fun m83 e86 I84 => ?_)
                    have K85 := K79.set e86 rfl
                    refine pv_iload (M := mX12_parentOf) dX12_parentOf_126 128 rfl rfl ?_
                    refine pv_istore (M := mX12_parentOf) (lo2 := [.ref 123, .int x0, .int x1, .int x2, .int x3, .int y23, .int y23, .int v80]) dX12_parentOf_128 130 rfl (by decide) rfl rfl ?_
                    refine iv_inc (M := mX12_parentOf) (C := 1) dX12_parentOf_130 133 rfl rfl (by decide) rfl rfl (by decide) (by omega) (by omega) (fun v87 ev87 => ?_)
                    show PV _ _ _ _ _ _ _ 133 [.ref 123, .int x0, .int x1, .int x2, .int x3, .int y23, .int v87, .int v80] [] _
                    refine pv_goto (M := mX12_parentOf) (tgt := 28) dX12_parentOf_133 (by decide) ?_
                    refine pv_fg (lo2 := [.ref 123, .int x0, .int x1, .int x2, .int x3, .int y23, .int v87, pv_U]) ⟨Or.inr rfl, ⟨Or.inr rfl, ⟨Or.inr rfl, ⟨Or.inr rfl, ⟨Or.inr rfl, ⟨Or.inr rfl, ⟨Or.inr rfl, ⟨Or.inl rfl, trivial⟩⟩⟩⟩⟩⟩⟩⟩ ?_
                    exact ih30 y23 v87 m83 n77 (by first | omega | assumption | exact (iv_rng _).2 | exact (iv_rng _).1 | decide) (by first | omega | assumption | exact (iv_rng _).2 | exact (iv_rng _).1 | decide) (by first | omega | assumption | exact (iv_rng _).2 | exact (iv_rng _).1 | decide) (by first | omega | assumption | exact (iv_rng _).2 | exact (iv_rng _).1 | decide) I84 K85 (by omega)
                  · have c82 := iv_nlt (X := v80.toInt) (Y := v81.toInt) c82 rfl rfl
                    refine pv_goto (M := mX12_parentOf) (tgt := 130) dX12_parentOf_117 (by decide) ?_
                    refine iv_inc (M := mX12_parentOf) (C := 1) dX12_parentOf_130 133 rfl rfl (by decide) rfl rfl (by decide) (by omega) (by omega) (fun v88 ev88 => ?_)
                    show PV _ _ _ _ _ _ _ 133 [.ref 123, .int x0, .int x1, .int x2, .int x3, .int y22, .int v88, .int v80] [] _
                    refine pv_goto (M := mX12_parentOf) (tgt := 28) dX12_parentOf_133 (by decide) ?_
                    refine pv_fg (lo2 := [.ref 123, .int x0, .int x1, .int x2, .int x3, .int y22, .int v88, pv_U]) ⟨Or.inr rfl, ⟨Or.inr rfl, ⟨Or.inr rfl, ⟨Or.inr rfl, ⟨Or.inr rfl, ⟨Or.inr rfl, ⟨Or.inr rfl, ⟨Or.inl rfl, trivial⟩⟩⟩⟩⟩⟩⟩⟩ ?_
                    exact ih30 y22 v88 m76 n77 (by first | omega | assumption | exact (iv_rng _).2 | exact (iv_rng _).1 | decide) (by first | omega | assumption | exact (iv_rng _).2 | exact (iv_rng _).1 | decide) (by first | omega | assumption | exact (iv_rng _).2 | exact (iv_rng _).1 | decide) (by first | omega | assumption | exact (iv_rng _).2 | exact (iv_rng _).1 | decide) I78 K79 (by omega)
                · have c69 := iv_nle (X := y23.toInt) (Y := x3.toInt) c69 rfl rfl
                  refine pv_goto (M := mX12_parentOf) (tgt := 130) dX12_parentOf_92 (by decide) ?_
                  refine iv_inc (M := mX12_parentOf) (C := 1) dX12_parentOf_130 133 rfl rfl (by decide) rfl rfl (by decide) (by omega) (by omega) (fun v89 ev89 => ?_)
                  show PV _ _ _ _ _ _ _ 133 [.ref 123, .int x0, .int x1, .int x2, .int x3, .int y22, .int v89, pv_U] [] _
                  refine pv_goto (M := mX12_parentOf) (tgt := 28) dX12_parentOf_133 (by decide) ?_
                  exact ih30 y22 v89 m24 n25 (by first | omega | assumption | exact (iv_rng _).2 | exact (iv_rng _).1 | decide) (by first | omega | assumption | exact (iv_rng _).2 | exact (iv_rng _).1 | decide) (by first | omega | assumption | exact (iv_rng _).2 | exact (iv_rng _).1 | decide) (by first | omega | assumption | exact (iv_rng _).2 | exact (iv_rng _).1 | decide) I26 K27 (by omega)
  have z90 : (8 : Int32).toInt = 8 := by decide
  have z91 : (0 : Int32).toInt = 0 := by decide
  exact lp29 (((8 - 0) : Int).toNat + 1) 8 0 m18 n14 (by first | omega | assumption | exact (iv_rng _).2 | exact (iv_rng _).1 | decide) (by first | omega | assumption | exact (iv_rng _).2 | exact (iv_rng _).1 | decide) (by first | omega | assumption | exact (iv_rng _).2 | exact (iv_rng _).1 | decide) (by first | omega | assumption | exact (iv_rng _).2 | exact (iv_rng _).1 | decide) I19 K20 (by omega)

set_option maxHeartbeats 2000000 in
set_option maxRecDepth 20000 in
theorem s_X12_blankFor (g : pv_G) {T : List mv_T} {m : Nat → Nat → Int32} {n : Nat → Nat → Int64} {r : Nat → Value} (hT : TX T) (I : IV BB m) (x0 : Int32) (hl0 : 0 ≤ x0.toInt) (hh0 : x0.toInt ≤ 255) (x1 : Int32) (hl1 : 0 ≤ x1.toInt) (hh1 : x1.toInt ≤ 7) : PM g mX12_blankFor yX12_blankFor (sqP (mk T m n r) 0 8 (fun v => True)) 3 0 0 [.ref 123, .int x0, .int x1] (mk T m n r) := by
  have Kp : fr (wl []) m m := fr.rf
  refine PM.of 3 (lo := [.ref 123, .int x0, .int x1, pv_U, pv_U, pv_U]) rfl (by decide) rfl rfl (Nat.le_of_ble_eq_true rfl) ?_
  refine pv_iconst (M := mX12_blankFor) (v := 0) dX12_blankFor_0 1 rfl (by decide) ?_
  refine pv_istore_n (M := mX12_blankFor) 3 (lo2 := [.ref 123, .int x0, .int x1, .int 0, pv_U, pv_U]) dX12_blankFor_1 2 rfl rfl (by decide) rfl rfl ?_
  refine pv_iconst (M := mX12_blankFor) (v := 0) dX12_blankFor_2 3 rfl (by decide) ?_
  refine pv_istore (M := mX12_blankFor) (lo2 := [.ref 123, .int x0, .int x1, .int 0, .int 0, pv_U]) dX12_blankFor_3 5 rfl (by decide) rfl rfl ?_
  have lp8 : ∀ (fuel7 : Nat) (y1 : Int32) (y2 : Int32), (0 ≤ y1.toInt) → (y1.toInt ≤ 255) → (0 ≤ y2.toInt) → (y2.toInt ≤ 7) → (y2.toInt ≤ x1.toInt) → ((7 - y2.toInt) : Int).toNat < fuel7 → PV none g mX12_blankFor (sqP (mk T m n r) 0 8 (fun v => True)) 3 0 0 5 [.ref 123, .int x0, .int x1, .int y1, .int y2, pv_U] [] (mk T m n r) := by
    intro fuel7
    induction fuel7 with
    | zero => intro y1 y2 b10 b11 b12 b13 b14 z15; omega
    | succ fuel7 ih9 =>
      intro y1 y2 b10 b11 b12 b13 b14 z15
      refine pv_iconst (M := mX12_blankFor) (v := 0) dX12_blankFor_5 6 rfl (by decide) ?_
      refine pv_istore (M := mX12_blankFor) (lo2 := [.ref 123, .int x0, .int x1, .int y1, .int y2, .int 0]) dX12_blankFor_6 8 rfl (by decide) rfl rfl ?_
      have lp22 : ∀ (fuel21 : Nat) (y16 : Int32), (0 ≤ y16.toInt) → (y16.toInt ≤ 8) → ((8 - y16.toInt) : Int).toNat < fuel21 → PV none g mX12_blankFor (sqP (mk T m n r) 0 8 (fun v => True)) 3 0 0 8 [.ref 123, .int x0, .int x1, .int y1, .int y2, .int y16] [] (mk T m n r) := by
        intro fuel21
        induction fuel21 with
        | zero => intro y16 b24 b25 z26; omega
        | succ fuel21 ih23 =>
          intro y16 b24 b25 z26
          refine pv_iload (M := mX12_blankFor) dX12_blankFor_8 10 rfl rfl ?_
          refine pv_bipush (M := mX12_blankFor) (v := 8) dX12_blankFor_10 12 rfl (by decide) ?_
          refine pv_icmp_ge (M := mX12_blankFor) (tgt := 58) dX12_blankFor_12 15 rfl (by decide) (fun c27 => ?_) (fun c27 => ?_)
          · have c27 := iv_le (X := 8) (Y := y16.toInt) c27 (by decide) rfl
            refine pv_iload (M := mX12_blankFor) dX12_blankFor_58 60 rfl rfl ?_
            refine pv_iload_n (M := mX12_blankFor) 2 dX12_blankFor_60 61 rfl rfl rfl ?_
            refine pv_icmp_ne (M := mX12_blankFor) (tgt := 67) dX12_blankFor_61 64 rfl (by decide) (fun c28 => ?_) (fun c28 => ?_)
            · have c28 := iv_ne (X := y2.toInt) (Y := x1.toInt) c28 rfl rfl
              refine pv_iload (M := mX12_blankFor) dX12_blankFor_67 69 rfl rfl ?_
              refine pv_bipush (M := mX12_blankFor) (v := 8) dX12_blankFor_69 71 rfl (by decide) ?_
              refine pv_icmp_ne (M := mX12_blankFor) (tgt := 78) dX12_blankFor_71 74 rfl (by decide) (fun c29 => ?_) (fun c29 => ?_)
              · have c29 := iv_ne (X := y16.toInt) (Y := 8) c29 rfl (by decide)
                omega
              · have c29 := iv_eq (X := y16.toInt) (Y := 8) c29 rfl (by decide)
                refine pv_iload_n (M := mX12_blankFor) 3 dX12_blankFor_74 75 rfl rfl rfl ?_
                refine pv_goto (M := mX12_blankFor) (tgt := 84) dX12_blankFor_75 (by decide) ?_
                refine pv_istore_n (M := mX12_blankFor) 3 (lo2 := [.ref 123, .int x0, .int x1, .int y1, .int y2, .int y16]) dX12_blankFor_84 85 rfl rfl (by decide) rfl rfl ?_
                refine iv_inc (M := mX12_blankFor) (C := 1) dX12_blankFor_85 88 rfl rfl (by decide) rfl rfl (by decide) (by omega) (by omega) (fun v30 ev30 => ?_)
                show PV _ _ _ _ _ _ _ 88 [.ref 123, .int x0, .int x1, .int y1, .int v30, .int y16] [] _
                refine pv_goto (M := mX12_blankFor) (tgt := 5) dX12_blankFor_88 (by decide) ?_
                refine pv_fg (lo2 := [.ref 123, .int x0, .int x1, .int y1, .int v30, pv_U]) ⟨Or.inr rfl, ⟨Or.inr rfl, ⟨Or.inr rfl, ⟨Or.inr rfl, ⟨Or.inr rfl, ⟨Or.inl rfl, trivial⟩⟩⟩⟩⟩⟩ ?_
                exact ih9 y1 v30 (by first | omega | assumption | exact (iv_rng _).2 | exact (iv_rng _).1 | decide) (by first | omega | assumption | exact (iv_rng _).2 | exact (iv_rng _).1 | decide) (by first | omega | assumption | exact (iv_rng _).2 | exact (iv_rng _).1 | decide) (by first | omega | assumption | exact (iv_rng _).2 | exact (iv_rng _).1 | decide) (by first | omega | assumption | (show v30.toInt ≤ x1.toInt; omega) | decide) (by omega)
            · have c28 := iv_eq (X := y2.toInt) (Y := x1.toInt) c28 rfl rfl
              refine pv_iload (M := mX12_blankFor) dX12_blankFor_64 66 rfl rfl ?_
              exact pv_iret (M := mX12_blankFor) dX12_blankFor_66 rfl rfl ⟨_, rfl, rfl, by omega, by omega, trivial⟩
          · have c27 := iv_nle (X := 8) (Y := y16.toInt) c27 (by decide) rfl
            refine pv_iload_n (M := mX12_blankFor) 1 dX12_blankFor_15 16 rfl rfl rfl ?_
            refine pv_iload (M := mX12_blankFor) dX12_blankFor_16 18 rfl rfl ?_
            refine iv_shrU (M := mX12_blankFor) dX12_blankFor_18 19 rfl (fun v31 ev31 => ?_)
            refine pv_iconst (M := mX12_blankFor) (v := 1) dX12_blankFor_19 20 rfl (by decide) ?_
            refine iv_iandm (M := mX12_blankFor) dX12_blankFor_20 21 rfl 1 (by decide) (by decide) (fun v32 ev32 pv32 qv32 => ?_)
            have qv32 : v32.toInt < 2 := qv32
            refine pv_if_eq (M := mX12_blankFor) (tgt := 49) dX12_blankFor_21 24 rfl (by decide) (fun c33 => ?_) (fun c33 => ?_)
            · have c33 := iv_eq (X := v32.toInt) (Y := 0) c33 rfl (by decide)
              refine pv_iload (M := mX12_blankFor) dX12_blankFor_49 51 rfl rfl ?_
              refine pv_iconst (M := mX12_blankFor) (v := 1) dX12_blankFor_51 52 rfl (by decide) ?_
              refine iv_iadd (M := mX12_blankFor) (X := y16.toInt) (Y := 1) dX12_blankFor_52 53 rfl rfl (by decide) (by omega) (by omega) (fun v34 ev34 => ?_)
              refine pv_istore (M := mX12_blankFor) (lo2 := [.ref 123, .int x0, .int x1, .int y1, .int y2, .int v34]) dX12_blankFor_53 55 rfl (by decide) rfl rfl ?_
              refine pv_goto (M := mX12_blankFor) (tgt := 8) dX12_blankFor_55 (by decide) ?_
              exact ih23 v34 (by first | omega | assumption | exact (iv_rng _).2 | exact (iv_rng _).1 | decide) (by first | omega | assumption | exact (iv_rng _).2 | exact (iv_rng _).1 | decide) (by omega)
            · have c33 := iv_ne (X := v32.toInt) (Y := 0) c33 rfl (by decide)
              refine pv_aload_n (M := mX12_blankFor) 0 dX12_blankFor_24 25 rfl rfl rfl ?_
              refine pv_iload (M := mX12_blankFor) dX12_blankFor_25 27 rfl rfl ?_
              refine pv_iload (M := mX12_blankFor) dX12_blankFor_27 29 rfl rfl ?_
              refine pv_iload_n (M := mX12_blankFor) 3 dX12_blankFor_29 30 rfl rfl rfl ?_
              refine pv_callv (M := mX12_blankFor) (as := [.int y2, .int y16, .int y1]) (st := []) (kc2 := 0) (ks2 := 0) dX12_blankFor_30 wd1724 YX12_valueBy ⟨wd1726, wd113⟩ (mk_get (tl123 hT)) rfl rfl (s_X12_valueBy g hT I y2 (by omega) (by omega) y16 (by omega) (by omega) y1 (by omega) (by omega)) rfl rfl (Nat.le_of_ble_eq_true rfl) (by decide) rfl rfl 33 rfl (fun rv h1 q35 => ?_)
              obtain ⟨v36, rfl, rfl, pv36, qv36, rv36⟩ := q35
              show PV _ _ _ _ _ _ _ 33 [.ref 123, .int x0, .int x1, .int y1, .int y2, .int y16] [.int v36] _
              refine pv_aload_n (M := mX12_blankFor) 0 dX12_blankFor_33 34 rfl rfl rfl ?_
              refine mv_get (M := mX12_blankFor) (v := .ref 166) dX12_blankFor_34 FX12 60 wd1233 (by decide) (tl123 hT) rfl rfl 37 rfl ?_
              refine pv_sipush (M := mX12_blankFor) (v := 256) dX12_blankFor_37 40 rfl (by decide) ?_
              refine pv_iload (M := mX12_blankFor) dX12_blankFor_40 42 rfl rfl ?_
              refine iv_imul (M := mX12_blankFor) (X := 256) (Y := y2.toInt) dX12_blankFor_42 43 rfl (by decide) rfl (by omega) (by omega) (fun v37 ev37 => ?_)
              refine pv_iload_n (M := mX12_blankFor) 3 dX12_blankFor_43 44 rfl rfl rfl ?_
              refine iv_iadd (M := mX12_blankFor) (X := v37.toInt) (Y := y1.toInt) dX12_blankFor_44 45 rfl rfl rfl (by omega) (by omega) (fun v38 ev38 => ?_)
              refine iv_iald (M := mX12_blankFor) (X := v38.toInt) (l1 := (-2147483648)) (l2 := 2147483647) dX12_blankFor_45 (tl166 hT) rfl (by omega) (by omega) I (fun _ => rfl) 46 rfl (fun v39 ev39 pv39 qv39 => ?_)
              refine pv_icmp_eq (M := mX12_blankFor) (tgt := 58) dX12_blankFor_46 49 rfl (by decide) (fun c40 => ?_) (fun c40 => ?_)
              · have c40 := iv_eq (X := v36.toInt) (Y := v39.toInt) c40 rfl rfl
                refine pv_iload (M := mX12_blankFor) dX12_blankFor_58 60 rfl rfl ?_
                refine pv_iload_n (M := mX12_blankFor) 2 dX12_blankFor_60 61 rfl rfl rfl ?_
                refine pv_icmp_ne (M := mX12_blankFor) (tgt := 67) dX12_blankFor_61 64 rfl (by decide) (fun c41 => ?_) (fun c41 => ?_)
                · have c41 := iv_ne (X := y2.toInt) (Y := x1.toInt) c41 rfl rfl
                  refine pv_iload (M := mX12_blankFor) dX12_blankFor_67 69 rfl rfl ?_
                  refine pv_bipush (M := mX12_blankFor) (v := 8) dX12_blankFor_69 71 rfl (by decide) ?_
                  refine pv_icmp_ne (M := mX12_blankFor) (tgt := 78) dX12_blankFor_71 74 rfl (by decide) (fun c42 => ?_) (fun c42 => ?_)
                  · have c42 := iv_ne (X := y16.toInt) (Y := 8) c42 rfl (by decide)
                    refine pv_iload_n (M := mX12_blankFor) 3 dX12_blankFor_78 79 rfl rfl rfl ?_
                    refine pv_iconst (M := mX12_blankFor) (v := 1) dX12_blankFor_79 80 rfl (by decide) ?_
                    refine pv_iload (M := mX12_blankFor) dX12_blankFor_80 82 rfl rfl ?_
                    refine iv_shlU (M := mX12_blankFor) dX12_blankFor_82 83 rfl (fun v43 ev43 => ?_)
                    have pv43 : 1 ≤ v43.toInt ∧ v43.toInt ≤ 128 := by rw [ev43]; exact iv_sh17 (by omega) (by omega)
                    refine iv_orU (M := mX12_blankFor) dX12_blankFor_83 84 rfl (fun v44 ev44 => ?_)
                    have pv44 : 0 ≤ v44.toInt ∧ v44.toInt ≤ 255 := by rw [ev44]; exact iv_or8 (by omega) (by omega) (by omega) (by omega)
                    refine pv_istore_n (M := mX12_blankFor) 3 (lo2 := [.ref 123, .int x0, .int x1, .int v44, .int y2, .int y16]) dX12_blankFor_84 85 rfl rfl (by decide) rfl rfl ?_
                    refine iv_inc (M := mX12_blankFor) (C := 1) dX12_blankFor_85 88 rfl rfl (by decide) rfl rfl (by decide) (by omega) (by omega) (fun v45 ev45 => ?_)
                    show PV _ _ _ _ _ _ _ 88 [.ref 123, .int x0, .int x1, .int v44, .int v45, .int y16] [] _
                    refine pv_goto (M := mX12_blankFor) (tgt := 5) dX12_blankFor_88 (by decide) ?_
                    refine pv_fg (lo2 := [.ref 123, .int x0, .int x1, .int v44, .int v45, pv_U]) ⟨Or.inr rfl, ⟨Or.inr rfl, ⟨Or.inr rfl, ⟨Or.inr rfl, ⟨Or.inr rfl, ⟨Or.inl rfl, trivial⟩⟩⟩⟩⟩⟩ ?_
                    exact ih9 v44 v45 (by first | omega | assumption | exact (iv_rng _).2 | exact (iv_rng _).1 | decide) (by first | omega | assumption | exact (iv_rng _).2 | exact (iv_rng _).1 | decide) (by first | omega | assumption | exact (iv_rng _).2 | exact (iv_rng _).1 | decide) (by first | omega | assumption | exact (iv_rng _).2 | exact (iv_rng _).1 | decide) (by first | omega | assumption | (show v45.toInt ≤ x1.toInt; omega) | decide) (by omega)
                  · have c42 := iv_eq (X := y16.toInt) (Y := 8) c42 rfl (by decide)
                    omega
                · have c41 := iv_eq (X := y2.toInt) (Y := x1.toInt) c41 rfl rfl
                  refine pv_iload (M := mX12_blankFor) dX12_blankFor_64 66 rfl rfl ?_
                  exact pv_iret (M := mX12_blankFor) dX12_blankFor_66 rfl rfl ⟨_, rfl, rfl, by omega, by omega, trivial⟩
              · have c40 := iv_ne (X := v36.toInt) (Y := v39.toInt) c40 rfl rfl
                refine pv_iload (M := mX12_blankFor) dX12_blankFor_49 51 rfl rfl ?_
                refine pv_iconst (M := mX12_blankFor) (v := 1) dX12_blankFor_51 52 rfl (by decide) ?_
                refine iv_iadd (M := mX12_blankFor) (X := y16.toInt) (Y := 1) dX12_blankFor_52 53 rfl rfl (by decide) (by omega) (by omega) (fun v46 ev46 => ?_)
                refine pv_istore (M := mX12_blankFor) (lo2 := [.ref 123, .int x0, .int x1, .int y1, .int y2, .int v46]) dX12_blankFor_53 55 rfl (by decide) rfl rfl ?_
                refine pv_goto (M := mX12_blankFor) (tgt := 8) dX12_blankFor_55 (by decide) ?_
                exact ih23 v46 (by first | omega | assumption | exact (iv_rng _).2 | exact (iv_rng _).1 | decide) (by first | omega | assumption | exact (iv_rng _).2 | exact (iv_rng _).1 | decide) (by omega)
      have z47 : (0 : Int32).toInt = 0 := by decide
      exact lp22 (((8 - 0) : Int).toNat + 1) 0 (by first | omega | assumption | exact (iv_rng _).2 | exact (iv_rng _).1 | decide) (by first | omega | assumption | exact (iv_rng _).2 | exact (iv_rng _).1 | decide) (by omega)
  have z48 : (0 : Int32).toInt = 0 := by decide
  have z49 : (0 : Int32).toInt = 0 := by decide
  exact lp8 (((7 - 0) : Int).toNat + 1) 0 0 (by first | omega | assumption | exact (iv_rng _).2 | exact (iv_rng _).1 | decide) (by first | omega | assumption | exact (iv_rng _).2 | exact (iv_rng _).1 | decide) (by first | omega | assumption | exact (iv_rng _).2 | exact (iv_rng _).1 | decide) (by first | omega | assumption | exact (iv_rng _).2 | exact (iv_rng _).1 | decide) (by first | omega | assumption | (show 0 ≤ x1.toInt; omega) | decide) (by omega)

set_option maxHeartbeats 2000000 in
set_option maxRecDepth 20000 in
theorem s_X12_dayEnd (g : pv_G) {T : List mv_T} {m : Nat → Nat → Int32} {n : Nat → Nat → Int64} {r : Nat → Value} (hT : TX T) (I : IV BB m) (x0 : Int32) (x1 : Int32) : PM g mX12_dayEnd yX12_dayEnd (sqI T BB (wl [(123, 123, some 40), (123, 123, some 41), (149, 149, none), (150, 150, none), (165, 165, none), (166, 166, none)]) r m (-2147483648) 2147483647 (fun m' v => True)) 4 0 0 [.ref 123, .int x0, .int x1] (mk T m n r) := by
  have Kp : fr (wl [(123, 123, some 40), (123, 123, some 41), (149, 149, none), (150, 150, none), (165, 165, none), (166, 166, none)]) m m := fr.rf
  refine PM.of 0 (lo := [.ref 123, .int x0, .int x1]) rfl (by decide) rfl rfl (Nat.le_of_ble_eq_true rfl) ?_
  refine pv_aload_n (M := mX12_dayEnd) 0 dX12_dayEnd_0 1 rfl rfl rfl ?_
  refine pv_iload_n (M := mX12_dayEnd) 1 dX12_dayEnd_1 2 rfl rfl rfl ?_
  refine pv_callv (M := mX12_dayEnd) (as := [.int x0]) (st := []) (kc2 := 0) (ks2 := 0) dX12_dayEnd_2 wd1704 YX12_areSet ⟨wd1706, wd109⟩ (mk_get (tl123 hT)) rfl rfl (s_X12_areSet g hT I x0) rfl rfl (Nat.le_of_ble_eq_true rfl) (by decide) rfl rfl 5 rfl (fun rv h1 q1 => ?_)
  obtain ⟨v2, rfl, rfl, pv2, qv2, rv2⟩ := q1
  replace rv2 : v2 = 0 ∨ (0 ≤ x0.toInt ∧ x0.toInt ≤ 255) := rv2
  show PV _ _ _ _ _ _ _ 5 [.ref 123, .int x0, .int x1] [.int v2] _
  refine pv_if_eq (M := mX12_dayEnd) (tgt := 28) dX12_dayEnd_5 8 rfl (by decide) (fun c3 => ?_) (fun c3 => ?_)
  · have c3 := iv_eq (X := v2.toInt) (Y := 0) c3 rfl (by decide)
    refine pv_iconst (M := mX12_dayEnd) (v := (-1)) dX12_dayEnd_28 29 rfl (by decide) ?_
    exact pv_iret (M := mX12_dayEnd) dX12_dayEnd_29 rfl rfl ⟨_, _, _, rfl, rfl, I, Kp, by decide, by decide, trivial⟩
  · have pc3 := rv2.resolve_left c3
    have c3 := iv_ne (X := v2.toInt) (Y := 0) c3 rfl (by decide)
    refine pv_iload_n (M := mX12_dayEnd) 1 dX12_dayEnd_8 9 rfl rfl rfl ?_
    refine pv_if_eq (M := mX12_dayEnd) (tgt := 28) dX12_dayEnd_9 12 rfl (by decide) (fun c4 => ?_) (fun c4 => ?_)
    · have c4 := iv_eq (X := x0.toInt) (Y := 0) c4 rfl (by decide)
      refine pv_iconst (M := mX12_dayEnd) (v := (-1)) dX12_dayEnd_28 29 rfl (by decide) ?_
      exact pv_iret (M := mX12_dayEnd) dX12_dayEnd_29 rfl rfl ⟨_, _, _, rfl, rfl, I, Kp, by decide, by decide, trivial⟩
    · have c4 := iv_ne (X := x0.toInt) (Y := 0) c4 rfl (by decide)
      refine pv_iload_n (M := mX12_dayEnd) 2 dX12_dayEnd_12 13 rfl rfl rfl ?_
      refine pv_bipush (M := mX12_dayEnd) (v := 10) dX12_dayEnd_13 15 rfl (by decide) ?_
      refine pv_icmp_eq (M := mX12_dayEnd) (tgt := 30) dX12_dayEnd_15 18 rfl (by decide) (fun c5 => ?_) (fun c5 => ?_)
      · have c5 := iv_eq (X := x1.toInt) (Y := 10) c5 rfl (by decide)
        refine pv_iload_n (M := mX12_dayEnd) 2 dX12_dayEnd_30 31 rfl rfl rfl ?_
        refine pv_iconst (M := mX12_dayEnd) (v := 0) dX12_dayEnd_31 32 rfl (by decide) ?_
        refine pv_bipush (M := mX12_dayEnd) (v := 7) dX12_dayEnd_32 34 rfl (by decide) ?_
        have z6 : (0 : Int32).toInt = 0 := by decide
        have z7 : (7 : Int32).toInt = 7 := by decide
        refine pv_calls (M := mX12_dayEnd) (as := [.int x1, .int 0, .int 7]) (st := []) (kc2 := 0) (ks2 := 0) dX12_dayEnd_34 wd1370 YX12_in wd1371 (s_X12_in g hT I x1 0 7) rfl rfl (Nat.le_of_ble_eq_true rfl) (by decide) rfl rfl 37 rfl (fun rv h1 q8 => ?_)
        obtain ⟨v9, rfl, rfl, pv9, qv9, rv9⟩ := q8
        replace rv9 : v9 = 0 ∨ ((0 : Int) ≤ x1.toInt ∧ x1.toInt ≤ (7 : Int)) := by have q_ := rv9; (try rw [z6] at q_); (try rw [z7] at q_); exact q_
        show PV _ _ _ _ _ _ _ 37 [.ref 123, .int x0, .int x1] [.int v9] _
        refine pv_if_eq (M := mX12_dayEnd) (tgt := 51) dX12_dayEnd_37 40 rfl (by decide) (fun c10 => ?_) (fun c10 => ?_)
        · have c10 := iv_eq (X := v9.toInt) (Y := 0) c10 rfl (by decide)
          refine pv_aload_n (M := mX12_dayEnd) 0 dX12_dayEnd_51 52 rfl rfl rfl ?_
          refine pv_iload_n (M := mX12_dayEnd) 1 dX12_dayEnd_52 53 rfl rfl rfl ?_
          refine pv_callv (M := mX12_dayEnd) (as := [.int x0]) (st := []) (kc2 := 0) (ks2 := 0) dX12_dayEnd_53 wd1716 YX12_laysEnd ⟨wd1718, wd111⟩ (mk_get (tl123 hT)) rfl rfl (s_X12_laysEnd g hT I x0 (by omega) (by omega)) rfl rfl (Nat.le_of_ble_eq_true rfl) (by decide) rfl rfl 56 rfl (fun rv h1 q11 => ?_)
          obtain ⟨m12, n13, rfl, rfl, I14, K15, rm12⟩ := q11
          have K15c := K15
          have K15 := Kp.trans (K15.sub (fun _ _ q => q))
          show PV _ _ _ _ _ _ _ 56 [.ref 123, .int x0, .int x1] [] _
          refine pv_iload_n (M := mX12_dayEnd) 2 dX12_dayEnd_56 57 rfl rfl rfl ?_
          refine pv_iconst (M := mX12_dayEnd) (v := (-1)) dX12_dayEnd_57 58 rfl (by decide) ?_
          refine pv_icmp_ne (M := mX12_dayEnd) (tgt := 72) dX12_dayEnd_58 61 rfl (by decide) (fun c16 => ?_) (fun c16 => ?_)
          · have c16 := iv_ne (X := x1.toInt) (Y := (-1)) c16 rfl (by decide)
            refine pv_iload_n (M := mX12_dayEnd) 2 dX12_dayEnd_72 73 rfl rfl rfl ?_
            refine pv_bipush (M := mX12_dayEnd) (v := 10) dX12_dayEnd_73 75 rfl (by decide) ?_
            refine pv_icmp_ne (M := mX12_dayEnd) (tgt := 91) dX12_dayEnd_75 78 rfl (by decide) (fun c17 => ?_) (fun c17 => ?_)
            · have c17 := iv_ne (X := x1.toInt) (Y := 10) c17 rfl (by decide)
              omega
            · have c17 := iv_eq (X := x1.toInt) (Y := 10) c17 rfl (by decide)
              refine pv_aload_n (M := mX12_dayEnd) 0 dX12_dayEnd_78 79 rfl rfl rfl ?_
              refine pv_aload_n (M := mX12_dayEnd) 0 dX12_dayEnd_79 80 rfl rfl rfl ?_
              refine mv_get (M := mX12_dayEnd) (v := .ref 166) dX12_dayEnd_80 FX12 60 wd1233 (by decide) (tl123 hT) rfl rfl 83 rfl ?_
              refine pv_iconst (M := mX12_dayEnd) (v := 0) dX12_dayEnd_83 84 rfl (by decide) ?_
              refine iv_iald (M := mX12_dayEnd) (X := 0) (l1 := (-2147483648)) (l2 := 2147483647) dX12_dayEnd_84 (tl166 hT) (by decide) (by omega) (by omega) I14 (fun _ => rfl) 85 rfl (fun v18 ev18 pv18 qv18 => ?_)
              refine pv_callv (M := mX12_dayEnd) (as := [.int v18]) (st := []) (kc2 := 0) (ks2 := 0) dX12_dayEnd_85 wd1733 YX12_lostOf ⟨wd1735, wd115⟩ (mk_get (tl123 hT)) rfl rfl (s_X12_lostOf g hT I14 v18) rfl rfl (Nat.le_of_ble_eq_true rfl) (by decide) rfl rfl 88 rfl (fun rv h1 q19 => ?_)
              obtain ⟨v20, rfl, rfl, pv20, qv20, rv20⟩ := q19
              show PV _ _ _ _ _ _ _ 88 [.ref 123, .int x0, .int x1] [.int v20] _
              refine pv_goto (M := mX12_dayEnd) (tgt := 97) dX12_dayEnd_88 (by decide) ?_
              exact pv_iret (M := mX12_dayEnd) dX12_dayEnd_97 rfl rfl ⟨_, _, _, rfl, rfl, I14, K15, (iv_rng v20).1, (iv_rng v20).2, trivial⟩
          · have c16 := iv_eq (X := x1.toInt) (Y := (-1)) c16 rfl (by decide)
            omega
        · have pc10 := rv9.resolve_left c10
          have c10 := iv_ne (X := v9.toInt) (Y := 0) c10 rfl (by decide)
          refine pv_iload_n (M := mX12_dayEnd) 1 dX12_dayEnd_40 41 rfl rfl rfl ?_
          refine pv_iload_n (M := mX12_dayEnd) 2 dX12_dayEnd_41 42 rfl rfl rfl ?_
          refine iv_shrU (M := mX12_dayEnd) dX12_dayEnd_42 43 rfl (fun v21 ev21 => ?_)
          refine pv_iconst (M := mX12_dayEnd) (v := 1) dX12_dayEnd_43 44 rfl (by decide) ?_
          refine iv_iandm (M := mX12_dayEnd) dX12_dayEnd_44 45 rfl 1 (by decide) (by decide) (fun v22 ev22 pv22 qv22 => ?_)
          have qv22 : v22.toInt < 2 := qv22
          refine pv_if_ne (M := mX12_dayEnd) (tgt := 51) dX12_dayEnd_45 48 rfl (by decide) (fun c23 => ?_) (fun c23 => ?_)
          · have c23 := iv_ne (X := v22.toInt) (Y := 0) c23 rfl (by decide)
            refine pv_aload_n (M := mX12_dayEnd) 0 dX12_dayEnd_51 52 rfl rfl rfl ?_
            refine pv_iload_n (M := mX12_dayEnd) 1 dX12_dayEnd_52 53 rfl rfl rfl ?_
            refine pv_callv (M := mX12_dayEnd) (as := [.int x0]) (st := []) (kc2 := 0) (ks2 := 0) dX12_dayEnd_53 wd1716 YX12_laysEnd ⟨wd1718, wd111⟩ (mk_get (tl123 hT)) rfl rfl (s_X12_laysEnd g hT I x0 (by omega) (by omega)) rfl rfl (Nat.le_of_ble_eq_true rfl) (by decide) rfl rfl 56 rfl (fun rv h1 q24 => ?_)
            obtain ⟨m25, n26, rfl, rfl, I27, K28, rm25⟩ := q24
            have K28c := K28
            have K28 := Kp.trans (K28.sub (fun _ _ q => q))
            show PV _ _ _ _ _ _ _ 56 [.ref 123, .int x0, .int x1] [] _
            refine pv_iload_n (M := mX12_dayEnd) 2 dX12_dayEnd_56 57 rfl rfl rfl ?_
            refine pv_iconst (M := mX12_dayEnd) (v := (-1)) dX12_dayEnd_57 58 rfl (by decide) ?_
            refine pv_icmp_ne (M := mX12_dayEnd) (tgt := 72) dX12_dayEnd_58 61 rfl (by decide) (fun c29 => ?_) (fun c29 => ?_)
            · have c29 := iv_ne (X := x1.toInt) (Y := (-1)) c29 rfl (by decide)
              omega
            · have c29 := iv_eq (X := x1.toInt) (Y := (-1)) c29 rfl (by decide)
              omega
          · have c23 := iv_eq (X := v22.toInt) (Y := 0) c23 rfl (by decide)
            refine pv_bipush (M := mX12_dayEnd) (v := (-2)) dX12_dayEnd_48 50 rfl (by decide) ?_
            exact pv_iret (M := mX12_dayEnd) dX12_dayEnd_50 rfl rfl ⟨_, _, _, rfl, rfl, I, Kp, by decide, by decide, trivial⟩
      · have c5 := iv_ne (X := x1.toInt) (Y := 10) c5 rfl (by decide)
        refine pv_iload_n (M := mX12_dayEnd) 2 dX12_dayEnd_18 19 rfl rfl rfl ?_
        refine pv_iconst (M := mX12_dayEnd) (v := (-1)) dX12_dayEnd_19 20 rfl (by decide) ?_
        refine pv_bipush (M := mX12_dayEnd) (v := 7) dX12_dayEnd_20 22 rfl (by decide) ?_
        have z30 : ((-1) : Int32).toInt = (-1) := by decide
        have z31 : (7 : Int32).toInt = 7 := by decide
        refine pv_calls (M := mX12_dayEnd) (as := [.int x1, .int (-1), .int 7]) (st := []) (kc2 := 0) (ks2 := 0) dX12_dayEnd_22 wd1370 YX12_in wd1371 (s_X12_in g hT I x1 (-1) 7) rfl rfl (Nat.le_of_ble_eq_true rfl) (by decide) rfl rfl 25 rfl (fun rv h1 q32 => ?_)
        obtain ⟨v33, rfl, rfl, pv33, qv33, rv33⟩ := q32
        replace rv33 : v33 = 0 ∨ ((-1 : Int) ≤ x1.toInt ∧ x1.toInt ≤ (7 : Int)) := by have q_ := rv33; (try rw [z30] at q_); (try rw [z31] at q_); exact q_
        show PV _ _ _ _ _ _ _ 25 [.ref 123, .int x0, .int x1] [.int v33] _
        refine pv_if_ne (M := mX12_dayEnd) (tgt := 30) dX12_dayEnd_25 28 rfl (by decide) (fun c34 => ?_) (fun c34 => ?_)
        · have pc34 := rv33.resolve_left c34
          have c34 := iv_ne (X := v33.toInt) (Y := 0) c34 rfl (by decide)
          refine pv_iload_n (M := mX12_dayEnd) 2 dX12_dayEnd_30 31 rfl rfl rfl ?_
          refine pv_iconst (M := mX12_dayEnd) (v := 0) dX12_dayEnd_31 32 rfl (by decide) ?_
          refine pv_bipush (M := mX12_dayEnd) (v := 7) dX12_dayEnd_32 34 rfl (by decide) ?_
          have z35 : (0 : Int32).toInt = 0 := by decide
          have z36 : (7 : Int32).toInt = 7 := by decide
          refine pv_calls (M := mX12_dayEnd) (as := [.int x1, .int 0, .int 7]) (st := []) (kc2 := 0) (ks2 := 0) dX12_dayEnd_34 wd1370 YX12_in wd1371 (s_X12_in g hT I x1 0 7) rfl rfl (Nat.le_of_ble_eq_true rfl) (by decide) rfl rfl 37 rfl (fun rv h1 q37 => ?_)
          obtain ⟨v38, rfl, rfl, pv38, qv38, rv38⟩ := q37
          replace rv38 : v38 = 0 ∨ ((0 : Int) ≤ x1.toInt ∧ x1.toInt ≤ (7 : Int)) := by have q_ := rv38; (try rw [z35] at q_); (try rw [z36] at q_); exact q_
          show PV _ _ _ _ _ _ _ 37 [.ref 123, .int x0, .int x1] [.int v38] _
          refine pv_if_eq (M := mX12_dayEnd) (tgt := 51) dX12_dayEnd_37 40 rfl (by decide) (fun c39 => ?_) (fun c39 => ?_)
          · have c39 := iv_eq (X := v38.toInt) (Y := 0) c39 rfl (by decide)
            refine pv_aload_n (M := mX12_dayEnd) 0 dX12_dayEnd_51 52 rfl rfl rfl ?_
            refine pv_iload_n (M := mX12_dayEnd) 1 dX12_dayEnd_52 53 rfl rfl rfl ?_
            refine pv_callv (M := mX12_dayEnd) (as := [.int x0]) (st := []) (kc2 := 0) (ks2 := 0) dX12_dayEnd_53 wd1716 YX12_laysEnd ⟨wd1718, wd111⟩ (mk_get (tl123 hT)) rfl rfl (s_X12_laysEnd g hT I x0 (by omega) (by omega)) rfl rfl (Nat.le_of_ble_eq_true rfl) (by decide) rfl rfl 56 rfl (fun rv h1 q40 => ?_)
            obtain ⟨m41, n42, rfl, rfl, I43, K44, rm41⟩ := q40
            have K44c := K44
            have K44 := Kp.trans (K44.sub (fun _ _ q => q))
            show PV _ _ _ _ _ _ _ 56 [.ref 123, .int x0, .int x1] [] _
            refine pv_iload_n (M := mX12_dayEnd) 2 dX12_dayEnd_56 57 rfl rfl rfl ?_
            refine pv_iconst (M := mX12_dayEnd) (v := (-1)) dX12_dayEnd_57 58 rfl (by decide) ?_
            refine pv_icmp_ne (M := mX12_dayEnd) (tgt := 72) dX12_dayEnd_58 61 rfl (by decide) (fun c45 => ?_) (fun c45 => ?_)
            · have c45 := iv_ne (X := x1.toInt) (Y := (-1)) c45 rfl (by decide)
              refine pv_iload_n (M := mX12_dayEnd) 2 dX12_dayEnd_72 73 rfl rfl rfl ?_
              refine pv_bipush (M := mX12_dayEnd) (v := 10) dX12_dayEnd_73 75 rfl (by decide) ?_
              refine pv_icmp_ne (M := mX12_dayEnd) (tgt := 91) dX12_dayEnd_75 78 rfl (by decide) (fun c46 => ?_) (fun c46 => ?_)
              · have c46 := iv_ne (X := x1.toInt) (Y := 10) c46 rfl (by decide)
                refine pv_aload_n (M := mX12_dayEnd) 0 dX12_dayEnd_91 92 rfl rfl rfl ?_
                refine pv_iload_n (M := mX12_dayEnd) 1 dX12_dayEnd_92 93 rfl rfl rfl ?_
                refine pv_iload_n (M := mX12_dayEnd) 2 dX12_dayEnd_93 94 rfl rfl rfl ?_
                refine pv_callv (M := mX12_dayEnd) (as := [.int x0, .int x1]) (st := []) (kc2 := 0) (ks2 := 0) dX12_dayEnd_94 wd1737 YX12_blankFor ⟨wd1739, wd116⟩ (mk_get (tl123 hT)) rfl rfl (s_X12_blankFor g hT I43 x0 (by omega) (by omega) x1 (by omega) (by omega)) rfl rfl (Nat.le_of_ble_eq_true rfl) (by decide) rfl rfl 97 rfl (fun rv h1 q47 => ?_)
                obtain ⟨v48, rfl, rfl, pv48, qv48, rv48⟩ := q47
                show PV _ _ _ _ _ _ _ 97 [.ref 123, .int x0, .int x1] [.int v48] _
                exact pv_iret (M := mX12_dayEnd) dX12_dayEnd_97 rfl rfl ⟨_, _, _, rfl, rfl, I43, K44, (iv_rng v48).1, (iv_rng v48).2, trivial⟩
              · have c46 := iv_eq (X := x1.toInt) (Y := 10) c46 rfl (by decide)
                omega
            · have c45 := iv_eq (X := x1.toInt) (Y := (-1)) c45 rfl (by decide)
              refine pv_aload_n (M := mX12_dayEnd) 0 dX12_dayEnd_61 62 rfl rfl rfl ?_
              refine pv_aload_n (M := mX12_dayEnd) 0 dX12_dayEnd_62 63 rfl rfl rfl ?_
              refine mv_get (M := mX12_dayEnd) (v := .ref 166) dX12_dayEnd_63 FX12 60 wd1233 (by decide) (tl123 hT) rfl rfl 66 rfl ?_
              refine pv_iconst (M := mX12_dayEnd) (v := 0) dX12_dayEnd_66 67 rfl (by decide) ?_
              refine iv_iald (M := mX12_dayEnd) (X := 0) (l1 := (-2147483648)) (l2 := 2147483647) dX12_dayEnd_67 (tl166 hT) (by decide) (by omega) (by omega) I43 (fun _ => rfl) 68 rfl (fun v49 ev49 pv49 qv49 => ?_)
              refine pv_callv (M := mX12_dayEnd) (as := [.int v49]) (st := []) (kc2 := 0) (ks2 := 0) dX12_dayEnd_68 wd1729 YX12_manyOf ⟨wd1731, wd114⟩ (mk_get (tl123 hT)) rfl rfl (s_X12_manyOf g hT I43 v49) rfl rfl (Nat.le_of_ble_eq_true rfl) (by decide) rfl rfl 71 rfl (fun rv h1 q50 => ?_)
              obtain ⟨v51, rfl, rfl, pv51, qv51, rv51⟩ := q50
              show PV _ _ _ _ _ _ _ 71 [.ref 123, .int x0, .int x1] [.int v51] _
              exact pv_iret (M := mX12_dayEnd) dX12_dayEnd_71 rfl rfl ⟨_, _, _, rfl, rfl, I43, K44, (iv_rng v51).1, (iv_rng v51).2, trivial⟩
          · have pc39 := rv38.resolve_left c39
            have c39 := iv_ne (X := v38.toInt) (Y := 0) c39 rfl (by decide)
            refine pv_iload_n (M := mX12_dayEnd) 1 dX12_dayEnd_40 41 rfl rfl rfl ?_
            refine pv_iload_n (M := mX12_dayEnd) 2 dX12_dayEnd_41 42 rfl rfl rfl ?_
            refine iv_shrU (M := mX12_dayEnd) dX12_dayEnd_42 43 rfl (fun v52 ev52 => ?_)
            refine pv_iconst (M := mX12_dayEnd) (v := 1) dX12_dayEnd_43 44 rfl (by decide) ?_
            refine iv_iandm (M := mX12_dayEnd) dX12_dayEnd_44 45 rfl 1 (by decide) (by decide) (fun v53 ev53 pv53 qv53 => ?_)
            have qv53 : v53.toInt < 2 := qv53
            refine pv_if_ne (M := mX12_dayEnd) (tgt := 51) dX12_dayEnd_45 48 rfl (by decide) (fun c54 => ?_) (fun c54 => ?_)
            · have c54 := iv_ne (X := v53.toInt) (Y := 0) c54 rfl (by decide)
              refine pv_aload_n (M := mX12_dayEnd) 0 dX12_dayEnd_51 52 rfl rfl rfl ?_
              refine pv_iload_n (M := mX12_dayEnd) 1 dX12_dayEnd_52 53 rfl rfl rfl ?_
              refine pv_callv (M := mX12_dayEnd) (as := [.int x0]) (st := []) (kc2 := 0) (ks2 := 0) dX12_dayEnd_53 wd1716 YX12_laysEnd ⟨wd1718, wd111⟩ (mk_get (tl123 hT)) rfl rfl (s_X12_laysEnd g hT I x0 (by omega) (by omega)) rfl rfl (Nat.le_of_ble_eq_true rfl) (by decide) rfl rfl 56 rfl (fun rv h1 q55 => ?_)
              obtain ⟨m56, n57, rfl, rfl, I58, K59, rm56⟩ := q55
              have K59c := K59
              have K59 := Kp.trans (K59.sub (fun _ _ q => q))
              show PV _ _ _ _ _ _ _ 56 [.ref 123, .int x0, .int x1] [] _
              refine pv_iload_n (M := mX12_dayEnd) 2 dX12_dayEnd_56 57 rfl rfl rfl ?_
              refine pv_iconst (M := mX12_dayEnd) (v := (-1)) dX12_dayEnd_57 58 rfl (by decide) ?_
              refine pv_icmp_ne (M := mX12_dayEnd) (tgt := 72) dX12_dayEnd_58 61 rfl (by decide) (fun c60 => ?_) (fun c60 => ?_)
              · have c60 := iv_ne (X := x1.toInt) (Y := (-1)) c60 rfl (by decide)
                refine pv_iload_n (M := mX12_dayEnd) 2 dX12_dayEnd_72 73 rfl rfl rfl ?_
                refine pv_bipush (M := mX12_dayEnd) (v := 10) dX12_dayEnd_73 75 rfl (by decide) ?_
                refine pv_icmp_ne (M := mX12_dayEnd) (tgt := 91) dX12_dayEnd_75 78 rfl (by decide) (fun c61 => ?_) (fun c61 => ?_)
                · have c61 := iv_ne (X := x1.toInt) (Y := 10) c61 rfl (by decide)
                  refine pv_aload_n (M := mX12_dayEnd) 0 dX12_dayEnd_91 92 rfl rfl rfl ?_
                  refine pv_iload_n (M := mX12_dayEnd) 1 dX12_dayEnd_92 93 rfl rfl rfl ?_
                  refine pv_iload_n (M := mX12_dayEnd) 2 dX12_dayEnd_93 94 rfl rfl rfl ?_
                  refine pv_callv (M := mX12_dayEnd) (as := [.int x0, .int x1]) (st := []) (kc2 := 0) (ks2 := 0) dX12_dayEnd_94 wd1737 YX12_blankFor ⟨wd1739, wd116⟩ (mk_get (tl123 hT)) rfl rfl (s_X12_blankFor g hT I58 x0 (by omega) (by omega) x1 (by omega) (by omega)) rfl rfl (Nat.le_of_ble_eq_true rfl) (by decide) rfl rfl 97 rfl (fun rv h1 q62 => ?_)
                  obtain ⟨v63, rfl, rfl, pv63, qv63, rv63⟩ := q62
                  show PV _ _ _ _ _ _ _ 97 [.ref 123, .int x0, .int x1] [.int v63] _
                  exact pv_iret (M := mX12_dayEnd) dX12_dayEnd_97 rfl rfl ⟨_, _, _, rfl, rfl, I58, K59, (iv_rng v63).1, (iv_rng v63).2, trivial⟩
                · have c61 := iv_eq (X := x1.toInt) (Y := 10) c61 rfl (by decide)
                  omega
              · have c60 := iv_eq (X := x1.toInt) (Y := (-1)) c60 rfl (by decide)
                omega
            · have c54 := iv_eq (X := v53.toInt) (Y := 0) c54 rfl (by decide)
              refine pv_bipush (M := mX12_dayEnd) (v := (-2)) dX12_dayEnd_48 50 rfl (by decide) ?_
              exact pv_iret (M := mX12_dayEnd) dX12_dayEnd_50 rfl rfl ⟨_, _, _, rfl, rfl, I, Kp, by decide, by decide, trivial⟩
        · have c34 := iv_eq (X := v33.toInt) (Y := 0) c34 rfl (by decide)
          refine pv_iconst (M := mX12_dayEnd) (v := (-1)) dX12_dayEnd_28 29 rfl (by decide) ?_
          exact pv_iret (M := mX12_dayEnd) dX12_dayEnd_29 rfl rfl ⟨_, _, _, rfl, rfl, I, Kp, by decide, by decide, trivial⟩

set_option maxHeartbeats 2000000 in
set_option maxRecDepth 20000 in
theorem s_X12_family (g : pv_G) {T : List mv_T} {m : Nat → Nat → Int32} {n : Nat → Nat → Int64} {r : Nat → Value} (hT : TX T) (I : IV BB m) (x0 : Int32) (x1 : Int32) (x2 : Int32) (x3 : Int32) : PM g mX12_family yX12_family (sqI T BB (wl [(123, 123, some 40), (123, 123, some 41), (123, 123, some 61), (149, 149, none), (150, 150, none), (155, 155, none)]) r m (-2147483648) 2147483647 (fun m' v => True)) 4 0 0 [.ref 123, .int x0, .int x1, .int x2, .int x3] (mk T m n r) := by
  have Kp : fr (wl [(123, 123, some 40), (123, 123, some 41), (123, 123, some 61), (149, 149, none), (150, 150, none), (155, 155, none)]) m m := fr.rf
  refine PM.of 2 (lo := [.ref 123, .int x0, .int x1, .int x2, .int x3, pv_U, pv_U]) rfl (by decide) rfl rfl (Nat.le_of_ble_eq_true rfl) ?_
  refine pv_aload_n (M := mX12_family) 0 dX12_family_0 1 rfl rfl rfl ?_
  refine pv_iload_n (M := mX12_family) 1 dX12_family_1 2 rfl rfl rfl ?_
  refine pv_callv (M := mX12_family) (as := [.int x0]) (st := []) (kc2 := 0) (ks2 := 0) dX12_family_2 wd1389 YX12_isBlank ⟨wd1391, wd55⟩ (mk_get (tl123 hT)) rfl rfl (s_X12_isBlank g hT I x0) rfl rfl (Nat.le_of_ble_eq_true rfl) (by decide) rfl rfl 5 rfl (fun rv h1 q1 => ?_)
  obtain ⟨v2, rfl, rfl, pv2, qv2, rv2⟩ := q1
  replace rv2 : v2 = 0 ∨ (0 ≤ x0.toInt ∧ x0.toInt ≤ 7) := rv2
  show PV _ _ _ _ _ _ _ 5 [.ref 123, .int x0, .int x1, .int x2, .int x3, pv_U, pv_U] [.int v2] _
  refine pv_if_eq (M := mX12_family) (tgt := 41) dX12_family_5 8 rfl (by decide) (fun c3 => ?_) (fun c3 => ?_)
  · have c3 := iv_eq (X := v2.toInt) (Y := 0) c3 rfl (by decide)
    refine pv_iconst (M := mX12_family) (v := (-1)) dX12_family_41 42 rfl (by decide) ?_
    exact pv_iret (M := mX12_family) dX12_family_42 rfl rfl ⟨_, _, _, rfl, rfl, I, Kp, by decide, by decide, trivial⟩
  · have pc3 := rv2.resolve_left c3
    have c3 := iv_ne (X := v2.toInt) (Y := 0) c3 rfl (by decide)
    refine pv_aload_n (M := mX12_family) 0 dX12_family_8 9 rfl rfl rfl ?_
    refine pv_iload_n (M := mX12_family) 2 dX12_family_9 10 rfl rfl rfl ?_
    refine pv_callv (M := mX12_family) (as := [.int x1]) (st := []) (kc2 := 0) (ks2 := 0) dX12_family_10 wd1704 YX12_areSet ⟨wd1706, wd109⟩ (mk_get (tl123 hT)) rfl rfl (s_X12_areSet g hT I x1) rfl rfl (Nat.le_of_ble_eq_true rfl) (by decide) rfl rfl 13 rfl (fun rv h1 q4 => ?_)
    obtain ⟨v5, rfl, rfl, pv5, qv5, rv5⟩ := q4
    replace rv5 : v5 = 0 ∨ (0 ≤ x1.toInt ∧ x1.toInt ≤ 255) := rv5
    show PV _ _ _ _ _ _ _ 13 [.ref 123, .int x0, .int x1, .int x2, .int x3, pv_U, pv_U] [.int v5] _
    refine pv_if_eq (M := mX12_family) (tgt := 41) dX12_family_13 16 rfl (by decide) (fun c6 => ?_) (fun c6 => ?_)
    · have c6 := iv_eq (X := v5.toInt) (Y := 0) c6 rfl (by decide)
      refine pv_iconst (M := mX12_family) (v := (-1)) dX12_family_41 42 rfl (by decide) ?_
      exact pv_iret (M := mX12_family) dX12_family_42 rfl rfl ⟨_, _, _, rfl, rfl, I, Kp, by decide, by decide, trivial⟩
    · have pc6 := rv5.resolve_left c6
      have c6 := iv_ne (X := v5.toInt) (Y := 0) c6 rfl (by decide)
      refine pv_iload_n (M := mX12_family) 2 dX12_family_16 17 rfl rfl rfl ?_
      refine pv_if_eq (M := mX12_family) (tgt := 41) dX12_family_17 20 rfl (by decide) (fun c7 => ?_) (fun c7 => ?_)
      · have c7 := iv_eq (X := x1.toInt) (Y := 0) c7 rfl (by decide)
        refine pv_iconst (M := mX12_family) (v := (-1)) dX12_family_41 42 rfl (by decide) ?_
        exact pv_iret (M := mX12_family) dX12_family_42 rfl rfl ⟨_, _, _, rfl, rfl, I, Kp, by decide, by decide, trivial⟩
      · have c7 := iv_ne (X := x1.toInt) (Y := 0) c7 rfl (by decide)
        refine pv_iload_n (M := mX12_family) 3 dX12_family_20 21 rfl rfl rfl ?_
        refine pv_iconst (M := mX12_family) (v := 1) dX12_family_21 22 rfl (by decide) ?_
        refine pv_bipush (M := mX12_family) (v := 9) dX12_family_22 24 rfl (by decide) ?_
        have z8 : (1 : Int32).toInt = 1 := by decide
        have z9 : (9 : Int32).toInt = 9 := by decide
        refine pv_calls (M := mX12_family) (as := [.int x2, .int 1, .int 9]) (st := []) (kc2 := 0) (ks2 := 0) dX12_family_24 wd1370 YX12_in wd1371 (s_X12_in g hT I x2 1 9) rfl rfl (Nat.le_of_ble_eq_true rfl) (by decide) rfl rfl 27 rfl (fun rv h1 q10 => ?_)
        obtain ⟨v11, rfl, rfl, pv11, qv11, rv11⟩ := q10
        replace rv11 : v11 = 0 ∨ ((1 : Int) ≤ x2.toInt ∧ x2.toInt ≤ (9 : Int)) := by have q_ := rv11; (try rw [z8] at q_); (try rw [z9] at q_); exact q_
        show PV _ _ _ _ _ _ _ 27 [.ref 123, .int x0, .int x1, .int x2, .int x3, pv_U, pv_U] [.int v11] _
        refine pv_if_eq (M := mX12_family) (tgt := 41) dX12_family_27 30 rfl (by decide) (fun c12 => ?_) (fun c12 => ?_)
        · have c12 := iv_eq (X := v11.toInt) (Y := 0) c12 rfl (by decide)
          refine pv_iconst (M := mX12_family) (v := (-1)) dX12_family_41 42 rfl (by decide) ?_
          exact pv_iret (M := mX12_family) dX12_family_42 rfl rfl ⟨_, _, _, rfl, rfl, I, Kp, by decide, by decide, trivial⟩
        · have pc12 := rv11.resolve_left c12
          have c12 := iv_ne (X := v11.toInt) (Y := 0) c12 rfl (by decide)
          refine pv_iload (M := mX12_family) dX12_family_30 32 rfl rfl ?_
          refine pv_iconst (M := mX12_family) (v := (-1)) dX12_family_32 33 rfl (by decide) ?_
          refine pv_bipush (M := mX12_family) (v := 7) dX12_family_33 35 rfl (by decide) ?_
          have z13 : ((-1) : Int32).toInt = (-1) := by decide
          have z14 : (7 : Int32).toInt = 7 := by decide
          refine pv_calls (M := mX12_family) (as := [.int x3, .int (-1), .int 7]) (st := []) (kc2 := 0) (ks2 := 0) dX12_family_35 wd1370 YX12_in wd1371 (s_X12_in g hT I x3 (-1) 7) rfl rfl (Nat.le_of_ble_eq_true rfl) (by decide) rfl rfl 38 rfl (fun rv h1 q15 => ?_)
          obtain ⟨v16, rfl, rfl, pv16, qv16, rv16⟩ := q15
          replace rv16 : v16 = 0 ∨ ((-1 : Int) ≤ x3.toInt ∧ x3.toInt ≤ (7 : Int)) := by have q_ := rv16; (try rw [z13] at q_); (try rw [z14] at q_); exact q_
          show PV _ _ _ _ _ _ _ 38 [.ref 123, .int x0, .int x1, .int x2, .int x3, pv_U, pv_U] [.int v16] _
          refine pv_if_ne (M := mX12_family) (tgt := 43) dX12_family_38 41 rfl (by decide) (fun c17 => ?_) (fun c17 => ?_)
          · have pc17 := rv16.resolve_left c17
            have c17 := iv_ne (X := v16.toInt) (Y := 0) c17 rfl (by decide)
            refine pv_aload_n (M := mX12_family) 0 dX12_family_43 44 rfl rfl rfl ?_
            refine pv_iload_n (M := mX12_family) 1 dX12_family_44 45 rfl rfl rfl ?_
            refine pv_iconst (M := mX12_family) (v := 1) dX12_family_45 46 rfl (by decide) ?_
            have z18 : (1 : Int32).toInt = 1 := by decide
            refine pv_callv (M := mX12_family) (as := [.int x0, .int 1]) (st := []) (kc2 := 0) (ks2 := 0) dX12_family_46 wd1563 YX12_laysBlank ⟨wd1565, wd88⟩ (mk_get (tl123 hT)) rfl rfl (s_X12_laysBlank g hT I x0 (by omega) (by omega) 1 (by decide) (by decide)) rfl rfl (Nat.le_of_ble_eq_true rfl) (by decide) rfl rfl 49 rfl (fun rv h1 q19 => ?_)
            obtain ⟨m20, n21, rfl, rfl, I22, K23, rm20⟩ := q19
            replace rm20 : (1 : Int) = 0 → (m20 123 40).toInt = nu m20 x0.toInt 0 := by have q_ := rm20; (try rw [z18] at q_); exact q_
            have K23c := K23
            have K23 := Kp.trans (K23.sub (wl_sub (by decide)))
            show PV _ _ _ _ _ _ _ 49 [.ref 123, .int x0, .int x1, .int x2, .int x3, pv_U, pv_U] [] _
            refine pv_aload_n (M := mX12_family) 0 dX12_family_49 50 rfl rfl rfl ?_
            refine pv_iload_n (M := mX12_family) 2 dX12_family_50 51 rfl rfl rfl ?_
            refine pv_iconst (M := mX12_family) (v := (-1)) dX12_family_51 52 rfl (by decide) ?_
            refine pv_callv (M := mX12_family) (as := [.int x1, .int (-1)]) (st := []) (kc2 := 0) (ks2 := 0) dX12_family_52 wd1708 YX12_comeAll ⟨wd1710, wd110⟩ (mk_get (tl123 hT)) rfl rfl (s_X12_comeAll g hT I22 x1 (by omega) (by omega) (-1)) rfl rfl (Nat.le_of_ble_eq_true rfl) (by decide) rfl rfl 55 rfl (fun rv h1 q24 => ?_)
            obtain ⟨m25, n26, v29, rfl, rfl, I27, K28, pv29, qv29, rv29⟩ := q24
            have K28c := K28
            have K28 := K23.trans (K28.sub (wl_sub (by decide)))
            show PV _ _ _ _ _ _ _ 55 [.ref 123, .int x0, .int x1, .int x2, .int x3, pv_U, pv_U] [.int v29] _
            refine pv_if_eq (M := mX12_family) (tgt := 73) dX12_family_55 58 rfl (by decide) (fun c30 => ?_) (fun c30 => ?_)
            · have c30 := iv_eq (X := v29.toInt) (Y := 0) c30 rfl (by decide)
              refine pv_bipush (M := mX12_family) (v := (-2)) dX12_family_73 75 rfl (by decide) ?_
              exact pv_iret (M := mX12_family) dX12_family_75 rfl rfl ⟨_, _, _, rfl, rfl, I27, K28, by decide, by decide, trivial⟩
            · have c30 := iv_ne (X := v29.toInt) (Y := 0) c30 rfl (by decide)
              refine pv_iload (M := mX12_family) dX12_family_58 60 rfl rfl ?_
              refine pv_iconst (M := mX12_family) (v := (-1)) dX12_family_60 61 rfl (by decide) ?_
              refine pv_icmp_eq (M := mX12_family) (tgt := 76) dX12_family_61 64 rfl (by decide) (fun c31 => ?_) (fun c31 => ?_)
              · have c31 := iv_eq (X := x3.toInt) (Y := (-1)) c31 rfl (by decide)
                refine pv_iload (M := mX12_family) dX12_family_76 78 rfl rfl ?_
                refine pv_iconst (M := mX12_family) (v := (-1)) dX12_family_78 79 rfl (by decide) ?_
                refine pv_icmp_eq (M := mX12_family) (tgt := 92) dX12_family_79 82 rfl (by decide) (fun c32 => ?_) (fun c32 => ?_)
                · have c32 := iv_eq (X := x3.toInt) (Y := (-1)) c32 rfl (by decide)
                  refine pv_iconst (M := mX12_family) (v := 0) dX12_family_92 93 rfl (by decide) ?_
                  refine pv_istore (M := mX12_family) (lo2 := [.ref 123, .int x0, .int x1, .int x2, .int x3, .int 0, pv_U]) dX12_family_93 95 rfl (by decide) rfl rfl ?_
                  refine pv_iconst (M := mX12_family) (v := 0) dX12_family_95 96 rfl (by decide) ?_
                  refine pv_istore (M := mX12_family) (lo2 := [.ref 123, .int x0, .int x1, .int x2, .int x3, .int 0, .int 0]) dX12_family_96 98 rfl (by decide) rfl rfl ?_
                  have lp40 : ∀ (fuel39 : Nat) (y33 : Int32) (y34 : Int32) (m35 : Nat → Nat → Int32) (n36 : Nat → Nat → Int64), (0 ≤ y34.toInt) → (y34.toInt ≤ 8) → IV BB m35 → fr (wl [(123, 123, some 40), (123, 123, some 41), (123, 123, some 61), (149, 149, none), (150, 150, none), (155, 155, none)]) m m35 → ((8 - y34.toInt) : Int).toNat < fuel39 → PV none g mX12_family (sqI T BB (wl [(123, 123, some 40), (123, 123, some 41), (123, 123, some 61), (149, 149, none), (150, 150, none), (155, 155, none)]) r m (-2147483648) 2147483647 (fun m' v => True)) 4 0 0 98 [.ref 123, .int x0, .int x1, .int x2, .int x3, .int y33, .int y34] [] (mk T m35 n36 r) := by
                    intro fuel39
                    induction fuel39 with
                    | zero => intro y33 y34 m35 n36 b42 b43 I37 K38 z44; omega
                    | succ fuel39 ih41 =>
                      intro y33 y34 m35 n36 b42 b43 I37 K38 z44
                      refine pv_iload (M := mX12_family) dX12_family_98 100 rfl rfl ?_
                      refine pv_bipush (M := mX12_family) (v := 8) dX12_family_100 102 rfl (by decide) ?_
                      refine pv_icmp_ge (M := mX12_family) (tgt := 142) dX12_family_102 105 rfl (by decide) (fun c45 => ?_) (fun c45 => ?_)
                      · have c45 := iv_le (X := 8) (Y := y34.toInt) c45 (by decide) rfl
                        refine pv_iload (M := mX12_family) dX12_family_142 144 rfl rfl ?_
                        exact pv_iret (M := mX12_family) dX12_family_144 rfl rfl ⟨_, _, _, rfl, rfl, I37, K38, (iv_rng y33).1, (iv_rng y33).2, trivial⟩
                      · have c45 := iv_nle (X := 8) (Y := y34.toInt) c45 (by decide) rfl
                        refine pv_iload_n (M := mX12_family) 2 dX12_family_105 106 rfl rfl rfl ?_
                        refine pv_iload (M := mX12_family) dX12_family_106 108 rfl rfl ?_
                        refine iv_shrU (M := mX12_family) dX12_family_108 109 rfl (fun v46 ev46 => ?_)
                        refine pv_iconst (M := mX12_family) (v := 1) dX12_family_109 110 rfl (by decide) ?_
                        refine iv_iandm (M := mX12_family) dX12_family_110 111 rfl 1 (by decide) (by decide) (fun v47 ev47 pv47 qv47 => ?_)
                        have qv47 : v47.toInt < 2 := qv47
                        refine pv_if_ne (M := mX12_family) (tgt := 117) dX12_family_111 114 rfl (by decide) (fun c48 => ?_) (fun c48 => ?_)
                        · have c48 := iv_ne (X := v47.toInt) (Y := 0) c48 rfl (by decide)
                          refine pv_aload_n (M := mX12_family) 0 dX12_family_117 118 rfl rfl rfl ?_
                          refine pv_iload_n (M := mX12_family) 1 dX12_family_118 119 rfl rfl rfl ?_
                          refine pv_iload_n (M := mX12_family) 2 dX12_family_119 120 rfl rfl rfl ?_
                          refine pv_iload_n (M := mX12_family) 3 dX12_family_120 121 rfl rfl rfl ?_
                          refine pv_iload (M := mX12_family) dX12_family_121 123 rfl rfl ?_
                          refine pv_callv (M := mX12_family) (as := [.int x0, .int x1, .int x2, .int y34]) (st := []) (kc2 := 0) (ks2 := 0) dX12_family_123 wd1749 YX12_parentOf ⟨wd1751, wd117⟩ (mk_get (tl123 hT)) rfl rfl (s_X12_parentOf g hT I37 x0 (by omega) (by omega) x1 (by omega) (by omega) x2 (by omega) (by omega) y34 (by omega) (by omega)) rfl rfl (Nat.le_of_ble_eq_true rfl) (by decide) rfl rfl 126 rfl (fun rv h1 q49 => ?_)
                          obtain ⟨m50, n51, v54, rfl, rfl, I52, K53, pv54, qv54, rv54⟩ := q49
                          have K53c := K53
                          have K53 := K38.trans (K53.sub (fun _ _ q => q))
                          show PV _ _ _ _ _ _ _ 126 [.ref 123, .int x0, .int x1, .int x2, .int x3, .int y33, .int y34] [.int v54] _
                          refine pv_pop (M := mX12_family) dX12_family_126 127 rfl rfl ?_
                          refine pv_iload (M := mX12_family) dX12_family_127 129 rfl rfl ?_
                          refine pv_aload_n (M := mX12_family) 0 dX12_family_129 130 rfl rfl rfl ?_
                          refine iv_get (M := mX12_family) (l1 := (-2147483648)) (l2 := 2147483647) dX12_family_130 FX12 61 wd1234 (by decide) (tl123 hT) rfl I52 rfl 133 rfl (fun v55 ev55 pv55 qv55 => ?_)
                          refine iv_addU (M := mX12_family) dX12_family_133 134 rfl (fun v56 ev56 => ?_)
                          refine pv_istore (M := mX12_family) (lo2 := [.ref 123, .int x0, .int x1, .int x2, .int x3, .int v56, .int y34]) dX12_family_134 136 rfl (by decide) rfl rfl ?_
                          refine iv_inc (M := mX12_family) (C := 1) dX12_family_136 139 rfl rfl (by decide) rfl rfl (by decide) (by omega) (by omega) (fun v57 ev57 => ?_)
                          show PV _ _ _ _ _ _ _ 139 [.ref 123, .int x0, .int x1, .int x2, .int x3, .int v56, .int v57] [] _
                          refine pv_goto (M := mX12_family) (tgt := 98) dX12_family_139 (by decide) ?_
                          exact ih41 v56 v57 m50 n51 (by first | omega | assumption | exact (iv_rng _).2 | exact (iv_rng _).1 | decide) (by first | omega | assumption | exact (iv_rng _).2 | exact (iv_rng _).1 | decide) I52 K53 (by omega)
                        · have c48 := iv_eq (X := v47.toInt) (Y := 0) c48 rfl (by decide)
                          refine pv_goto (M := mX12_family) (tgt := 136) dX12_family_114 (by decide) ?_
                          refine iv_inc (M := mX12_family) (C := 1) dX12_family_136 139 rfl rfl (by decide) rfl rfl (by decide) (by omega) (by omega) (fun v58 ev58 => ?_)
                          show PV _ _ _ _ _ _ _ 139 [.ref 123, .int x0, .int x1, .int x2, .int x3, .int y33, .int v58] [] _
                          refine pv_goto (M := mX12_family) (tgt := 98) dX12_family_139 (by decide) ?_
                          exact ih41 y33 v58 m35 n36 (by first | omega | assumption | exact (iv_rng _).2 | exact (iv_rng _).1 | decide) (by first | omega | assumption | exact (iv_rng _).2 | exact (iv_rng _).1 | decide) I37 K38 (by omega)
                  have z59 : (0 : Int32).toInt = 0 := by decide
                  have z60 : (0 : Int32).toInt = 0 := by decide
                  exact lp40 (((8 - 0) : Int).toNat + 1) 0 0 m25 n26 (by first | omega | assumption | exact (iv_rng _).2 | exact (iv_rng _).1 | decide) (by first | omega | assumption | exact (iv_rng _).2 | exact (iv_rng _).1 | decide) I27 K28 (by omega)
                · have c32 := iv_ne (X := x3.toInt) (Y := (-1)) c32 rfl (by decide)
                  omega
              · have c31 := iv_ne (X := x3.toInt) (Y := (-1)) c31 rfl (by decide)
                refine pv_iload_n (M := mX12_family) 2 dX12_family_64 65 rfl rfl rfl ?_
                refine pv_iload (M := mX12_family) dX12_family_65 67 rfl rfl ?_
                refine iv_shrU (M := mX12_family) dX12_family_67 68 rfl (fun v61 ev61 => ?_)
                refine pv_iconst (M := mX12_family) (v := 1) dX12_family_68 69 rfl (by decide) ?_
                refine iv_iandm (M := mX12_family) dX12_family_69 70 rfl 1 (by decide) (by decide) (fun v62 ev62 pv62 qv62 => ?_)
                have qv62 : v62.toInt < 2 := qv62
                refine pv_if_ne (M := mX12_family) (tgt := 76) dX12_family_70 73 rfl (by decide) (fun c63 => ?_) (fun c63 => ?_)
                · have c63 := iv_ne (X := v62.toInt) (Y := 0) c63 rfl (by decide)
                  refine pv_iload (M := mX12_family) dX12_family_76 78 rfl rfl ?_
                  refine pv_iconst (M := mX12_family) (v := (-1)) dX12_family_78 79 rfl (by decide) ?_
                  refine pv_icmp_eq (M := mX12_family) (tgt := 92) dX12_family_79 82 rfl (by decide) (fun c64 => ?_) (fun c64 => ?_)
                  · have c64 := iv_eq (X := x3.toInt) (Y := (-1)) c64 rfl (by decide)
                    omega
                  · have c64 := iv_ne (X := x3.toInt) (Y := (-1)) c64 rfl (by decide)
                    refine pv_aload_n (M := mX12_family) 0 dX12_family_82 83 rfl rfl rfl ?_
                    refine pv_iload_n (M := mX12_family) 1 dX12_family_83 84 rfl rfl rfl ?_
                    refine pv_iload_n (M := mX12_family) 2 dX12_family_84 85 rfl rfl rfl ?_
                    refine pv_iload_n (M := mX12_family) 3 dX12_family_85 86 rfl rfl rfl ?_
                    refine pv_iload (M := mX12_family) dX12_family_86 88 rfl rfl ?_
                    refine pv_callv (M := mX12_family) (as := [.int x0, .int x1, .int x2, .int x3]) (st := []) (kc2 := 0) (ks2 := 0) dX12_family_88 wd1749 YX12_parentOf ⟨wd1751, wd117⟩ (mk_get (tl123 hT)) rfl rfl (s_X12_parentOf g hT I27 x0 (by omega) (by omega) x1 (by omega) (by omega) x2 (by omega) (by omega) x3 (by omega) (by omega)) rfl rfl (Nat.le_of_ble_eq_true rfl) (by decide) rfl rfl 91 rfl (fun rv h1 q65 => ?_)
                    obtain ⟨m66, n67, v70, rfl, rfl, I68, K69, pv70, qv70, rv70⟩ := q65
                    have K69c := K69
                    have K69 := K28.trans (K69.sub (fun _ _ q => q))
                    show PV _ _ _ _ _ _ _ 91 [.ref 123, .int x0, .int x1, .int x2, .int x3, pv_U, pv_U] [.int v70] _
                    exact pv_iret (M := mX12_family) dX12_family_91 rfl rfl ⟨_, _, _, rfl, rfl, I68, K69, (iv_rng v70).1, (iv_rng v70).2, trivial⟩
                · have c63 := iv_eq (X := v62.toInt) (Y := 0) c63 rfl (by decide)
                  refine pv_bipush (M := mX12_family) (v := (-2)) dX12_family_73 75 rfl (by decide) ?_
                  exact pv_iret (M := mX12_family) dX12_family_75 rfl rfl ⟨_, _, _, rfl, rfl, I27, K28, by decide, by decide, trivial⟩
          · have c17 := iv_eq (X := v16.toInt) (Y := 0) c17 rfl (by decide)
            refine pv_iconst (M := mX12_family) (v := (-1)) dX12_family_41 42 rfl (by decide) ?_
            exact pv_iret (M := mX12_family) dX12_family_42 rfl rfl ⟨_, _, _, rfl, rfl, I, Kp, by decide, by decide, trivial⟩

set_option maxHeartbeats 2000000 in
set_option maxRecDepth 20000 in
theorem s_X12_even (g : pv_G) {T : List mv_T} {m : Nat → Nat → Int32} {n : Nat → Nat → Int64} {r : Nat → Value} (hT : TX T) (I : IV BB m) (x0 : Int32) (x1 : Int32) (x2 : Int32) : PM g mX12_even yX12_even (sqJ T BB (wl [(123, 123, some 40), (123, 123, some 41), (149, 149, none), (150, 150, none)]) r m (fun m' => True)) 3 0 0 [.ref 123, .int x0, .int x1, .int x2] (mk T m n r) := by
  have Kp : fr (wl [(123, 123, some 40), (123, 123, some 41), (149, 149, none), (150, 150, none)]) m m := fr.rf
  refine PM.of 5 (lo := [.ref 123, .int x0, .int x1, .int x2, pv_U, pv_U, pv_U, pv_U, pv_U]) rfl (by decide) rfl rfl (Nat.le_of_ble_eq_true rfl) ?_
  refine pv_aload_n (M := mX12_even) 0 dX12_even_0 1 rfl rfl rfl ?_
  refine pv_iload_n (M := mX12_even) 1 dX12_even_1 2 rfl rfl rfl ?_
  refine pv_iload_n (M := mX12_even) 2 dX12_even_2 3 rfl rfl rfl ?_
  refine pv_callv (M := mX12_even) (as := [.int x0, .int x1]) (st := []) (kc2 := 0) (ks2 := 0) dX12_even_3 wd1554 YX12_isAsked ⟨wd1556, wd86⟩ (mk_get (tl123 hT)) rfl rfl (s_X12_isAsked g hT I x0 x1) rfl rfl (Nat.le_of_ble_eq_true rfl) (by decide) rfl rfl 6 rfl (fun rv h1 q1 => ?_)
  obtain ⟨v2, rfl, rfl, pv2, qv2, rv2⟩ := q1
  replace rv2 : v2 = 0 ∨ ((0 ≤ x0.toInt ∧ x0.toInt ≤ 7) ∧ (0 ≤ x1.toInt ∧ x1.toInt ≤ 7)) := rv2
  show PV _ _ _ _ _ _ _ 6 [.ref 123, .int x0, .int x1, .int x2, pv_U, pv_U, pv_U, pv_U, pv_U] [.int v2] _
  refine pv_if_eq (M := mX12_even) (tgt := 19) dX12_even_6 9 rfl (by decide) (fun c3 => ?_) (fun c3 => ?_)
  · have c3 := iv_eq (X := v2.toInt) (Y := 0) c3 rfl (by decide)
    refine pv_ldc2 (M := mX12_even) (v := (-1)) dX12_even_19 22 rfl wd1562 ?_
    exact pv_lret (M := mX12_even) dX12_even_22 rfl ⟨_, _, _, rfl, rfl, I, Kp, trivial⟩
  · have pc3 := rv2.resolve_left c3
    have c3 := iv_ne (X := v2.toInt) (Y := 0) c3 rfl (by decide)
    refine pv_iload_n (M := mX12_even) 3 dX12_even_9 10 rfl rfl rfl ?_
    refine pv_iconst (M := mX12_even) (v := 1) dX12_even_10 11 rfl (by decide) ?_
    refine pv_bipush (M := mX12_even) (v := 9) dX12_even_11 13 rfl (by decide) ?_
    have z4 : (1 : Int32).toInt = 1 := by decide
    have z5 : (9 : Int32).toInt = 9 := by decide
    refine pv_calls (M := mX12_even) (as := [.int x2, .int 1, .int 9]) (st := []) (kc2 := 0) (ks2 := 0) dX12_even_13 wd1370 YX12_in wd1371 (s_X12_in g hT I x2 1 9) rfl rfl (Nat.le_of_ble_eq_true rfl) (by decide) rfl rfl 16 rfl (fun rv h1 q6 => ?_)
    obtain ⟨v7, rfl, rfl, pv7, qv7, rv7⟩ := q6
    replace rv7 : v7 = 0 ∨ ((1 : Int) ≤ x2.toInt ∧ x2.toInt ≤ (9 : Int)) := by have q_ := rv7; (try rw [z4] at q_); (try rw [z5] at q_); exact q_
    show PV _ _ _ _ _ _ _ 16 [.ref 123, .int x0, .int x1, .int x2, pv_U, pv_U, pv_U, pv_U, pv_U] [.int v7] _
    refine pv_if_ne (M := mX12_even) (tgt := 23) dX12_even_16 19 rfl (by decide) (fun c8 => ?_) (fun c8 => ?_)
    · have pc8 := rv7.resolve_left c8
      have c8 := iv_ne (X := v7.toInt) (Y := 0) c8 rfl (by decide)
      refine pv_aload_n (M := mX12_even) 0 dX12_even_23 24 rfl rfl rfl ?_
      refine pv_iload_n (M := mX12_even) 1 dX12_even_24 25 rfl rfl rfl ?_
      refine pv_iconst (M := mX12_even) (v := 0) dX12_even_25 26 rfl (by decide) ?_
      have z9 : (0 : Int32).toInt = 0 := by decide
      refine pv_callv (M := mX12_even) (as := [.int x0, .int 0]) (st := []) (kc2 := 0) (ks2 := 0) dX12_even_26 wd1563 YX12_laysBlank ⟨wd1565, wd88⟩ (mk_get (tl123 hT)) rfl rfl (s_X12_laysBlank g hT I x0 (by omega) (by omega) 0 (by decide) (by decide)) rfl rfl (Nat.le_of_ble_eq_true rfl) (by decide) rfl rfl 29 rfl (fun rv h1 q10 => ?_)
      obtain ⟨m11, n12, rfl, rfl, I13, K14, rm11⟩ := q10
      replace rm11 : (0 : Int) = 0 → (m11 123 40).toInt = nu m11 x0.toInt 0 := by have q_ := rm11; (try rw [z9] at q_); exact q_
      have K14c := K14
      have K14 := Kp.trans (K14.sub (wl_sub (by decide)))
      show PV _ _ _ _ _ _ _ 29 [.ref 123, .int x0, .int x1, .int x2, pv_U, pv_U, pv_U, pv_U, pv_U] [] _
      refine pv_aload_n (M := mX12_even) 0 dX12_even_29 30 rfl rfl rfl ?_
      refine pv_iload_n (M := mX12_even) 2 dX12_even_30 31 rfl rfl rfl ?_
      refine pv_callv (M := mX12_even) (as := [.int x1]) (st := []) (kc2 := 0) (ks2 := 0) dX12_even_31 wd1567 YX12_laysDeed ⟨wd1569, wd89⟩ (mk_get (tl123 hT)) rfl rfl (s_X12_laysDeed g hT I13 x1 (by omega) (by omega)) rfl rfl (Nat.le_of_ble_eq_true rfl) (by decide) rfl rfl 34 rfl (fun rv h1 q15 => ?_)
      obtain ⟨m16, n17, rfl, rfl, I18, K19, rm16⟩ := q15
      have K19c := K19
      have K19 := K14.trans (K19.sub (wl_sub (by decide)))
      show PV _ _ _ _ _ _ _ 34 [.ref 123, .int x0, .int x1, .int x2, pv_U, pv_U, pv_U, pv_U, pv_U] [] _
      refine pv_iconst (M := mX12_even) (v := 0) dX12_even_34 35 rfl (by decide) ?_
      refine pv_istore (M := mX12_even) (lo2 := [.ref 123, .int x0, .int x1, .int x2, .int 0, pv_U, pv_U, pv_U, pv_U]) dX12_even_35 37 rfl (by decide) rfl rfl ?_
      have lp26 : ∀ (fuel25 : Nat) (y20 : Int32) (m21 : Nat → Nat → Int32) (n22 : Nat → Nat → Int64), (0 ≤ y20.toInt) → (y20.toInt ≤ 17) → IV BB m21 → fr (wl [(123, 123, some 40), (123, 123, some 41), (149, 149, none), (150, 150, none)]) m m21 → ((17 - y20.toInt) : Int).toNat < fuel25 → PV none g mX12_even (sqJ T BB (wl [(123, 123, some 40), (123, 123, some 41), (149, 149, none), (150, 150, none)]) r m (fun m' => True)) 3 0 0 37 [.ref 123, .int x0, .int x1, .int x2, .int y20, pv_U, pv_U, pv_U, pv_U] [] (mk T m21 n22 r) := by
        intro fuel25
        induction fuel25 with
        | zero => intro y20 m21 n22 b28 b29 I23 K24 z30; omega
        | succ fuel25 ih27 =>
          intro y20 m21 n22 b28 b29 I23 K24 z30
          refine pv_iload (M := mX12_even) dX12_even_37 39 rfl rfl ?_
          refine pv_aload_n (M := mX12_even) 0 dX12_even_39 40 rfl rfl rfl ?_
          refine iv_get (M := mX12_even) (l1 := 0) (l2 := 16) dX12_even_40 FX12 41 wd1214 (by decide) (tl123 hT) rfl I23 rfl 43 rfl (fun v31 ev31 pv31 qv31 => ?_)
          refine pv_icmp_gt (M := mX12_even) (tgt := 185) dX12_even_43 46 rfl (by decide) (fun c32 => ?_) (fun c32 => ?_)
          · have c32 := iv_lt (X := v31.toInt) (Y := y20.toInt) c32 rfl rfl
            refine pv_lconst (M := mX12_even) (v := 0) dX12_even_185 186 rfl (by decide) ?_
            refine pv_lstore (M := mX12_even) (lo2 := [.ref 123, .int x0, .int x1, .int x2, .long 0, pv_U, pv_U, pv_U, pv_U]) dX12_even_186 188 rfl (by decide) rfl rfl ?_
            refine pv_iconst (M := mX12_even) (v := 0) dX12_even_188 189 rfl (by decide) ?_
            refine pv_istore (M := mX12_even) (lo2 := [.ref 123, .int x0, .int x1, .int x2, .long 0, pv_U, .int 0, pv_U, pv_U]) dX12_even_189 191 rfl (by decide) rfl rfl ?_
            have lp40 : ∀ (fuel39 : Nat) (y33 : Int64) (y34 : Int32), (0 ≤ y34.toInt) → (y34.toInt ≤ 41) → ((41 - y34.toInt) : Int).toNat < fuel39 → PV none g mX12_even (sqJ T BB (wl [(123, 123, some 40), (123, 123, some 41), (149, 149, none), (150, 150, none)]) r m (fun m' => True)) 3 0 0 191 [.ref 123, .int x0, .int x1, .int x2, .long y33, pv_U, .int y34, pv_U, pv_U] [] (mk T m21 n22 r) := by
              intro fuel39
              induction fuel39 with
              | zero => intro y33 y34 b42 b43 z44; omega
              | succ fuel39 ih41 =>
                intro y33 y34 b42 b43 z44
                refine pv_iload (M := mX12_even) dX12_even_191 193 rfl rfl ?_
                refine pv_aload_n (M := mX12_even) 0 dX12_even_193 194 rfl rfl rfl ?_
                refine iv_get (M := mX12_even) (l1 := 0) (l2 := 40) dX12_even_194 FX12 40 wd1213 (by decide) (tl123 hT) rfl I23 rfl 197 rfl (fun v45 ev45 pv45 qv45 => ?_)
                refine pv_icmp_gt (M := mX12_even) (tgt := 242) dX12_even_197 200 rfl (by decide) (fun c46 => ?_) (fun c46 => ?_)
                · have c46 := iv_lt (X := v45.toInt) (Y := y34.toInt) c46 rfl rfl
                  refine pv_lload (M := mX12_even) dX12_even_242 244 rfl rfl ?_
                  exact pv_lret (M := mX12_even) dX12_even_244 rfl ⟨_, _, _, rfl, rfl, I23, K24, trivial⟩
                · have c46 := iv_nlt (X := v45.toInt) (Y := y34.toInt) c46 rfl rfl
                  refine pv_lload (M := mX12_even) dX12_even_200 202 rfl rfl ?_
                  refine pv_aload_n (M := mX12_even) 0 dX12_even_202 203 rfl rfl rfl ?_
                  refine iv_get (M := mX12_even) (l1 := 0) (l2 := 40) dX12_even_203 FX12 40 wd1213 (by decide) (tl123 hT) rfl I23 rfl 206 rfl (fun v47 ev47 pv47 qv47 => ?_)
                  refine pv_iload (M := mX12_even) dX12_even_206 208 rfl rfl ?_
                  refine iv_isub (M := mX12_even) (X := v47.toInt) (Y := y34.toInt) dX12_even_208 209 rfl rfl rfl (by omega) (by omega) (fun v48 ev48 => ?_)
                  refine pv_iload_n (M := mX12_even) 3 dX12_even_209 210 rfl rfl rfl ?_
                  refine iv_remU (M := mX12_even) (Y := x2.toInt) dX12_even_210 211 rfl rfl (by omega) (fun v49 ev49 => ?_)
                  refine pv_if_ne (M := mX12_even) (tgt := 232) dX12_even_211 214 rfl (by decide) (fun c50 => ?_) (fun c50 => ?_)
                  · have c50 := iv_ne (X := v49.toInt) (Y := 0) c50 rfl (by decide)
                    refine pv_lconst (M := mX12_even) (v := 0) dX12_even_232 233 rfl (by decide) ?_
                    refine iv_addJ (M := mX12_even) dX12_even_233 234 rfl (fun v51 ev51 => ?_)
                    refine pv_lstore (M := mX12_even) (lo2 := [.ref 123, .int x0, .int x1, .int x2, .long v51, pv_U, .int y34, pv_U, pv_U]) dX12_even_234 236 rfl (by decide) rfl rfl ?_
                    refine iv_inc (M := mX12_even) (C := 1) dX12_even_236 239 rfl rfl (by decide) rfl rfl (by decide) (by omega) (by omega) (fun v52 ev52 => ?_)
                    show PV _ _ _ _ _ _ _ 239 [.ref 123, .int x0, .int x1, .int x2, .long v51, pv_U, .int v52, pv_U, pv_U] [] _
                    refine pv_goto (M := mX12_even) (tgt := 191) dX12_even_239 (by decide) ?_
                    exact ih41 v51 v52 (by first | omega | assumption | exact (iv_rng _).2 | exact (iv_rng _).1 | decide) (by first | omega | assumption | exact (iv_rng _).2 | exact (iv_rng _).1 | decide) (by omega)
                  · have c50 := iv_eq (X := v49.toInt) (Y := 0) c50 rfl (by decide)
                    refine pv_aload_n (M := mX12_even) 0 dX12_even_214 215 rfl rfl rfl ?_
                    refine mv_get (M := mX12_even) (v := .ref 156) dX12_even_215 FX12 49 wd1222 (by decide) (tl123 hT) rfl rfl 218 rfl ?_
                    refine pv_bipush (M := mX12_even) (v := 17) dX12_even_218 220 rfl (by decide) ?_
                    refine pv_iload (M := mX12_even) dX12_even_220 222 rfl rfl ?_
                    refine iv_imul (M := mX12_even) (X := 17) (Y := y34.toInt) dX12_even_222 223 rfl (by decide) rfl (by omega) (by omega) (fun v53 ev53 => ?_)
                    refine pv_aload_n (M := mX12_even) 0 dX12_even_223 224 rfl rfl rfl ?_
                    refine iv_get (M := mX12_even) (l1 := 0) (l2 := 16) dX12_even_224 FX12 41 wd1214 (by decide) (tl123 hT) rfl I23 rfl 227 rfl (fun v54 ev54 pv54 qv54 => ?_)
                    refine iv_iadd (M := mX12_even) (X := v53.toInt) (Y := v54.toInt) dX12_even_227 228 rfl rfl rfl (by omega) (by omega) (fun v55 ev55 => ?_)
                    refine iv_lald (M := mX12_even) (X := v55.toInt) dX12_even_228 (tl156 hT) rfl (by omega) (by omega) 229 rfl (fun v56 ev56 => ?_)
                    refine pv_goto (M := mX12_even) (tgt := 233) dX12_even_229 (by decide) ?_
                    refine iv_addJ (M := mX12_even) dX12_even_233 234 rfl (fun v57 ev57 => ?_)
                    refine pv_lstore (M := mX12_even) (lo2 := [.ref 123, .int x0, .int x1, .int x2, .long v57, pv_U, .int y34, pv_U, pv_U]) dX12_even_234 236 rfl (by decide) rfl rfl ?_
                    refine iv_inc (M := mX12_even) (C := 1) dX12_even_236 239 rfl rfl (by decide) rfl rfl (by decide) (by omega) (by omega) (fun v58 ev58 => ?_)
                    show PV _ _ _ _ _ _ _ 239 [.ref 123, .int x0, .int x1, .int x2, .long v57, pv_U, .int v58, pv_U, pv_U] [] _
                    refine pv_goto (M := mX12_even) (tgt := 191) dX12_even_239 (by decide) ?_
                    exact ih41 v57 v58 (by first | omega | assumption | exact (iv_rng _).2 | exact (iv_rng _).1 | decide) (by first | omega | assumption | exact (iv_rng _).2 | exact (iv_rng _).1 | decide) (by omega)
            have z59 : (0 : Int32).toInt = 0 := by decide
            exact lp40 (((41 - 0) : Int).toNat + 1) 0 0 (by first | omega | assumption | exact (iv_rng _).2 | exact (iv_rng _).1 | decide) (by first | omega | assumption | exact (iv_rng _).2 | exact (iv_rng _).1 | decide) (by omega)
          · have c32 := iv_nlt (X := v31.toInt) (Y := y20.toInt) c32 rfl rfl
            refine pv_iconst (M := mX12_even) (v := 0) dX12_even_46 47 rfl (by decide) ?_
            refine pv_istore (M := mX12_even) (lo2 := [.ref 123, .int x0, .int x1, .int x2, .int y20, .int 0, pv_U, pv_U, pv_U]) dX12_even_47 49 rfl (by decide) rfl rfl ?_
            have lp66 : ∀ (fuel65 : Nat) (y60 : Int32) (m61 : Nat → Nat → Int32) (n62 : Nat → Nat → Int64), (0 ≤ y60.toInt) → (y60.toInt ≤ 41) → IV BB m61 → fr (wl [(123, 123, some 40), (123, 123, some 41), (149, 149, none), (150, 150, none)]) m m61 → ((41 - y60.toInt) : Int).toNat < fuel65 → PV none g mX12_even (sqJ T BB (wl [(123, 123, some 40), (123, 123, some 41), (149, 149, none), (150, 150, none)]) r m (fun m' => True)) 3 0 0 49 [.ref 123, .int x0, .int x1, .int x2, .int y20, .int y60, pv_U, pv_U, pv_U] [] (mk T m61 n62 r) := by
              intro fuel65
              induction fuel65 with
              | zero => intro y60 m61 n62 b68 b69 I63 K64 z70; omega
              | succ fuel65 ih67 =>
                intro y60 m61 n62 b68 b69 I63 K64 z70
                refine pv_iload (M := mX12_even) dX12_even_49 51 rfl rfl ?_
                refine pv_aload_n (M := mX12_even) 0 dX12_even_51 52 rfl rfl rfl ?_
                refine iv_get (M := mX12_even) (l1 := 0) (l2 := 40) dX12_even_52 FX12 40 wd1213 (by decide) (tl123 hT) rfl I63 rfl 55 rfl (fun v71 ev71 pv71 qv71 => ?_)
                refine pv_icmp_gt (M := mX12_even) (tgt := 179) dX12_even_55 58 rfl (by decide) (fun c72 => ?_) (fun c72 => ?_)
                · have c72 := iv_lt (X := v71.toInt) (Y := y60.toInt) c72 rfl rfl
                  refine iv_inc (M := mX12_even) (C := 1) dX12_even_179 182 rfl rfl (by decide) rfl rfl (by decide) (by omega) (by omega) (fun v73 ev73 => ?_)
                  show PV _ _ _ _ _ _ _ 182 [.ref 123, .int x0, .int x1, .int x2, .int v73, .int y60, pv_U, pv_U, pv_U] [] _
                  refine pv_goto (M := mX12_even) (tgt := 37) dX12_even_182 (by decide) ?_
                  refine pv_fg (lo2 := [.ref 123, .int x0, .int x1, .int x2, .int v73, pv_U, pv_U, pv_U, pv_U]) ⟨Or.inr rfl, ⟨Or.inr rfl, ⟨Or.inr rfl, ⟨Or.inr rfl, ⟨Or.inr rfl, ⟨Or.inl rfl, ⟨Or.inl rfl, ⟨Or.inl rfl, ⟨Or.inl rfl, trivial⟩⟩⟩⟩⟩⟩⟩⟩⟩ ?_
                  exact ih27 v73 m61 n62 (by first | omega | assumption | exact (iv_rng _).2 | exact (iv_rng _).1 | decide) (by first | omega | assumption | exact (iv_rng _).2 | exact (iv_rng _).1 | decide) I63 K64 (by omega)
                · have c72 := iv_nlt (X := v71.toInt) (Y := y60.toInt) c72 rfl rfl
                  refine pv_iload (M := mX12_even) dX12_even_58 60 rfl rfl ?_
                  refine pv_if_ne (M := mX12_even) (tgt := 72) dX12_even_60 63 rfl (by decide) (fun c74 => ?_) (fun c74 => ?_)
                  · have c74 := iv_ne (X := y20.toInt) (Y := 0) c74 rfl (by decide)
                    refine pv_lconst (M := mX12_even) (v := 0) dX12_even_72 73 rfl (by decide) ?_
                    refine pv_lstore (M := mX12_even) (lo2 := [.ref 123, .int x0, .int x1, .int x2, .int y20, .int y60, .long 0, pv_U, pv_U]) dX12_even_73 75 rfl (by decide) rfl rfl ?_
                    refine pv_iload (M := mX12_even) dX12_even_75 77 rfl rfl ?_
                    refine pv_if_le (M := mX12_even) (tgt := 158) dX12_even_77 80 rfl (by decide) (fun c75 => ?_) (fun c75 => ?_)
                    · have c75 := iv_le (X := y20.toInt) (Y := 0) c75 rfl (by decide)
                      omega
                    · have c75 := iv_nle (X := y20.toInt) (Y := 0) c75 rfl (by decide)
                      refine pv_iload (M := mX12_even) dX12_even_80 82 rfl rfl ?_
                      refine pv_if_le (M := mX12_even) (tgt := 158) dX12_even_82 85 rfl (by decide) (fun c76 => ?_) (fun c76 => ?_)
                      · have c76 := iv_le (X := y60.toInt) (Y := 0) c76 rfl (by decide)
                        refine pv_aload_n (M := mX12_even) 0 dX12_even_158 159 rfl rfl rfl ?_
                        refine mv_get (M := mX12_even) (v := .ref 156) dX12_even_159 FX12 49 wd1222 (by decide) (tl123 hT) rfl rfl 162 rfl ?_
                        refine pv_bipush (M := mX12_even) (v := 17) dX12_even_162 164 rfl (by decide) ?_
                        refine pv_iload (M := mX12_even) dX12_even_164 166 rfl rfl ?_
                        refine iv_imul (M := mX12_even) (X := 17) (Y := y60.toInt) dX12_even_166 167 rfl (by decide) rfl (by omega) (by omega) (fun v77 ev77 => ?_)
                        refine pv_iload (M := mX12_even) dX12_even_167 169 rfl rfl ?_
                        refine iv_iadd (M := mX12_even) (X := v77.toInt) (Y := y20.toInt) dX12_even_169 170 rfl rfl rfl (by omega) (by omega) (fun v78 ev78 => ?_)
                        refine pv_lload (M := mX12_even) dX12_even_170 172 rfl rfl ?_
                        refine iv_last (M := mX12_even) (X := v78.toInt) dX12_even_172 (tl156 hT) rfl (by omega) (by omega) 173 rfl (fun n79 en79 => ?_)
                        refine iv_inc (M := mX12_even) (C := 1) dX12_even_173 176 rfl rfl (by decide) rfl rfl (by decide) (by omega) (by omega) (fun v80 ev80 => ?_)
                        show PV _ _ _ _ _ _ _ 176 [.ref 123, .int x0, .int x1, .int x2, .int y20, .int v80, .long 0, pv_U, pv_U] [] _
                        refine pv_goto (M := mX12_even) (tgt := 49) dX12_even_176 (by decide) ?_
                        refine pv_fg (lo2 := [.ref 123, .int x0, .int x1, .int x2, .int y20, .int v80, pv_U, pv_U, pv_U]) ⟨Or.inr rfl, ⟨Or.inr rfl, ⟨Or.inr rfl, ⟨Or.inr rfl, ⟨Or.inr rfl, ⟨Or.inr rfl, ⟨Or.inl rfl, ⟨Or.inl rfl, ⟨Or.inl rfl, trivial⟩⟩⟩⟩⟩⟩⟩⟩⟩ ?_
                        exact ih67 v80 m61 n79 (by first | omega | assumption | exact (iv_rng _).2 | exact (iv_rng _).1 | decide) (by first | omega | assumption | exact (iv_rng _).2 | exact (iv_rng _).1 | decide) I63 K64 (by omega)
                      · have c76 := iv_nle (X := y60.toInt) (Y := 0) c76 rfl (by decide)
                        refine pv_aload_n (M := mX12_even) 0 dX12_even_85 86 rfl rfl rfl ?_
                        refine mv_get (M := mX12_even) (v := .ref 149) dX12_even_86 FX12 42 wd1215 (by decide) (tl123 hT) rfl rfl 89 rfl ?_
                        refine pv_iload (M := mX12_even) dX12_even_89 91 rfl rfl ?_
                        refine pv_iconst (M := mX12_even) (v := 1) dX12_even_91 92 rfl (by decide) ?_
                        refine iv_isub (M := mX12_even) (X := y60.toInt) (Y := 1) dX12_even_92 93 rfl rfl (by decide) (by omega) (by omega) (fun v81 ev81 => ?_)
                        refine iv_iald (M := mX12_even) (X := v81.toInt) (l1 := 0) (l2 := 25) dX12_even_93 (tl149 hT) rfl (by omega) (by omega) I63 (fun _ => rfl) 94 rfl (fun v82 ev82 pv82 qv82 => ?_)
                        refine pv_aload_n (M := mX12_even) 0 dX12_even_94 95 rfl rfl rfl ?_
                        refine mv_get (M := mX12_even) (v := .ref 150) dX12_even_95 FX12 43 wd1216 (by decide) (tl123 hT) rfl rfl 98 rfl ?_
                        refine pv_iload (M := mX12_even) dX12_even_98 100 rfl rfl ?_
                        refine pv_iconst (M := mX12_even) (v := 1) dX12_even_100 101 rfl (by decide) ?_
                        refine iv_isub (M := mX12_even) (X := y20.toInt) (Y := 1) dX12_even_101 102 rfl rfl (by decide) (by omega) (by omega) (fun v83 ev83 => ?_)
                        refine iv_iald (M := mX12_even) (X := v83.toInt) (l1 := 0) (l2 := 25) dX12_even_102 (tl150 hT) rfl (by omega) (by omega) I63 (fun _ => rfl) 103 rfl (fun v84 ev84 pv84 qv84 => ?_)
                        refine pv_icmp_ne (M := mX12_even) (tgt := 158) dX12_even_103 106 rfl (by decide) (fun c85 => ?_) (fun c85 => ?_)
                        · have c85 := iv_ne (X := v82.toInt) (Y := v84.toInt) c85 rfl rfl
                          refine pv_aload_n (M := mX12_even) 0 dX12_even_158 159 rfl rfl rfl ?_
                          refine mv_get (M := mX12_even) (v := .ref 156) dX12_even_159 FX12 49 wd1222 (by decide) (tl123 hT) rfl rfl 162 rfl ?_
                          refine pv_bipush (M := mX12_even) (v := 17) dX12_even_162 164 rfl (by decide) ?_
                          refine pv_iload (M := mX12_even) dX12_even_164 166 rfl rfl ?_
                          refine iv_imul (M := mX12_even) (X := 17) (Y := y60.toInt) dX12_even_166 167 rfl (by decide) rfl (by omega) (by omega) (fun v86 ev86 => ?_)
                          refine pv_iload (M := mX12_even) dX12_even_167 169 rfl rfl ?_
                          refine iv_iadd (M := mX12_even) (X := v86.toInt) (Y := y20.toInt) dX12_even_169 170 rfl rfl rfl (by omega) (by omega) (fun v87 ev87 => ?_)
                          refine pv_lload (M := mX12_even) dX12_even_170 172 rfl rfl ?_
                          refine iv_last (M := mX12_even) (X := v87.toInt) dX12_even_172 (tl156 hT) rfl (by omega) (by omega) 173 rfl (fun n88 en88 => ?_)
                          refine iv_inc (M := mX12_even) (C := 1) dX12_even_173 176 rfl rfl (by decide) rfl rfl (by decide) (by omega) (by omega) (fun v89 ev89 => ?_)
                          show PV _ _ _ _ _ _ _ 176 [.ref 123, .int x0, .int x1, .int x2, .int y20, .int v89, .long 0, pv_U, pv_U] [] _
                          refine pv_goto (M := mX12_even) (tgt := 49) dX12_even_176 (by decide) ?_
                          refine pv_fg (lo2 := [.ref 123, .int x0, .int x1, .int x2, .int y20, .int v89, pv_U, pv_U, pv_U]) ⟨Or.inr rfl, ⟨Or.inr rfl, ⟨Or.inr rfl, ⟨Or.inr rfl, ⟨Or.inr rfl, ⟨Or.inr rfl, ⟨Or.inl rfl, ⟨Or.inl rfl, ⟨Or.inl rfl, trivial⟩⟩⟩⟩⟩⟩⟩⟩⟩ ?_
                          exact ih67 v89 m61 n88 (by first | omega | assumption | exact (iv_rng _).2 | exact (iv_rng _).1 | decide) (by first | omega | assumption | exact (iv_rng _).2 | exact (iv_rng _).1 | decide) I63 K64 (by omega)
                        · have c85 := iv_eq (X := v82.toInt) (Y := v84.toInt) c85 rfl rfl
                          refine pv_iconst (M := mX12_even) (v := 0) dX12_even_106 107 rfl (by decide) ?_
                          refine pv_istore (M := mX12_even) (lo2 := [.ref 123, .int x0, .int x1, .int x2, .int y20, .int y60, .long 0, pv_U, .int 0]) dX12_even_107 109 rfl (by decide) rfl rfl ?_
                          have lp97 : ∀ (fuel96 : Nat) (y90 : Int64) (y91 : Int32), (0 ≤ y91.toInt) → (y91.toInt ≤ 40) → ((40 - y91.toInt) : Int).toNat < fuel96 → PV none g mX12_even (sqJ T BB (wl [(123, 123, some 40), (123, 123, some 41), (149, 149, none), (150, 150, none)]) r m (fun m' => True)) 3 0 0 109 [.ref 123, .int x0, .int x1, .int x2, .int y20, .int y60, .long y90, pv_U, .int y91] [] (mk T m61 n62 r) := by
                            intro fuel96
                            induction fuel96 with
                            | zero => intro y90 y91 b99 b100 z101; omega
                            | succ fuel96 ih98 =>
                              intro y90 y91 b99 b100 z101
                              refine pv_iload (M := mX12_even) dX12_even_109 111 rfl rfl ?_
                              refine pv_iload (M := mX12_even) dX12_even_111 113 rfl rfl ?_
                              refine pv_icmp_ge (M := mX12_even) (tgt := 158) dX12_even_113 116 rfl (by decide) (fun c102 => ?_) (fun c102 => ?_)
                              · have c102 := iv_le (X := y60.toInt) (Y := y91.toInt) c102 rfl rfl
                                refine pv_aload_n (M := mX12_even) 0 dX12_even_158 159 rfl rfl rfl ?_
                                refine mv_get (M := mX12_even) (v := .ref 156) dX12_even_159 FX12 49 wd1222 (by decide) (tl123 hT) rfl rfl 162 rfl ?_
                                refine pv_bipush (M := mX12_even) (v := 17) dX12_even_162 164 rfl (by decide) ?_
                                refine pv_iload (M := mX12_even) dX12_even_164 166 rfl rfl ?_
                                refine iv_imul (M := mX12_even) (X := 17) (Y := y60.toInt) dX12_even_166 167 rfl (by decide) rfl (by omega) (by omega) (fun v103 ev103 => ?_)
                                refine pv_iload (M := mX12_even) dX12_even_167 169 rfl rfl ?_
                                refine iv_iadd (M := mX12_even) (X := v103.toInt) (Y := y20.toInt) dX12_even_169 170 rfl rfl rfl (by omega) (by omega) (fun v104 ev104 => ?_)
                                refine pv_lload (M := mX12_even) dX12_even_170 172 rfl rfl ?_
                                refine iv_last (M := mX12_even) (X := v104.toInt) dX12_even_172 (tl156 hT) rfl (by omega) (by omega) 173 rfl (fun n105 en105 => ?_)
                                refine iv_inc (M := mX12_even) (C := 1) dX12_even_173 176 rfl rfl (by decide) rfl rfl (by decide) (by omega) (by omega) (fun v106 ev106 => ?_)
                                show PV _ _ _ _ _ _ _ 176 [.ref 123, .int x0, .int x1, .int x2, .int y20, .int v106, .long y90, pv_U, .int y91] [] _
                                refine pv_goto (M := mX12_even) (tgt := 49) dX12_even_176 (by decide) ?_
                                refine pv_fg (lo2 := [.ref 123, .int x0, .int x1, .int x2, .int y20, .int v106, pv_U, pv_U, pv_U]) ⟨Or.inr rfl, ⟨Or.inr rfl, ⟨Or.inr rfl, ⟨Or.inr rfl, ⟨Or.inr rfl, ⟨Or.inr rfl, ⟨Or.inl rfl, ⟨Or.inl rfl, ⟨Or.inl rfl, trivial⟩⟩⟩⟩⟩⟩⟩⟩⟩ ?_
                                exact ih67 v106 m61 n105 (by first | omega | assumption | exact (iv_rng _).2 | exact (iv_rng _).1 | decide) (by first | omega | assumption | exact (iv_rng _).2 | exact (iv_rng _).1 | decide) I63 K64 (by omega)
                              · have c102 := iv_nle (X := y60.toInt) (Y := y91.toInt) c102 rfl rfl
                                refine pv_lload (M := mX12_even) dX12_even_116 118 rfl rfl ?_
                                refine pv_iload (M := mX12_even) dX12_even_118 120 rfl rfl ?_
                                refine pv_iconst (M := mX12_even) (v := 1) dX12_even_120 121 rfl (by decide) ?_
                                refine iv_isub (M := mX12_even) (X := y60.toInt) (Y := 1) dX12_even_121 122 rfl rfl (by decide) (by omega) (by omega) (fun v107 ev107 => ?_)
                                refine pv_iload (M := mX12_even) dX12_even_122 124 rfl rfl ?_
                                refine iv_isub (M := mX12_even) (X := v107.toInt) (Y := y91.toInt) dX12_even_124 125 rfl rfl rfl (by omega) (by omega) (fun v108 ev108 => ?_)
                                refine pv_iload_n (M := mX12_even) 3 dX12_even_125 126 rfl rfl rfl ?_
                                refine iv_remU (M := mX12_even) (Y := x2.toInt) dX12_even_126 127 rfl rfl (by omega) (fun v109 ev109 => ?_)
                                refine pv_if_ne (M := mX12_even) (tgt := 148) dX12_even_127 130 rfl (by decide) (fun c110 => ?_) (fun c110 => ?_)
                                · have c110 := iv_ne (X := v109.toInt) (Y := 0) c110 rfl (by decide)
                                  refine pv_lconst (M := mX12_even) (v := 0) dX12_even_148 149 rfl (by decide) ?_
                                  refine iv_addJ (M := mX12_even) dX12_even_149 150 rfl (fun v111 ev111 => ?_)
                                  refine pv_lstore (M := mX12_even) (lo2 := [.ref 123, .int x0, .int x1, .int x2, .int y20, .int y60, .long v111, pv_U, .int y91]) dX12_even_150 152 rfl (by decide) rfl rfl ?_
                                  refine iv_inc (M := mX12_even) (C := 1) dX12_even_152 155 rfl rfl (by decide) rfl rfl (by decide) (by omega) (by omega) (fun v112 ev112 => ?_)
                                  show PV _ _ _ _ _ _ _ 155 [.ref 123, .int x0, .int x1, .int x2, .int y20, .int y60, .long v111, pv_U, .int v112] [] _
                                  refine pv_goto (M := mX12_even) (tgt := 109) dX12_even_155 (by decide) ?_
                                  exact ih98 v111 v112 (by first | omega | assumption | exact (iv_rng _).2 | exact (iv_rng _).1 | decide) (by first | omega | assumption | exact (iv_rng _).2 | exact (iv_rng _).1 | decide) (by omega)
                                · have c110 := iv_eq (X := v109.toInt) (Y := 0) c110 rfl (by decide)
                                  refine pv_aload_n (M := mX12_even) 0 dX12_even_130 131 rfl rfl rfl ?_
                                  refine mv_get (M := mX12_even) (v := .ref 156) dX12_even_131 FX12 49 wd1222 (by decide) (tl123 hT) rfl rfl 134 rfl ?_
                                  refine pv_bipush (M := mX12_even) (v := 17) dX12_even_134 136 rfl (by decide) ?_
                                  refine pv_iload (M := mX12_even) dX12_even_136 138 rfl rfl ?_
                                  refine iv_imul (M := mX12_even) (X := 17) (Y := y91.toInt) dX12_even_138 139 rfl (by decide) rfl (by omega) (by omega) (fun v113 ev113 => ?_)
                                  refine pv_iload (M := mX12_even) dX12_even_139 141 rfl rfl ?_
                                  refine iv_iadd (M := mX12_even) (X := v113.toInt) (Y := y20.toInt) dX12_even_141 142 rfl rfl rfl (by omega) (by omega) (fun v114 ev114 => ?_)
                                  refine pv_iconst (M := mX12_even) (v := 1) dX12_even_142 143 rfl (by decide) ?_
                                  refine iv_isub (M := mX12_even) (X := v114.toInt) (Y := 1) dX12_even_143 144 rfl rfl (by decide) (by omega) (by omega) (fun v115 ev115 => ?_)
                                  refine iv_lald (M := mX12_even) (X := v115.toInt) dX12_even_144 (tl156 hT) rfl (by omega) (by omega) 145 rfl (fun v116 ev116 => ?_)
                                  refine pv_goto (M := mX12_even) (tgt := 149) dX12_even_145 (by decide) ?_
                                  refine iv_addJ (M := mX12_even) dX12_even_149 150 rfl (fun v117 ev117 => ?_)
                                  refine pv_lstore (M := mX12_even) (lo2 := [.ref 123, .int x0, .int x1, .int x2, .int y20, .int y60, .long v117, pv_U, .int y91]) dX12_even_150 152 rfl (by decide) rfl rfl ?_
                                  refine iv_inc (M := mX12_even) (C := 1) dX12_even_152 155 rfl rfl (by decide) rfl rfl (by decide) (by omega) (by omega) (fun v118 ev118 => ?_)
                                  show PV _ _ _ _ _ _ _ 155 [.ref 123, .int x0, .int x1, .int x2, .int y20, .int y60, .long v117, pv_U, .int v118] [] _
                                  refine pv_goto (M := mX12_even) (tgt := 109) dX12_even_155 (by decide) ?_
                                  exact ih98 v117 v118 (by first | omega | assumption | exact (iv_rng _).2 | exact (iv_rng _).1 | decide) (by first | omega | assumption | exact (iv_rng _).2 | exact (iv_rng _).1 | decide) (by omega)
                          have z119 : (0 : Int32).toInt = 0 := by decide
                          exact lp97 (((40 - 0) : Int).toNat + 1) 0 0 (by first | omega | assumption | exact (iv_rng _).2 | exact (iv_rng _).1 | decide) (by first | omega | assumption | exact (iv_rng _).2 | exact (iv_rng _).1 | decide) (by omega)
                  · have c74 := iv_eq (X := y20.toInt) (Y := 0) c74 rfl (by decide)
                    refine pv_iload (M := mX12_even) dX12_even_63 65 rfl rfl ?_
                    refine pv_if_ne (M := mX12_even) (tgt := 72) dX12_even_65 68 rfl (by decide) (fun c120 => ?_) (fun c120 => ?_)
                    · have c120 := iv_ne (X := y60.toInt) (Y := 0) c120 rfl (by decide)
                      refine pv_lconst (M := mX12_even) (v := 0) dX12_even_72 73 rfl (by decide) ?_
                      refine pv_lstore (M := mX12_even) (lo2 := [.ref 123, .int x0, .int x1, .int x2, .int y20, .int y60, .long 0, pv_U, pv_U]) dX12_even_73 75 rfl (by decide) rfl rfl ?_
                      refine pv_iload (M := mX12_even) dX12_even_75 77 rfl rfl ?_
                      refine pv_if_le (M := mX12_even) (tgt := 158) dX12_even_77 80 rfl (by decide) (fun c121 => ?_) (fun c121 => ?_)
                      · have c121 := iv_le (X := y20.toInt) (Y := 0) c121 rfl (by decide)
                        refine pv_aload_n (M := mX12_even) 0 dX12_even_158 159 rfl rfl rfl ?_
                        refine mv_get (M := mX12_even) (v := .ref 156) dX12_even_159 FX12 49 wd1222 (by decide) (tl123 hT) rfl rfl 162 rfl ?_
                        refine pv_bipush (M := mX12_even) (v := 17) dX12_even_162 164 rfl (by decide) ?_
                        refine pv_iload (M := mX12_even) dX12_even_164 166 rfl rfl ?_
                        refine iv_imul (M := mX12_even) (X := 17) (Y := y60.toInt) dX12_even_166 167 rfl (by decide) rfl (by omega) (by omega) (fun v122 ev122 => ?_)
                        refine pv_iload (M := mX12_even) dX12_even_167 169 rfl rfl ?_
                        refine iv_iadd (M := mX12_even) (X := v122.toInt) (Y := y20.toInt) dX12_even_169 170 rfl rfl rfl (by omega) (by omega) (fun v123 ev123 => ?_)
                        refine pv_lload (M := mX12_even) dX12_even_170 172 rfl rfl ?_
                        refine iv_last (M := mX12_even) (X := v123.toInt) dX12_even_172 (tl156 hT) rfl (by omega) (by omega) 173 rfl (fun n124 en124 => ?_)
                        refine iv_inc (M := mX12_even) (C := 1) dX12_even_173 176 rfl rfl (by decide) rfl rfl (by decide) (by omega) (by omega) (fun v125 ev125 => ?_)
                        show PV _ _ _ _ _ _ _ 176 [.ref 123, .int x0, .int x1, .int x2, .int y20, .int v125, .long 0, pv_U, pv_U] [] _
                        refine pv_goto (M := mX12_even) (tgt := 49) dX12_even_176 (by decide) ?_
                        refine pv_fg (lo2 := [.ref 123, .int x0, .int x1, .int x2, .int y20, .int v125, pv_U, pv_U, pv_U]) ⟨Or.inr rfl, ⟨Or.inr rfl, ⟨Or.inr rfl, ⟨Or.inr rfl, ⟨Or.inr rfl, ⟨Or.inr rfl, ⟨Or.inl rfl, ⟨Or.inl rfl, ⟨Or.inl rfl, trivial⟩⟩⟩⟩⟩⟩⟩⟩⟩ ?_
                        exact ih67 v125 m61 n124 (by first | omega | assumption | exact (iv_rng _).2 | exact (iv_rng _).1 | decide) (by first | omega | assumption | exact (iv_rng _).2 | exact (iv_rng _).1 | decide) I63 K64 (by omega)
                      · have c121 := iv_nle (X := y20.toInt) (Y := 0) c121 rfl (by decide)
                        omega
                    · have c120 := iv_eq (X := y60.toInt) (Y := 0) c120 rfl (by decide)
                      refine pv_lconst (M := mX12_even) (v := 1) dX12_even_68 69 rfl (by decide) ?_
                      refine pv_goto (M := mX12_even) (tgt := 73) dX12_even_69 (by decide) ?_
                      refine pv_lstore (M := mX12_even) (lo2 := [.ref 123, .int x0, .int x1, .int x2, .int y20, .int y60, .long 1, pv_U, pv_U]) dX12_even_73 75 rfl (by decide) rfl rfl ?_
                      refine pv_iload (M := mX12_even) dX12_even_75 77 rfl rfl ?_
                      refine pv_if_le (M := mX12_even) (tgt := 158) dX12_even_77 80 rfl (by decide) (fun c126 => ?_) (fun c126 => ?_)
                      · have c126 := iv_le (X := y20.toInt) (Y := 0) c126 rfl (by decide)
                        refine pv_aload_n (M := mX12_even) 0 dX12_even_158 159 rfl rfl rfl ?_
                        refine mv_get (M := mX12_even) (v := .ref 156) dX12_even_159 FX12 49 wd1222 (by decide) (tl123 hT) rfl rfl 162 rfl ?_
                        refine pv_bipush (M := mX12_even) (v := 17) dX12_even_162 164 rfl (by decide) ?_
                        refine pv_iload (M := mX12_even) dX12_even_164 166 rfl rfl ?_
                        refine iv_imul (M := mX12_even) (X := 17) (Y := y60.toInt) dX12_even_166 167 rfl (by decide) rfl (by omega) (by omega) (fun v127 ev127 => ?_)
                        refine pv_iload (M := mX12_even) dX12_even_167 169 rfl rfl ?_
                        refine iv_iadd (M := mX12_even) (X := v127.toInt) (Y := y20.toInt) dX12_even_169 170 rfl rfl rfl (by omega) (by omega) (fun v128 ev128 => ?_)
                        refine pv_lload (M := mX12_even) dX12_even_170 172 rfl rfl ?_
                        refine iv_last (M := mX12_even) (X := v128.toInt) dX12_even_172 (tl156 hT) rfl (by omega) (by omega) 173 rfl (fun n129 en129 => ?_)
                        refine iv_inc (M := mX12_even) (C := 1) dX12_even_173 176 rfl rfl (by decide) rfl rfl (by decide) (by omega) (by omega) (fun v130 ev130 => ?_)
                        show PV _ _ _ _ _ _ _ 176 [.ref 123, .int x0, .int x1, .int x2, .int y20, .int v130, .long 1, pv_U, pv_U] [] _
                        refine pv_goto (M := mX12_even) (tgt := 49) dX12_even_176 (by decide) ?_
                        refine pv_fg (lo2 := [.ref 123, .int x0, .int x1, .int x2, .int y20, .int v130, pv_U, pv_U, pv_U]) ⟨Or.inr rfl, ⟨Or.inr rfl, ⟨Or.inr rfl, ⟨Or.inr rfl, ⟨Or.inr rfl, ⟨Or.inr rfl, ⟨Or.inl rfl, ⟨Or.inl rfl, ⟨Or.inl rfl, trivial⟩⟩⟩⟩⟩⟩⟩⟩⟩ ?_
                        exact ih67 v130 m61 n129 (by first | omega | assumption | exact (iv_rng _).2 | exact (iv_rng _).1 | decide) (by first | omega | assumption | exact (iv_rng _).2 | exact (iv_rng _).1 | decide) I63 K64 (by omega)
                      · have c126 := iv_nle (X := y20.toInt) (Y := 0) c126 rfl (by decide)
                        omega
            have z131 : (0 : Int32).toInt = 0 := by decide
            exact lp66 (((41 - 0) : Int).toNat + 1) 0 m21 n22 (by first | omega | assumption | exact (iv_rng _).2 | exact (iv_rng _).1 | decide) (by first | omega | assumption | exact (iv_rng _).2 | exact (iv_rng _).1 | decide) I23 K24 (by omega)
      have z132 : (0 : Int32).toInt = 0 := by decide
      exact lp26 (((17 - 0) : Int).toNat + 1) 0 m16 n17 (by first | omega | assumption | exact (iv_rng _).2 | exact (iv_rng _).1 | decide) (by first | omega | assumption | exact (iv_rng _).2 | exact (iv_rng _).1 | decide) I18 K19 (by omega)
    · have c8 := iv_eq (X := v7.toInt) (Y := 0) c8 rfl (by decide)
      refine pv_ldc2 (M := mX12_even) (v := (-1)) dX12_even_19 22 rfl wd1562 ?_
      exact pv_lret (M := mX12_even) dX12_even_22 rfl ⟨_, _, _, rfl, rfl, I, Kp, trivial⟩

set_option maxHeartbeats 2000000 in
set_option maxRecDepth 20000 in
theorem s_X12_costAll (g : pv_G) {T : List mv_T} {m : Nat → Nat → Int32} {n : Nat → Nat → Int64} {r : Nat → Value} (hT : TX T) (I : IV BB m) : PM g mX12_costAll yX12_costAll (sqP (mk T m n r) (-2147483648) 2147483647 (fun v => True)) 1 0 0 [.ref 123] (mk T m n r) := by
  have Kp : fr (wl []) m m := fr.rf
  refine PM.of 2 (lo := [.ref 123, pv_U, pv_U]) rfl (by decide) rfl rfl (Nat.le_of_ble_eq_true rfl) ?_
  refine pv_iconst (M := mX12_costAll) (v := 0) dX12_costAll_0 1 rfl (by decide) ?_
  refine pv_istore_n (M := mX12_costAll) 1 (lo2 := [.ref 123, .int 0, pv_U]) dX12_costAll_1 2 rfl rfl (by decide) rfl rfl ?_
  refine pv_iconst (M := mX12_costAll) (v := 0) dX12_costAll_2 3 rfl (by decide) ?_
  refine pv_istore_n (M := mX12_costAll) 2 (lo2 := [.ref 123, .int 0, .int 0]) dX12_costAll_3 4 rfl rfl (by decide) rfl rfl ?_
  have lp8 : ∀ (fuel7 : Nat) (y1 : Int32) (y2 : Int32), (0 ≤ y2.toInt) → (y2.toInt ≤ 60) → ((60 - y2.toInt) : Int).toNat < fuel7 → PV none g mX12_costAll (sqP (mk T m n r) (-2147483648) 2147483647 (fun v => True)) 1 0 0 4 [.ref 123, .int y1, .int y2] [] (mk T m n r) := by
    intro fuel7
    induction fuel7 with
    | zero => intro y1 y2 b10 b11 z12; omega
    | succ fuel7 ih9 =>
      intro y1 y2 b10 b11 z12
      refine pv_iload_n (M := mX12_costAll) 2 dX12_costAll_4 5 rfl rfl rfl ?_
      refine pv_aload_n (M := mX12_costAll) 0 dX12_costAll_5 6 rfl rfl rfl ?_
      refine iv_get (M := mX12_costAll) (l1 := 0) (l2 := 60) dX12_costAll_6 FX12 3 wd1176 (by decide) (tl123 hT) rfl I rfl 9 rfl (fun v13 ev13 pv13 qv13 => ?_)
      refine pv_icmp_ge (M := mX12_costAll) (tgt := 27) dX12_costAll_9 12 rfl (by decide) (fun c14 => ?_) (fun c14 => ?_)
      · have c14 := iv_le (X := v13.toInt) (Y := y2.toInt) c14 rfl rfl
        refine pv_iload_n (M := mX12_costAll) 1 dX12_costAll_27 28 rfl rfl rfl ?_
        exact pv_iret (M := mX12_costAll) dX12_costAll_28 rfl rfl ⟨_, rfl, rfl, (iv_rng y1).1, (iv_rng y1).2, trivial⟩
      · have c14 := iv_nle (X := v13.toInt) (Y := y2.toInt) c14 rfl rfl
        refine pv_iload_n (M := mX12_costAll) 1 dX12_costAll_12 13 rfl rfl rfl ?_
        refine pv_aload_n (M := mX12_costAll) 0 dX12_costAll_13 14 rfl rfl rfl ?_
        refine mv_get (M := mX12_costAll) (v := .ref 146) dX12_costAll_14 FX12 37 wd1210 (by decide) (tl123 hT) rfl rfl 17 rfl ?_
        refine pv_iload_n (M := mX12_costAll) 2 dX12_costAll_17 18 rfl rfl rfl ?_
        refine iv_iald (M := mX12_costAll) (X := y2.toInt) (l1 := (-2147483648)) (l2 := 2147483647) dX12_costAll_18 (tl146 hT) rfl (by omega) (by omega) I (fun _ => rfl) 19 rfl (fun v15 ev15 pv15 qv15 => ?_)
        refine iv_addU (M := mX12_costAll) dX12_costAll_19 20 rfl (fun v16 ev16 => ?_)
        refine pv_istore_n (M := mX12_costAll) 1 (lo2 := [.ref 123, .int v16, .int y2]) dX12_costAll_20 21 rfl rfl (by decide) rfl rfl ?_
        refine iv_inc (M := mX12_costAll) (C := 1) dX12_costAll_21 24 rfl rfl (by decide) rfl rfl (by decide) (by omega) (by omega) (fun v17 ev17 => ?_)
        show PV _ _ _ _ _ _ _ 24 [.ref 123, .int v16, .int v17] [] _
        refine pv_goto (M := mX12_costAll) (tgt := 4) dX12_costAll_24 (by decide) ?_
        exact ih9 v16 v17 (by first | omega | assumption | exact (iv_rng _).2 | exact (iv_rng _).1 | decide) (by first | omega | assumption | exact (iv_rng _).2 | exact (iv_rng _).1 | decide) (by omega)
  have z18 : (0 : Int32).toInt = 0 := by decide
  have z19 : (0 : Int32).toInt = 0 := by decide
  exact lp8 (((60 - 0) : Int).toNat + 1) 0 0 (by first | omega | assumption | exact (iv_rng _).2 | exact (iv_rng _).1 | decide) (by first | omega | assumption | exact (iv_rng _).2 | exact (iv_rng _).1 | decide) (by omega)
