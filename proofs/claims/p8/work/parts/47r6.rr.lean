set_option maxHeartbeats 2000000 in
set_option maxRecDepth 20000 in
theorem s_X12_wrongAt_vx (g : pv_G) {T : List mv_T} {m : Nat → Nat → Int32} {n : Nat → Nat → Int64} {r : Nat → Value} (hT : TX T) (I : IV BB m) (x0 : Int32) (hl0 : 1 ≤ x0.toInt) (hh0 : x0.toInt ≤ 5) (x1 : Int32) (hl1 : 0 ≤ x1.toInt) (hh1 : x1.toInt ≤ 160) : PM g mX12_wrongAt yX12_wrongAt (sqI T BB (wl [(123, 123, some 14)]) r m 0 0 (fun m' v => (m' 123 14).toInt = -1000 * x0.toInt - x1.toInt)) 1 0 0 [.ref 123, .int x0, .int x1] (mk T m n r) := by
  have Kp : fr (wl [(123, 123, some 14)]) m m := fr.rf
  refine PM.of 0 (lo := [.ref 123, .int x0, .int x1]) rfl (by decide) rfl rfl (Nat.le_of_ble_eq_true rfl) ?_
  refine pv_aload_n (M := mX12_wrongAt) 0 dX12_wrongAt_0 1 rfl rfl rfl ?_
  refine pv_sipush (M := mX12_wrongAt) (v := (-1000)) dX12_wrongAt_1 4 rfl (by decide) ?_
  refine pv_iload_n (M := mX12_wrongAt) 1 dX12_wrongAt_4 5 rfl rfl rfl ?_
  refine iv_imul (M := mX12_wrongAt) (X := (-1000)) (Y := x0.toInt) dX12_wrongAt_5 6 rfl (by decide) rfl (by omega) (by omega) (fun v1 ev1 => ?_)
  refine pv_iload_n (M := mX12_wrongAt) 2 dX12_wrongAt_6 7 rfl rfl rfl ?_
  refine iv_isub (M := mX12_wrongAt) (X := v1.toInt) (Y := x1.toInt) dX12_wrongAt_7 8 rfl rfl rfl (by omega) (by omega) (fun v2 ev2 => ?_)
  refine iv_put (M := mX12_wrongAt) (l1 := (-2147483648)) (l2 := 2147483647) dX12_wrongAt_8 FX12 14 wd1187 (by decide) rfl (tl123 hT) rfl rfl rfl I rfl (iv_rng v2).1 (iv_rng v2).2 11 rfl (fun m3 e6 I4 => ?_)
  have K5 := Kp.set e6 rfl
  have w7 : (m3 123 14).toInt = v2.toInt := by rw [e6, up2_eq]
  refine pv_iconst (M := mX12_wrongAt) (v := 0) dX12_wrongAt_11 12 rfl (by decide) ?_
  have z8 : (0 : Int32).toInt = 0 := by decide
  exact pv_iret (M := mX12_wrongAt) dX12_wrongAt_12 rfl rfl ⟨_, _, _, rfl, rfl, I4, K5, by decide, by decide, (by first | omega | assumption)⟩

set_option maxHeartbeats 2000000 in
set_option maxRecDepth 20000 in
theorem s_X12_takes_vx (g : pv_G) {T : List mv_T} {m : Nat → Nat → Int32} {n : Nat → Nat → Int64} {r : Nat → Value} (hT : TX T) (I : IV BB m) (x0 : Int32) (hl0 : 0 ≤ x0.toInt) (hh0 : x0.toInt ≤ 255) (hp0 : (m 123 12).toInt ≤ (m 123 13).toInt) : PM g mX12_takes yX12_takes (sqI T BB (wl [(123, 123, some 12), (123, 123, some 14)]) r m 0 1 (fun m' v => ((v.toInt = 0 ∨ (m' 123 12).toInt = (m 123 12).toInt + 1) ∧ (m 123 12).toInt ≤ (m' 123 12).toInt ∧ (m' 123 12).toInt ≤ (m' 123 13).toInt ∧ (m' 123 13).toInt = (m 123 13).toInt) ∧ ((v.toInt = 1 ∧ tR m (m 123 12).toInt = x0.toInt ∧ (m' 123 12).toInt = (m 123 12).toInt + 1) ∨ (v.toInt = 0 ∧ tR m (m 123 12).toInt ≠ x0.toInt ∧ (m' 123 14).toInt = -1000 - (m 123 12).toInt)))) 2 0 0 [.ref 123, .int x0] (mk T m n r) := by
  have Kp : fr (wl [(123, 123, some 12), (123, 123, some 14)]) m m := fr.rf
  have z31 : 0 ≤ (m 123 12).toInt ∧ (m 123 12).toInt ≤ 160 := I 123 12
  have z32 : 0 ≤ (m 123 13).toInt ∧ (m 123 13).toInt ≤ 160 := I 123 13
  have z33 : 0 ≤ (m 123 16).toInt ∧ (m 123 16).toInt ≤ 180 := I 123 16
  have z34 : 0 ≤ (m 123 17).toInt ∧ (m 123 17).toInt ≤ 180 := I 123 17
  refine PM.of 0 (lo := [.ref 123, .int x0]) rfl (by decide) rfl rfl (Nat.le_of_ble_eq_true rfl) ?_
  refine pv_aload_n (M := mX12_takes) 0 dX12_takes_0 1 rfl rfl rfl ?_
  refine pv_callv (M := mX12_takes) (as := []) (st := []) (kc2 := 0) (ks2 := 0) dX12_takes_1 wd1417 YX12_here ⟨wd1419, wd60⟩ (mk_get (tl123 hT)) rfl rfl (s_X12_here g hT I) rfl rfl (Nat.le_of_ble_eq_true rfl) (by decide) rfl rfl 4 rfl (fun rv h1 q1 => ?_)
  obtain ⟨v2, rfl, rfl, pv2, qv2, rv2⟩ := q1
  replace rv2 : v2.toInt = hereV m ∧ (v2.toInt = -1 ∨ (m 123 12).toInt < (m 123 13).toInt) := rv2
  show PV _ _ _ _ _ _ _ 4 [.ref 123, .int x0] [.int v2] _
  have k4 : v2.toInt = tR m (m 123 12).toInt := rv2.1
  refine pv_iload_n (M := mX12_takes) 1 dX12_takes_4 5 rfl rfl rfl ?_
  refine pv_icmp_eq (M := mX12_takes) (tgt := 18) dX12_takes_5 8 rfl (by decide) (fun c4 => ?_) (fun c4 => ?_)
  · have c4 := iv_eq (X := v2.toInt) (Y := x0.toInt) c4 rfl rfl
    refine pv_aload_n (M := mX12_takes) 0 dX12_takes_18 19 rfl rfl rfl ?_
    refine pv_aload_n (M := mX12_takes) 0 dX12_takes_19 20 rfl rfl rfl ?_
    refine iv_get (M := mX12_takes) (l1 := 0) (l2 := 160) dX12_takes_20 FX12 12 wd1185 (by decide) (tl123 hT) rfl I rfl 23 rfl (fun v5 ev5 pv5 qv5 => ?_)
    have wv5 : v5.toInt = (m 123 12).toInt := congrArg Int32.toInt ev5
    refine pv_iconst (M := mX12_takes) (v := 1) dX12_takes_23 24 rfl (by decide) ?_
    refine iv_iadd (M := mX12_takes) (X := v5.toInt) (Y := 1) dX12_takes_24 25 rfl rfl (by decide) (by omega) (by omega) (fun v6 ev6 => ?_)
    refine iv_put (M := mX12_takes) (l1 := 0) (l2 := 160) dX12_takes_25 FX12 12 wd1185 (by decide) rfl (tl123 hT) rfl rfl rfl I rfl (by omega) (by omega) 28 rfl (fun m7 e10 I8 => ?_)
    have K9 := Kp.set e10 rfl
    have w11 : (m7 123 12).toInt = v6.toInt := by rw [e10, up2_eq]
    have w12 : (m7 123 13).toInt = (m 123 13).toInt := by rw [e10, up2_ne (by omega)]
    have w13 : (m7 123 16).toInt = (m 123 16).toInt := by rw [e10, up2_ne (by omega)]
    have w14 : (m7 123 17).toInt = (m 123 17).toInt := by rw [e10, up2_ne (by omega)]
    have w15 : (m7 123 14).toInt = (m 123 14).toInt := by rw [e10, up2_ne (by omega)]
    have w16 : (m7 123 15).toInt = (m 123 15).toInt := by rw [e10, up2_ne (by omega)]
    refine pv_iconst (M := mX12_takes) (v := 1) dX12_takes_28 29 rfl (by decide) ?_
    have z17 : (1 : Int32).toInt = 1 := by decide
    exact pv_iret (M := mX12_takes) dX12_takes_29 rfl rfl ⟨_, _, _, rfl, rfl, I8, K9, by decide, by decide, ⟨(by refine ⟨?_, ?_, ?_, ?_⟩ <;> omega), by first | exact Or.inl ⟨by decide, by omega, by omega⟩ | exact Or.inr ⟨by omega, by omega, by omega⟩⟩⟩
  · have c4 := iv_ne (X := v2.toInt) (Y := x0.toInt) c4 rfl rfl
    refine pv_aload_n (M := mX12_takes) 0 dX12_takes_8 9 rfl rfl rfl ?_
    refine pv_iconst (M := mX12_takes) (v := 1) dX12_takes_9 10 rfl (by decide) ?_
    refine pv_aload_n (M := mX12_takes) 0 dX12_takes_10 11 rfl rfl rfl ?_
    refine iv_get (M := mX12_takes) (l1 := 0) (l2 := 160) dX12_takes_11 FX12 12 wd1185 (by decide) (tl123 hT) rfl I rfl 14 rfl (fun v18 ev18 pv18 qv18 => ?_)
    have wv18 : v18.toInt = (m 123 12).toInt := congrArg Int32.toInt ev18
    have z19 : (1 : Int32).toInt = 1 := by decide
    refine pv_callv (M := mX12_takes) (as := [.int 1, .int v18]) (st := []) (kc2 := 0) (ks2 := 0) dX12_takes_14 wd1421 YX12_wrongAt ⟨wd1423, wd61⟩ (mk_get (tl123 hT)) rfl rfl (s_X12_wrongAt_vx g hT I 1 (by decide) (by decide) v18 (by omega) (by omega)) rfl rfl (Nat.le_of_ble_eq_true rfl) (by decide) rfl rfl 17 rfl (fun rv h1 q20 => ?_)
    obtain ⟨m21, n22, v25, rfl, rfl, I23, K24, pv25, qv25, rv25⟩ := q20
    replace rv25 : (m21 123 14).toInt = -1000 * (1 : Int) - v18.toInt := by have q_ := rv25; (try rw [z19] at q_); exact q_
    have K24c := K24
    have w26 : (m21 123 12).toInt = (m 123 12).toInt := congrArg Int32.toInt (K24 123 12 rfl)
    have w27 : (m21 123 13).toInt = (m 123 13).toInt := congrArg Int32.toInt (K24 123 13 rfl)
    have w28 : (m21 123 16).toInt = (m 123 16).toInt := congrArg Int32.toInt (K24 123 16 rfl)
    have w29 : (m21 123 17).toInt = (m 123 17).toInt := congrArg Int32.toInt (K24 123 17 rfl)
    have w30 : (m21 123 15).toInt = (m 123 15).toInt := congrArg Int32.toInt (K24 123 15 rfl)
    have K24 := Kp.trans (K24.sub (wl_sub (by decide)))
    show PV _ _ _ _ _ _ _ 17 [.ref 123, .int x0] [.int v25] _
    exact pv_iret (M := mX12_takes) dX12_takes_17 rfl (iv_nz (by omega) (by omega)) ⟨_, _, _, rfl, rfl, I23, K24, by omega, by omega, ⟨(by refine ⟨?_, ?_, ?_, ?_⟩ <;> omega), by first | exact Or.inl ⟨by decide, by omega, by omega⟩ | exact Or.inr ⟨by omega, by omega, by omega⟩⟩⟩

set_option maxHeartbeats 2000000 in
set_option maxRecDepth 20000 in
theorem s_X12_opens_vx (g : pv_G) {T : List mv_T} {m : Nat → Nat → Int32} {n : Nat → Nat → Int64} {r : Nat → Value} (hT : TX T) (I : IV BB m) (x0 : Int32) (hl0 : 10 ≤ x0.toInt) (hh0 : x0.toInt ≤ 14) (hp0 : (m 123 12).toInt < (m 123 13).toInt) (hp1 : (m 123 17).toInt ≤ 179) (hp2 : 0 ≤ (m 123 15).toInt) (hp3 : (m 123 15).toInt ≤ 6) : PM g mX12_opens yX12_opens (sqI T BB (wl [(123, 123, some 12), (123, 123, some 14), (123, 123, some 15), (123, 123, some 17), (131, 131, none)]) r m 0 1 (fun m' v => (v.toInt = 0 ∧ (m' 123 12).toInt = (m 123 12).toInt ∧ (m 123 15).toInt = 6 ∧ (m' 123 14).toInt = -5000 - (m 123 12).toInt) ∨ (v.toInt = 1 ∧ (∃ o u w z : Int32, m' = up2 (up2 (up2 (up2 m 123 15 o) 131 (m 123 17).toInt.toNat u) 123 17 w) 123 12 z ∧ u.toInt = 1048576 * x0.toInt ∧ w.toInt = (m 123 17).toInt + 1 ∧ z.toInt = (m 123 12).toInt + 1) ∧ (m' 123 15).toInt = (m 123 15).toInt + 1 ∧ (m 123 15).toInt ≠ 6))) 2 0 0 [.ref 123, .int x0] (mk T m n r) := by
  have Kp : fr (wl [(123, 123, some 12), (123, 123, some 14), (123, 123, some 15), (123, 123, some 17), (131, 131, none)]) m m := fr.rf
  have z66 : 0 ≤ (m 123 12).toInt ∧ (m 123 12).toInt ≤ 160 := I 123 12
  have z67 : 0 ≤ (m 123 13).toInt ∧ (m 123 13).toInt ≤ 160 := I 123 13
  have z68 : 0 ≤ (m 123 16).toInt ∧ (m 123 16).toInt ≤ 180 := I 123 16
  have z69 : 0 ≤ (m 123 17).toInt ∧ (m 123 17).toInt ≤ 180 := I 123 17
  refine PM.of 0 (lo := [.ref 123, .int x0]) rfl (by decide) rfl rfl (Nat.le_of_ble_eq_true rfl) ?_
  refine pv_aload_n (M := mX12_opens) 0 dX12_opens_0 1 rfl rfl rfl ?_
  refine iv_get (M := mX12_opens) (l1 := (-2147483648)) (l2 := 2147483647) dX12_opens_1 FX12 15 wd1188 (by decide) (tl123 hT) rfl I rfl 4 rfl (fun v1 ev1 pv1 qv1 => ?_)
  have wv1 : v1.toInt = (m 123 15).toInt := congrArg Int32.toInt ev1
  refine pv_bipush (M := mX12_opens) (v := 6) dX12_opens_4 6 rfl (by decide) ?_
  refine pv_icmp_ne (M := mX12_opens) (tgt := 19) dX12_opens_6 9 rfl (by decide) (fun c2 => ?_) (fun c2 => ?_)
  · have c2 := iv_ne (X := v1.toInt) (Y := 6) c2 rfl (by decide)
    refine pv_aload_n (M := mX12_opens) 0 dX12_opens_19 20 rfl rfl rfl ?_
    refine pv_aload_n (M := mX12_opens) 0 dX12_opens_20 21 rfl rfl rfl ?_
    refine iv_get (M := mX12_opens) (l1 := (-2147483648)) (l2 := 2147483647) dX12_opens_21 FX12 15 wd1188 (by decide) (tl123 hT) rfl I rfl 24 rfl (fun v3 ev3 pv3 qv3 => ?_)
    have wv3 : v3.toInt = (m 123 15).toInt := congrArg Int32.toInt ev3
    refine pv_iconst (M := mX12_opens) (v := 1) dX12_opens_24 25 rfl (by decide) ?_
    refine iv_iadd (M := mX12_opens) (X := v3.toInt) (Y := 1) dX12_opens_25 26 rfl rfl (by decide) (by omega) (by omega) (fun v4 ev4 => ?_)
    refine iv_put (M := mX12_opens) (l1 := (-2147483648)) (l2 := 2147483647) dX12_opens_26 FX12 15 wd1188 (by decide) rfl (tl123 hT) rfl rfl rfl I rfl (iv_rng v4).1 (iv_rng v4).2 29 rfl (fun m5 e8 I6 => ?_)
    have K7 := Kp.set e8 rfl
    have w9 : (m5 123 12).toInt = (m 123 12).toInt := by rw [e8, up2_ne (by omega)]
    have w10 : (m5 123 13).toInt = (m 123 13).toInt := by rw [e8, up2_ne (by omega)]
    have w11 : (m5 123 16).toInt = (m 123 16).toInt := by rw [e8, up2_ne (by omega)]
    have w12 : (m5 123 17).toInt = (m 123 17).toInt := by rw [e8, up2_ne (by omega)]
    have w13 : (m5 123 14).toInt = (m 123 14).toInt := by rw [e8, up2_ne (by omega)]
    have w14 : (m5 123 15).toInt = v4.toInt := by rw [e8, up2_eq]
    refine pv_aload_n (M := mX12_opens) 0 dX12_opens_29 30 rfl rfl rfl ?_
    refine mv_get (M := mX12_opens) (v := .ref 131) dX12_opens_30 FX12 22 wd1195 (by decide) (tl123 hT) rfl rfl 33 rfl ?_
    refine pv_aload_n (M := mX12_opens) 0 dX12_opens_33 34 rfl rfl rfl ?_
    refine iv_get (M := mX12_opens) (l1 := 0) (l2 := 180) dX12_opens_34 FX12 17 wd1190 (by decide) (tl123 hT) rfl I6 rfl 37 rfl (fun v15 ev15 pv15 qv15 => ?_)
    have wv15 : v15.toInt = (m5 123 17).toInt := congrArg Int32.toInt ev15
    refine pv_ldc (M := mX12_opens) (v := 1048576) dX12_opens_37 39 rfl wd1437 ?_
    refine pv_iload_n (M := mX12_opens) 1 dX12_opens_39 40 rfl rfl rfl ?_
    refine iv_imul (M := mX12_opens) (X := 1048576) (Y := x0.toInt) dX12_opens_40 41 rfl (by decide) rfl (by omega) (by omega) (fun v16 ev16 => ?_)
    refine iv_iast (M := mX12_opens) (X := v15.toInt) (l1 := 0) (l2 := 15728639) dX12_opens_41 (tl131 hT) rfl (by omega) (by omega) I6 (fun _ => rfl) (by omega) (by omega) 42 rfl (fun m17 e20 I18 => ?_)
    have K19 := K7.set e20 rfl
    have w21 : (m17 123 12).toInt = (m5 123 12).toInt := by rw [e20, up2_ne (by omega)]
    have w22 : (m17 123 13).toInt = (m5 123 13).toInt := by rw [e20, up2_ne (by omega)]
    have w23 : (m17 123 16).toInt = (m5 123 16).toInt := by rw [e20, up2_ne (by omega)]
    have w24 : (m17 123 17).toInt = (m5 123 17).toInt := by rw [e20, up2_ne (by omega)]
    have w25 : (m17 123 14).toInt = (m5 123 14).toInt := by rw [e20, up2_ne (by omega)]
    have w26 : (m17 123 15).toInt = (m5 123 15).toInt := by rw [e20, up2_ne (by omega)]
    have k42 := (e20).trans (up2_ix (j := (m 123 17).toInt.toNat) (by omega))
    refine pv_aload_n (M := mX12_opens) 0 dX12_opens_42 43 rfl rfl rfl ?_
    refine pv_aload_n (M := mX12_opens) 0 dX12_opens_43 44 rfl rfl rfl ?_
    refine iv_get (M := mX12_opens) (l1 := 0) (l2 := 180) dX12_opens_44 FX12 17 wd1190 (by decide) (tl123 hT) rfl I18 rfl 47 rfl (fun v28 ev28 pv28 qv28 => ?_)
    have wv28 : v28.toInt = (m17 123 17).toInt := congrArg Int32.toInt ev28
    refine pv_iconst (M := mX12_opens) (v := 1) dX12_opens_47 48 rfl (by decide) ?_
    refine iv_iadd (M := mX12_opens) (X := v28.toInt) (Y := 1) dX12_opens_48 49 rfl rfl (by decide) (by omega) (by omega) (fun v29 ev29 => ?_)
    refine iv_put (M := mX12_opens) (l1 := 0) (l2 := 180) dX12_opens_49 FX12 17 wd1190 (by decide) rfl (tl123 hT) rfl rfl rfl I18 rfl (by omega) (by omega) 52 rfl (fun m30 e33 I31 => ?_)
    have K32 := K19.set e33 rfl
    have w34 : (m30 123 12).toInt = (m17 123 12).toInt := by rw [e33, up2_ne (by omega)]
    have w35 : (m30 123 13).toInt = (m17 123 13).toInt := by rw [e33, up2_ne (by omega)]
    have w36 : (m30 123 16).toInt = (m17 123 16).toInt := by rw [e33, up2_ne (by omega)]
    have w37 : (m30 123 17).toInt = v29.toInt := by rw [e33, up2_eq]
    have w38 : (m30 123 14).toInt = (m17 123 14).toInt := by rw [e33, up2_ne (by omega)]
    have w39 : (m30 123 15).toInt = (m17 123 15).toInt := by rw [e33, up2_ne (by omega)]
    refine pv_aload_n (M := mX12_opens) 0 dX12_opens_52 53 rfl rfl rfl ?_
    refine pv_aload_n (M := mX12_opens) 0 dX12_opens_53 54 rfl rfl rfl ?_
    refine iv_get (M := mX12_opens) (l1 := 0) (l2 := 160) dX12_opens_54 FX12 12 wd1185 (by decide) (tl123 hT) rfl I31 rfl 57 rfl (fun v40 ev40 pv40 qv40 => ?_)
    have wv40 : v40.toInt = (m30 123 12).toInt := congrArg Int32.toInt ev40
    refine pv_iconst (M := mX12_opens) (v := 1) dX12_opens_57 58 rfl (by decide) ?_
    refine iv_iadd (M := mX12_opens) (X := v40.toInt) (Y := 1) dX12_opens_58 59 rfl rfl (by decide) (by omega) (by omega) (fun v41 ev41 => ?_)
    refine iv_put (M := mX12_opens) (l1 := 0) (l2 := 160) dX12_opens_59 FX12 12 wd1185 (by decide) rfl (tl123 hT) rfl rfl rfl I31 rfl (by omega) (by omega) 62 rfl (fun m42 e45 I43 => ?_)
    have K44 := K32.set e45 rfl
    have w46 : (m42 123 12).toInt = v41.toInt := by rw [e45, up2_eq]
    have w47 : (m42 123 13).toInt = (m30 123 13).toInt := by rw [e45, up2_ne (by omega)]
    have w48 : (m42 123 16).toInt = (m30 123 16).toInt := by rw [e45, up2_ne (by omega)]
    have w49 : (m42 123 17).toInt = (m30 123 17).toInt := by rw [e45, up2_ne (by omega)]
    have w50 : (m42 123 14).toInt = (m30 123 14).toInt := by rw [e45, up2_ne (by omega)]
    have w51 : (m42 123 15).toInt = (m30 123 15).toInt := by rw [e45, up2_ne (by omega)]
    refine pv_iconst (M := mX12_opens) (v := 1) dX12_opens_62 63 rfl (by decide) ?_
    have z52 : (1 : Int32).toInt = 1 := by decide
    exact pv_iret (M := mX12_opens) dX12_opens_63 rfl rfl ⟨_, _, _, rfl, rfl, I43, K44, by decide, by decide, (Or.inr ⟨by decide, ⟨_, _, _, _, (e45).trans (congrArg (fun q => up2 q 123 12 _) ((e33).trans (congrArg (fun q => up2 q 123 17 _) (k42.trans (congrArg (fun q => up2 q 131 _ _) e8))))), by omega, by omega, by omega⟩, by omega, by omega⟩)⟩
  · have c2 := iv_eq (X := v1.toInt) (Y := 6) c2 rfl (by decide)
    refine pv_aload_n (M := mX12_opens) 0 dX12_opens_9 10 rfl rfl rfl ?_
    refine pv_iconst (M := mX12_opens) (v := 5) dX12_opens_10 11 rfl (by decide) ?_
    refine pv_aload_n (M := mX12_opens) 0 dX12_opens_11 12 rfl rfl rfl ?_
    refine iv_get (M := mX12_opens) (l1 := 0) (l2 := 160) dX12_opens_12 FX12 12 wd1185 (by decide) (tl123 hT) rfl I rfl 15 rfl (fun v53 ev53 pv53 qv53 => ?_)
    have wv53 : v53.toInt = (m 123 12).toInt := congrArg Int32.toInt ev53
    have z54 : (5 : Int32).toInt = 5 := by decide
    refine pv_callv (M := mX12_opens) (as := [.int 5, .int v53]) (st := []) (kc2 := 0) (ks2 := 0) dX12_opens_15 wd1421 YX12_wrongAt ⟨wd1423, wd61⟩ (mk_get (tl123 hT)) rfl rfl (s_X12_wrongAt_vx g hT I 5 (by decide) (by decide) v53 (by omega) (by omega)) rfl rfl (Nat.le_of_ble_eq_true rfl) (by decide) rfl rfl 18 rfl (fun rv h1 q55 => ?_)
    obtain ⟨m56, n57, v60, rfl, rfl, I58, K59, pv60, qv60, rv60⟩ := q55
    replace rv60 : (m56 123 14).toInt = -1000 * (5 : Int) - v53.toInt := by have q_ := rv60; (try rw [z54] at q_); exact q_
    have K59c := K59
    have w61 : (m56 123 12).toInt = (m 123 12).toInt := congrArg Int32.toInt (K59 123 12 rfl)
    have w62 : (m56 123 13).toInt = (m 123 13).toInt := congrArg Int32.toInt (K59 123 13 rfl)
    have w63 : (m56 123 16).toInt = (m 123 16).toInt := congrArg Int32.toInt (K59 123 16 rfl)
    have w64 : (m56 123 17).toInt = (m 123 17).toInt := congrArg Int32.toInt (K59 123 17 rfl)
    have w65 : (m56 123 15).toInt = (m 123 15).toInt := congrArg Int32.toInt (K59 123 15 rfl)
    have K59 := Kp.trans (K59.sub (wl_sub (by decide)))
    show PV _ _ _ _ _ _ _ 18 [.ref 123, .int x0] [.int v60] _
    exact pv_iret (M := mX12_opens) dX12_opens_18 rfl (iv_nz (by omega) (by omega)) ⟨_, _, _, rfl, rfl, I58, K59, by omega, by omega, (Or.inl ⟨by omega, by omega, by omega, by omega⟩)⟩

set_option maxHeartbeats 2000000 in
set_option maxRecDepth 20000 in
theorem s_X12_factOf_vx (g : pv_G) {T : List mv_T} {m : Nat → Nat → Int32} {n : Nat → Nat → Int64} {r : Nat → Value} (hT : TX T) (I : IV BB m) (x0 : Int32) : PM g mX12_factOf yX12_factOf (sqP (mk T m n r) (-1) 9 (fun v => v.toInt = nix x0.toInt)) 1 0 0 [.int x0] (mk T m n r) := by
  have Kp : fr (wl []) m m := fr.rf
  refine PM.of 0 (lo := [.int x0]) rfl (by decide) rfl rfl (Nat.le_of_ble_eq_true rfl) ?_
  refine pv_iload_n (M := mX12_factOf) 0 dX12_factOf_0 1 rfl rfl rfl ?_
  by_cases c1 : x0.toInt = 98
  · refine iv_tabIn (M := mX12_factOf) (X := 98) (off := 118) (tgt := 119) dX12_factOf_1 c1 (by decide) (by decide) (by decide) (by decide) ?_
    refine pv_bipush (M := mX12_factOf) (v := 7) dX12_factOf_119 121 rfl (by decide) ?_
    have z2 : (7 : Int32).toInt = 7 := by decide
    exact pv_iret (M := mX12_factOf) dX12_factOf_121 rfl rfl ⟨_, rfl, rfl, by decide, by decide, (by unfold nix; omega)⟩
  by_cases c3 : x0.toInt = 99
  · refine iv_tabIn (M := mX12_factOf) (X := 99) (off := 127) (tgt := 128) dX12_factOf_1 c3 (by decide) (by decide) (by decide) (by decide) ?_
    refine pv_iconst (M := mX12_factOf) (v := (-1)) dX12_factOf_128 129 rfl (by decide) ?_
    have z4 : ((-1) : Int32).toInt = (-1) := by decide
    exact pv_iret (M := mX12_factOf) dX12_factOf_129 rfl rfl ⟨_, rfl, rfl, by decide, by decide, (by unfold nix; omega)⟩
  by_cases c5 : x0.toInt = 100
  · refine iv_tabIn (M := mX12_factOf) (X := 100) (off := 115) (tgt := 116) dX12_factOf_1 c5 (by decide) (by decide) (by decide) (by decide) ?_
    refine pv_bipush (M := mX12_factOf) (v := 6) dX12_factOf_116 118 rfl (by decide) ?_
    have z6 : (6 : Int32).toInt = 6 := by decide
    exact pv_iret (M := mX12_factOf) dX12_factOf_118 rfl rfl ⟨_, rfl, rfl, by decide, by decide, (by unfold nix; omega)⟩
  by_cases c7 : x0.toInt = 101
  · refine iv_tabIn (M := mX12_factOf) (X := 101) (off := 127) (tgt := 128) dX12_factOf_1 c7 (by decide) (by decide) (by decide) (by decide) ?_
    refine pv_iconst (M := mX12_factOf) (v := (-1)) dX12_factOf_128 129 rfl (by decide) ?_
    have z8 : ((-1) : Int32).toInt = (-1) := by decide
    exact pv_iret (M := mX12_factOf) dX12_factOf_129 rfl rfl ⟨_, rfl, rfl, by decide, by decide, (by unfold nix; omega)⟩
  by_cases c9 : x0.toInt = 102
  · refine iv_tabIn (M := mX12_factOf) (X := 102) (off := 121) (tgt := 122) dX12_factOf_1 c9 (by decide) (by decide) (by decide) (by decide) ?_
    refine pv_bipush (M := mX12_factOf) (v := 8) dX12_factOf_122 124 rfl (by decide) ?_
    have z10 : (8 : Int32).toInt = 8 := by decide
    exact pv_iret (M := mX12_factOf) dX12_factOf_124 rfl rfl ⟨_, rfl, rfl, by decide, by decide, (by unfold nix; omega)⟩
  by_cases c11 : x0.toInt = 103
  · refine iv_tabIn (M := mX12_factOf) (X := 103) (off := 124) (tgt := 125) dX12_factOf_1 c11 (by decide) (by decide) (by decide) (by decide) ?_
    refine pv_bipush (M := mX12_factOf) (v := 9) dX12_factOf_125 127 rfl (by decide) ?_
    have z12 : (9 : Int32).toInt = 9 := by decide
    exact pv_iret (M := mX12_factOf) dX12_factOf_127 rfl rfl ⟨_, rfl, rfl, by decide, by decide, (by unfold nix; omega)⟩
  by_cases c13 : x0.toInt = 104
  · refine iv_tabIn (M := mX12_factOf) (X := 104) (off := 127) (tgt := 128) dX12_factOf_1 c13 (by decide) (by decide) (by decide) (by decide) ?_
    refine pv_iconst (M := mX12_factOf) (v := (-1)) dX12_factOf_128 129 rfl (by decide) ?_
    have z14 : ((-1) : Int32).toInt = (-1) := by decide
    exact pv_iret (M := mX12_factOf) dX12_factOf_129 rfl rfl ⟨_, rfl, rfl, by decide, by decide, (by unfold nix; omega)⟩
  by_cases c15 : x0.toInt = 105
  · refine iv_tabIn (M := mX12_factOf) (X := 105) (off := 105) (tgt := 106) dX12_factOf_1 c15 (by decide) (by decide) (by decide) (by decide) ?_
    refine pv_iconst (M := mX12_factOf) (v := 1) dX12_factOf_106 107 rfl (by decide) ?_
    have z16 : (1 : Int32).toInt = 1 := by decide
    exact pv_iret (M := mX12_factOf) dX12_factOf_107 rfl rfl ⟨_, rfl, rfl, by decide, by decide, (by unfold nix; omega)⟩
  by_cases c17 : x0.toInt = 106
  · refine iv_tabIn (M := mX12_factOf) (X := 106) (off := 127) (tgt := 128) dX12_factOf_1 c17 (by decide) (by decide) (by decide) (by decide) ?_
    refine pv_iconst (M := mX12_factOf) (v := (-1)) dX12_factOf_128 129 rfl (by decide) ?_
    have z18 : ((-1) : Int32).toInt = (-1) := by decide
    exact pv_iret (M := mX12_factOf) dX12_factOf_129 rfl rfl ⟨_, rfl, rfl, by decide, by decide, (by unfold nix; omega)⟩
  by_cases c19 : x0.toInt = 107
  · refine iv_tabIn (M := mX12_factOf) (X := 107) (off := 113) (tgt := 114) dX12_factOf_1 c19 (by decide) (by decide) (by decide) (by decide) ?_
    refine pv_iconst (M := mX12_factOf) (v := 5) dX12_factOf_114 115 rfl (by decide) ?_
    have z20 : (5 : Int32).toInt = 5 := by decide
    exact pv_iret (M := mX12_factOf) dX12_factOf_115 rfl rfl ⟨_, rfl, rfl, by decide, by decide, (by unfold nix; omega)⟩
  by_cases c21 : x0.toInt = 108
  · refine iv_tabIn (M := mX12_factOf) (X := 108) (off := 103) (tgt := 104) dX12_factOf_1 c21 (by decide) (by decide) (by decide) (by decide) ?_
    refine pv_iconst (M := mX12_factOf) (v := 0) dX12_factOf_104 105 rfl (by decide) ?_
    have z22 : (0 : Int32).toInt = 0 := by decide
    exact pv_iret (M := mX12_factOf) dX12_factOf_105 rfl rfl ⟨_, rfl, rfl, by decide, by decide, (by unfold nix; omega)⟩
  by_cases c23 : x0.toInt = 109
  · refine iv_tabIn (M := mX12_factOf) (X := 109) (off := 109) (tgt := 110) dX12_factOf_1 c23 (by decide) (by decide) (by decide) (by decide) ?_
    refine pv_iconst (M := mX12_factOf) (v := 3) dX12_factOf_110 111 rfl (by decide) ?_
    have z24 : (3 : Int32).toInt = 3 := by decide
    exact pv_iret (M := mX12_factOf) dX12_factOf_111 rfl rfl ⟨_, rfl, rfl, by decide, by decide, (by unfold nix; omega)⟩
  by_cases c25 : x0.toInt = 110
  · refine iv_tabIn (M := mX12_factOf) (X := 110) (off := 127) (tgt := 128) dX12_factOf_1 c25 (by decide) (by decide) (by decide) (by decide) ?_
    refine pv_iconst (M := mX12_factOf) (v := (-1)) dX12_factOf_128 129 rfl (by decide) ?_
    have z26 : ((-1) : Int32).toInt = (-1) := by decide
    exact pv_iret (M := mX12_factOf) dX12_factOf_129 rfl rfl ⟨_, rfl, rfl, by decide, by decide, (by unfold nix; omega)⟩
  by_cases c27 : x0.toInt = 111
  · refine iv_tabIn (M := mX12_factOf) (X := 111) (off := 111) (tgt := 112) dX12_factOf_1 c27 (by decide) (by decide) (by decide) (by decide) ?_
    refine pv_iconst (M := mX12_factOf) (v := 4) dX12_factOf_112 113 rfl (by decide) ?_
    have z28 : (4 : Int32).toInt = 4 := by decide
    exact pv_iret (M := mX12_factOf) dX12_factOf_113 rfl rfl ⟨_, rfl, rfl, by decide, by decide, (by unfold nix; omega)⟩
  by_cases c29 : x0.toInt = 112
  · refine iv_tabIn (M := mX12_factOf) (X := 112) (off := 127) (tgt := 128) dX12_factOf_1 c29 (by decide) (by decide) (by decide) (by decide) ?_
    refine pv_iconst (M := mX12_factOf) (v := (-1)) dX12_factOf_128 129 rfl (by decide) ?_
    have z30 : ((-1) : Int32).toInt = (-1) := by decide
    exact pv_iret (M := mX12_factOf) dX12_factOf_129 rfl rfl ⟨_, rfl, rfl, by decide, by decide, (by unfold nix; omega)⟩
  by_cases c31 : x0.toInt = 113
  · refine iv_tabIn (M := mX12_factOf) (X := 113) (off := 127) (tgt := 128) dX12_factOf_1 c31 (by decide) (by decide) (by decide) (by decide) ?_
    refine pv_iconst (M := mX12_factOf) (v := (-1)) dX12_factOf_128 129 rfl (by decide) ?_
    have z32 : ((-1) : Int32).toInt = (-1) := by decide
    exact pv_iret (M := mX12_factOf) dX12_factOf_129 rfl rfl ⟨_, rfl, rfl, by decide, by decide, (by unfold nix; omega)⟩
  by_cases c33 : x0.toInt = 114
  · refine iv_tabIn (M := mX12_factOf) (X := 114) (off := 127) (tgt := 128) dX12_factOf_1 c33 (by decide) (by decide) (by decide) (by decide) ?_
    refine pv_iconst (M := mX12_factOf) (v := (-1)) dX12_factOf_128 129 rfl (by decide) ?_
    have z34 : ((-1) : Int32).toInt = (-1) := by decide
    exact pv_iret (M := mX12_factOf) dX12_factOf_129 rfl rfl ⟨_, rfl, rfl, by decide, by decide, (by unfold nix; omega)⟩
  by_cases c35 : x0.toInt = 115
  · refine iv_tabIn (M := mX12_factOf) (X := 115) (off := 127) (tgt := 128) dX12_factOf_1 c35 (by decide) (by decide) (by decide) (by decide) ?_
    refine pv_iconst (M := mX12_factOf) (v := (-1)) dX12_factOf_128 129 rfl (by decide) ?_
    have z36 : ((-1) : Int32).toInt = (-1) := by decide
    exact pv_iret (M := mX12_factOf) dX12_factOf_129 rfl rfl ⟨_, rfl, rfl, by decide, by decide, (by unfold nix; omega)⟩
  by_cases c37 : x0.toInt = 116
  · refine iv_tabIn (M := mX12_factOf) (X := 116) (off := 127) (tgt := 128) dX12_factOf_1 c37 (by decide) (by decide) (by decide) (by decide) ?_
    refine pv_iconst (M := mX12_factOf) (v := (-1)) dX12_factOf_128 129 rfl (by decide) ?_
    have z38 : ((-1) : Int32).toInt = (-1) := by decide
    exact pv_iret (M := mX12_factOf) dX12_factOf_129 rfl rfl ⟨_, rfl, rfl, by decide, by decide, (by unfold nix; omega)⟩
  by_cases c39 : x0.toInt = 117
  · refine iv_tabIn (M := mX12_factOf) (X := 117) (off := 127) (tgt := 128) dX12_factOf_1 c39 (by decide) (by decide) (by decide) (by decide) ?_
    refine pv_iconst (M := mX12_factOf) (v := (-1)) dX12_factOf_128 129 rfl (by decide) ?_
    have z40 : ((-1) : Int32).toInt = (-1) := by decide
    exact pv_iret (M := mX12_factOf) dX12_factOf_129 rfl rfl ⟨_, rfl, rfl, by decide, by decide, (by unfold nix; omega)⟩
  by_cases c41 : x0.toInt = 118
  · refine iv_tabIn (M := mX12_factOf) (X := 118) (off := 127) (tgt := 128) dX12_factOf_1 c41 (by decide) (by decide) (by decide) (by decide) ?_
    refine pv_iconst (M := mX12_factOf) (v := (-1)) dX12_factOf_128 129 rfl (by decide) ?_
    have z42 : ((-1) : Int32).toInt = (-1) := by decide
    exact pv_iret (M := mX12_factOf) dX12_factOf_129 rfl rfl ⟨_, rfl, rfl, by decide, by decide, (by unfold nix; omega)⟩
  by_cases c43 : x0.toInt = 119
  · refine iv_tabIn (M := mX12_factOf) (X := 119) (off := 107) (tgt := 108) dX12_factOf_1 c43 (by decide) (by decide) (by decide) (by decide) ?_
    refine pv_iconst (M := mX12_factOf) (v := 2) dX12_factOf_108 109 rfl (by decide) ?_
    have z44 : (2 : Int32).toInt = 2 := by decide
    exact pv_iret (M := mX12_factOf) dX12_factOf_109 rfl rfl ⟨_, rfl, rfl, by decide, by decide, (by unfold nix; omega)⟩
  refine pv_tableOut (M := mX12_factOf) (tgt := 128) dX12_factOf_1 (by omega) (by decide) ?_
  refine pv_iconst (M := mX12_factOf) (v := (-1)) dX12_factOf_128 129 rfl (by decide) ?_
  have z45 : ((-1) : Int32).toInt = (-1) := by decide
  exact pv_iret (M := mX12_factOf) dX12_factOf_129 rfl rfl ⟨_, rfl, rfl, by decide, by decide, (by unfold nix; omega)⟩
