set_option maxHeartbeats 2000000 in
set_option maxRecDepth 20000 in
theorem s_X12_wrongAt_vx (g : pv_G) {T : List mv_T} {m : Nat → Nat → Int32} {n : Nat → Nat → Int64} {r : Nat → Value} (hT : TX T) (I : IV BB m) (x0 : Int32) (hl0 : 1 ≤ x0.toInt) (hh0 : x0.toInt ≤ 5) (x1 : Int32) (hl1 : 0 ≤ x1.toInt) (hh1 : x1.toInt ≤ 160) : PM g mX12_wrongAt yX12_wrongAt (sqI T BB (wl [(123, 123, some 14)]) r m 0 0 (fun m' v => (m' 123 14).toInt = -1000 * x0.toInt - x1.toInt)) 1 0 0 [.ref 123, .int x0, .int x1] (mk T m n r) := by
  have Kp : fr (wl [(123, 123, some 14)]) m m := fr.rf
  refine PM.of 0 (lo := [.ref 123, .int x0, .int x1]) rfl (by decide) rfl rfl (Nat.le_of_ble_eq_true rfl) ?_
  refine pv_aload_n (M := mX12_wrongAt) 0 dX12_wrongAt_0 1 rfl rfl rfl ?_
  refine pv_sipush (M := mX12_wrongAt) (v := (-1000)) dX12_wrongAt_1 4 rfl (by decide) ?_
  refine pv_iload_n (M := mX12_wrongAt) 1 dX12_wrongAt_4 5 rfl rfl rfl ?_
  refine iv_imul (M := mX12_wrongAt) (X := (-1000)) (Y := x0.toInt) dX12_wrongAt_5 6 rfl (by decide) rfl (by omega) (by omega) (fun v1 ev1 => ?_)
  refine pv_iload_n (M := mX12_wrongAt) 2 dX12_wrongAt_6 7 rfl rfl rfl ?_
  refine iv_isub (M := mX12_wrongAt) (X := v1.toInt) (Y := x1.toInt) dX12_wrongAt_7 8 rfl rfl rfl (by omega) (by omega) (fun v2 ev2 => ?_)
  refine iv_put (M := mX12_wrongAt) (l1 := (-2147483648)) (l2 := 2147483647) dX12_wrongAt_8 FX12 14 wd1187 (by decide) rfl (tl123 hT) rfl rfl rfl I rfl (iv_rng v2).1 (iv_rng v2).2 11 rfl (fun m3 e6 I4 => ?_)
  have K5 := Kp.set e6 rfl
  have w7 : (m3 123 14).toInt = v2.toInt := by rw [e6, up2_eq]
  refine pv_iconst (M := mX12_wrongAt) (v := 0) dX12_wrongAt_11 12 rfl (by decide) ?_
  have z8 : (0 : Int32).toInt = 0 := by decide
  exact pv_iret (M := mX12_wrongAt) dX12_wrongAt_12 rfl rfl ⟨_, _, _, rfl, rfl, I4, K5, by decide, by decide, (by first | omega | assumption)⟩

set_option maxHeartbeats 2000000 in
set_option maxRecDepth 20000 in
theorem s_X12_takes_vx (g : pv_G) {T : List mv_T} {m : Nat → Nat → Int32} {n : Nat → Nat → Int64} {r : Nat → Value} (hT : TX T) (I : IV BB m) (x0 : Int32) (hl0 : 0 ≤ x0.toInt) (hh0 : x0.toInt ≤ 255) (hp0 : (m 123 12).toInt ≤ (m 123 13).toInt) : PM g mX12_takes yX12_takes (sqI T BB (wl [(123, 123, some 12), (123, 123, some 14)]) r m 0 1 (fun m' v => ((v.toInt = 0 ∨ (m' 123 12).toInt = (m 123 12).toInt + 1) ∧ (m 123 12).toInt ≤ (m' 123 12).toInt ∧ (m' 123 12).toInt ≤ (m' 123 13).toInt ∧ (m' 123 13).toInt = (m 123 13).toInt) ∧ ((v.toInt = 1 ∧ tR m (m 123 12).toInt = x0.toInt ∧ (m' 123 12).toInt = (m 123 12).toInt + 1) ∨ (v.toInt = 0 ∧ tR m (m 123 12).toInt ≠ x0.toInt ∧ (m' 123 14).toInt = -1000 - (m 123 12).toInt)))) 2 0 0 [.ref 123, .int x0] (mk T m n r) := by
  have Kp : fr (wl [(123, 123, some 12), (123, 123, some 14)]) m m := fr.rf
  have z31 : 0 ≤ (m 123 12).toInt ∧ (m 123 12).toInt ≤ 160 := I 123 12
  have z32 : 0 ≤ (m 123 13).toInt ∧ (m 123 13).toInt ≤ 160 := I 123 13
  have z33 : 0 ≤ (m 123 16).toInt ∧ (m 123 16).toInt ≤ 180 := I 123 16
  have z34 : 0 ≤ (m 123 17).toInt ∧ (m 123 17).toInt ≤ 180 := I 123 17
  refine PM.of 0 (lo := [.ref 123, .int x0]) rfl (by decide) rfl rfl (Nat.le_of_ble_eq_true rfl) ?_
  refine pv_aload_n (M := mX12_takes) 0 dX12_takes_0 1 rfl rfl rfl ?_
  refine pv_callv (M := mX12_takes) (as := []) (st := []) (kc2 := 0) (ks2 := 0) dX12_takes_1 wd1417 YX12_here ⟨wd1419, wd60⟩ (mk_get (tl123 hT)) rfl rfl (s_X12_here g hT I) rfl rfl (Nat.le_of_ble_eq_true rfl) (by decide) rfl rfl 4 rfl (fun rv h1 q1 => ?_)
  obtain ⟨v2, rfl, rfl, pv2, qv2, rv2⟩ := q1
  replace rv2 : v2.toInt = hereV m ∧ (v2.toInt = -1 ∨ (m 123 12).toInt < (m 123 13).toInt) := rv2
  show PV _ _ _ _ _ _ _ 4 [.ref 123, .int x0] [.int v2] _
  have k4 : v2.toInt = tR m (m 123 12).toInt := rv2.1
  refine pv_iload_n (M := mX12_takes) 1 dX12_takes_4 5 rfl rfl rfl ?_
  refine pv_icmp_eq (M := mX12_takes) (tgt := 18) dX12_takes_5 8 rfl (by decide) (fun c4 => ?_) (fun c4 => ?_)
  · have c4 := iv_eq (X := v2.toInt) (Y := x0.toInt) c4 rfl rfl
    refine pv_aload_n (M := mX12_takes) 0 dX12_takes_18 19 rfl rfl rfl ?_
    refine pv_aload_n (M := mX12_takes) 0 dX12_takes_19 20 rfl rfl rfl ?_
    refine iv_get (M := mX12_takes) (l1 := 0) (l2 := 160) dX12_takes_20 FX12 12 wd1185 (by decide) (tl123 hT) rfl I rfl 23 rfl (fun v5 ev5 pv5 qv5 => ?_)
    have wv5 : v5.toInt = (m 123 12).toInt := congrArg Int32.toInt ev5
    refine pv_iconst (M := mX12_takes) (v := 1) dX12_takes_23 24 rfl (by decide) ?_
    refine iv_iadd (M := mX12_takes) (X := v5.toInt) (Y := 1) dX12_takes_24 25 rfl rfl (by decide) (by omega) (by omega) (fun v6 ev6 => ?_)
    refine iv_put (M := mX12_takes) (l1 := 0) (l2 := 160) dX12_takes_25 FX12 12 wd1185 (by decide) rfl (tl123 hT) rfl rfl rfl I rfl (by omega) (by omega) 28 rfl (fun m7 e10 I8 => ?_)
    have K9 := Kp.set e10 rfl
    have w11 : (m7 123 12).toInt = v6.toInt := by rw [e10, up2_eq]
    have w12 : (m7 123 13).toInt = (m 123 13).toInt := by rw [e10, up2_ne (by omega)]
    have w13 : (m7 123 16).toInt = (m 123 16).toInt := by rw [e10, up2_ne (by omega)]
    have w14 : (m7 123 17).toInt = (m 123 17).toInt := by rw [e10, up2_ne (by omega)]
    have w15 : (m7 123 14).toInt = (m 123 14).toInt := by rw [e10, up2_ne (by omega)]
    have w16 : (m7 123 15).toInt = (m 123 15).toInt := by rw [e10, up2_ne (by omega)]
    refine pv_iconst (M := mX12_takes) (v := 1) dX12_takes_28 29 rfl (by decide) ?_
    have z17 : (1 : Int32).toInt = 1 := by decide
    exact pv_iret (M := mX12_takes) dX12_takes_29 rfl rfl ⟨_, _, _, rfl, rfl, I8, K9, by decide, by decide, ⟨(by refine ⟨?_, ?_, ?_, ?_⟩ <;> omega), by first | exact Or.inl ⟨by decide, by omega, by omega⟩ | exact Or.inr ⟨by omega, by omega, by omega⟩⟩⟩
  · have c4 := iv_ne (X := v2.toInt) (Y := x0.toInt) c4 rfl rfl
    refine pv_aload_n (M := mX12_takes) 0 dX12_takes_8 9 rfl rfl rfl ?_
    refine pv_iconst (M := mX12_takes) (v := 1) dX12_takes_9 10 rfl (by decide) ?_
    refine pv_aload_n (M := mX12_takes) 0 dX12_takes_10 11 rfl rfl rfl ?_
    refine iv_get (M := mX12_takes) (l1 := 0) (l2 := 160) dX12_takes_11 FX12 12 wd1185 (by decide) (tl123 hT) rfl I rfl 14 rfl (fun v18 ev18 pv18 qv18 => ?_)
    have wv18 : v18.toInt = (m 123 12).toInt := congrArg Int32.toInt ev18
    have z19 : (1 : Int32).toInt = 1 := by decide
    refine pv_callv (M := mX12_takes) (as := [.int 1, .int v18]) (st := []) (kc2 := 0) (ks2 := 0) dX12_takes_14 wd1421 YX12_wrongAt ⟨wd1423, wd61⟩ (mk_get (tl123 hT)) rfl rfl (s_X12_wrongAt_vx g hT I 1 (by decide) (by decide) v18 (by omega) (by omega)) rfl rfl (Nat.le_of_ble_eq_true rfl) (by decide) rfl rfl 17 rfl (fun rv h1 q20 => ?_)
    obtain ⟨m21, n22, v25, rfl, rfl, I23, K24, pv25, qv25, rv25⟩ := q20
    replace rv25 : (m21 123 14).toInt = -1000 * (1 : Int) - v18.toInt := by have q_ := rv25; (try rw [z19] at q_); exact q_
    have K24c := K24
    have w26 : (m21 123 12).toInt = (m 123 12).toInt := congrArg Int32.toInt (K24 123 12 rfl)
    have w27 : (m21 123 13).toInt = (m 123 13).toInt := congrArg Int32.toInt (K24 123 13 rfl)
    have w28 : (m21 123 16).toInt = (m 123 16).toInt := congrArg Int32.toInt (K24 123 16 rfl)
    have w29 : (m21 123 17).toInt = (m 123 17).toInt := congrArg Int32.toInt (K24 123 17 rfl)
    have w30 : (m21 123 15).toInt = (m 123 15).toInt := congrArg Int32.toInt (K24 123 15 rfl)
    have K24 := Kp.trans (K24.sub (wl_sub (by decide)))
    show PV _ _ _ _ _ _ _ 17 [.ref 123, .int x0] [.int v25] _
    exact pv_iret (M := mX12_takes) dX12_takes_17 rfl (iv_nz (by omega) (by omega)) ⟨_, _, _, rfl, rfl, I23, K24, by omega, by omega, ⟨(by refine ⟨?_, ?_, ?_, ?_⟩ <;> omega), by first | exact Or.inl ⟨by decide, by omega, by omega⟩ | exact Or.inr ⟨by omega, by omega, by omega⟩⟩⟩

set_option maxHeartbeats 2000000 in
set_option maxRecDepth 20000 in
theorem s_X12_readsNumber_vx (g : pv_G) {T : List mv_T} {m : Nat → Nat → Int32} {n : Nat → Nat → Int64} {r : Nat → Value} (hT : TX T) (I : IV BB m) (hp0 : (m 123 12).toInt ≤ (m 123 13).toInt) : PM g mX12_readsNumber yX12_readsNumber (sqI T BB (wl [(123, 123, some 12), (123, 123, some 14), (123, 123, some 19)]) r m 0 1 (fun m' v => ((v.toInt = 0 ∨ (48 ≤ hereV m ∧ hereV m ≤ 57 → (m 123 12).toInt + 1 ≤ (m' 123 12).toInt)) ∧ (m 123 12).toInt ≤ (m' 123 12).toInt ∧ (m' 123 12).toInt ≤ (m' 123 13).toInt ∧ (m' 123 13).toInt = (m 123 13).toInt) ∧ RSX (nd (tR m) 5 (m 123 12).toInt) v.toInt (m' 123 12).toInt (m' 123 14).toInt ∧ (m' 123 15).toInt = (m 123 15).toInt)) 3 0 0 [.ref 123] (mk T m n r) := by
  have Kp : fr (wl [(123, 123, some 12), (123, 123, some 14), (123, 123, some 19)]) m m := fr.rf
  have z96 : 0 ≤ (m 123 12).toInt ∧ (m 123 12).toInt ≤ 160 := I 123 12
  have z97 : 0 ≤ (m 123 13).toInt ∧ (m 123 13).toInt ≤ 160 := I 123 13
  have z98 : 0 ≤ (m 123 16).toInt ∧ (m 123 16).toInt ≤ 180 := I 123 16
  have z99 : 0 ≤ (m 123 17).toInt ∧ (m 123 17).toInt ≤ 180 := I 123 17
  have z100 : 0 ≤ (m 123 19).toInt ∧ (m 123 19).toInt ≤ 99999 := I 123 19
  refine PM.of 1 (lo := [.ref 123, pv_U]) rfl (by decide) rfl rfl (Nat.le_of_ble_eq_true rfl) ?_
  refine pv_aload_n (M := mX12_readsNumber) 0 dX12_readsNumber_0 1 rfl rfl rfl ?_
  refine iv_get (M := mX12_readsNumber) (l1 := 0) (l2 := 160) dX12_readsNumber_1 FX12 12 wd1185 (by decide) (tl123 hT) rfl I rfl 4 rfl (fun v1 ev1 pv1 qv1 => ?_)
  have wv1 : v1.toInt = (m 123 12).toInt := congrArg Int32.toInt ev1
  refine pv_istore_n (M := mX12_readsNumber) 1 (lo2 := [.ref 123, .int v1]) dX12_readsNumber_4 5 rfl rfl (by decide) rfl rfl ?_
  refine pv_aload_n (M := mX12_readsNumber) 0 dX12_readsNumber_5 6 rfl rfl rfl ?_
  refine pv_iconst (M := mX12_readsNumber) (v := 0) dX12_readsNumber_6 7 rfl (by decide) ?_
  refine iv_put (M := mX12_readsNumber) (l1 := 0) (l2 := 99999) dX12_readsNumber_7 FX12 19 wd1192 (by decide) rfl (tl123 hT) rfl rfl rfl I rfl (by decide) (by decide) 10 rfl (fun m2 e5 I3 => ?_)
  have K4 := Kp.set e5 rfl
  have w6 : (m2 123 12).toInt = (m 123 12).toInt := by rw [e5, up2_ne (by omega)]
  have w7 : (m2 123 13).toInt = (m 123 13).toInt := by rw [e5, up2_ne (by omega)]
  have w8 : (m2 123 16).toInt = (m 123 16).toInt := by rw [e5, up2_ne (by omega)]
  have w9 : (m2 123 17).toInt = (m 123 17).toInt := by rw [e5, up2_ne (by omega)]
  have w10 : (m2 123 19).toInt = 0 := by rw [e5, up2_eq] <;> rfl
  have w11 : (m2 123 14).toInt = (m 123 14).toInt := by rw [e5, up2_ne (by omega)]
  have w12 : (m2 123 15).toInt = (m 123 15).toInt := by rw [e5, up2_ne (by omega)]
  have lp18 : ∀ (fuel17 : Nat)  (m13 : Nat → Nat → Int32) (n14 : Nat → Nat → Int64), (v1.toInt = (m 123 12).toInt) → ((m 123 12).toInt ≤ (m13 123 12).toInt) → ((m13 123 12).toInt ≤ (m 123 12).toInt + 5) → ((m13 123 12).toInt ≤ (m13 123 13).toInt) → ((m13 123 13).toInt = (m 123 13).toInt) → ((m13 123 19).toInt + 1 ≤ pow10 ((m13 123 12).toInt - (m 123 12).toInt)) → ((m13 123 12).toInt = (m 123 12).toInt → hereV m13 = hereV m) → (nd (tR m) 5 (m 123 12).toInt = nd (tR m) (5 - ((m13 123 12).toInt - (m 123 12).toInt)).toNat (m13 123 12).toInt) → ((m13 123 15).toInt = (m 123 15).toInt) → IV BB m13 → fr (wl [(123, 123, some 12), (123, 123, some 14), (123, 123, some 19)]) m m13 → ((160 - (m13 123 12).toInt) : Int).toNat < fuel17 → PV none g mX12_readsNumber (sqI T BB (wl [(123, 123, some 12), (123, 123, some 14), (123, 123, some 19)]) r m 0 1 (fun m' v => ((v.toInt = 0 ∨ (48 ≤ hereV m ∧ hereV m ≤ 57 → (m 123 12).toInt + 1 ≤ (m' 123 12).toInt)) ∧ (m 123 12).toInt ≤ (m' 123 12).toInt ∧ (m' 123 12).toInt ≤ (m' 123 13).toInt ∧ (m' 123 13).toInt = (m 123 13).toInt) ∧ RSX (nd (tR m) 5 (m 123 12).toInt) v.toInt (m' 123 12).toInt (m' 123 14).toInt ∧ (m' 123 15).toInt = (m 123 15).toInt)) 3 0 0 10 [.ref 123, .int v1] [] (mk T m13 n14 r) := by
    intro fuel17
    induction fuel17 with
    | zero => intro  m13 n14 b20 b21 b22 b23 b24 b25 b26 b27 b28 I15 K16 z29; omega
    | succ fuel17 ih19 =>
      intro  m13 n14 b20 b21 b22 b23 b24 b25 b26 b27 b28 I15 K16 z29
      have z30 : 0 ≤ (m13 123 12).toInt ∧ (m13 123 12).toInt ≤ 160 := I15 123 12
      have z31 : 0 ≤ (m13 123 13).toInt ∧ (m13 123 13).toInt ≤ 160 := I15 123 13
      have z32 : 0 ≤ (m13 123 16).toInt ∧ (m13 123 16).toInt ≤ 180 := I15 123 16
      have z33 : 0 ≤ (m13 123 17).toInt ∧ (m13 123 17).toInt ≤ 180 := I15 123 17
      have z34 : 0 ≤ (m13 123 19).toInt ∧ (m13 123 19).toInt ≤ 99999 := I15 123 19
      have kgn := (show nd (tR m) 5 (m 123 12).toInt = nd (tR m) (5 - ((m13 123 12).toInt - (m 123 12).toInt)).toNat (m13 123 12).toInt by assumption)
      have kt10 : tR m13 = tR m := tR_eq (K16 123 13 rfl) (fun j => K16 129 j rfl)
      have kh10 : hereV m13 = tR m (m13 123 12).toInt := congrFun kt10 _
      refine pv_aload_n (M := mX12_readsNumber) 0 dX12_readsNumber_10 11 rfl rfl rfl ?_
      refine pv_callv (M := mX12_readsNumber) (as := []) (st := []) (kc2 := 0) (ks2 := 0) dX12_readsNumber_11 wd1438 YX12_isDigit ⟨wd1440, wd65⟩ (mk_get (tl123 hT)) rfl rfl (s_X12_isDigit g hT I15) rfl rfl (Nat.le_of_ble_eq_true rfl) (by decide) rfl rfl 14 rfl (fun rv h1 q38 => ?_)
      obtain ⟨v39, rfl, rfl, pv39, qv39, rv39⟩ := q38
      replace rv39 : (v39.toInt = 0 ∧ ¬ (48 ≤ hereV m13 ∧ hereV m13 ≤ 57)) ∨ (v39.toInt = 1 ∧ 48 ≤ hereV m13 ∧ hereV m13 ≤ 57 ∧ (m13 123 12).toInt < (m13 123 13).toInt) := rv39
      show PV _ _ _ _ _ _ _ 14 [.ref 123, .int v1] [.int v39] _
      have k14 := rv39
      refine pv_if_eq (M := mX12_readsNumber) (tgt := 69) dX12_readsNumber_14 17 rfl (by decide) (fun c41 => ?_) (fun c41 => ?_)
      · have c41 := iv_eq (X := v39.toInt) (Y := 0) c41 rfl (by decide)
        have kdn : dig (tR m (m13 123 12).toInt) = false := by rw [← kh10]; exact dig_no (by omega)
        refine pv_iconst (M := mX12_readsNumber) (v := 1) dX12_readsNumber_69 70 rfl (by decide) ?_
        have z43 : (1 : Int32).toInt = 1 := by decide
        exact pv_iret (M := mX12_readsNumber) dX12_readsNumber_70 rfl rfl ⟨_, _, _, rfl, rfl, I15, K16, by decide, by decide, ⟨(by refine ⟨?_, ?_, ?_, ?_⟩ <;> first | omega | (right; intro q; omega)), Or.inl ⟨by decide, by rw [kgn, nd_no kdn]⟩, by omega⟩⟩
      · have c41 := iv_ne (X := v39.toInt) (Y := 0) c41 rfl (by decide)
        have kd : dig (tR m (m13 123 12).toInt) = true := by rw [← kh10]; exact dig_y (by omega) (by omega)
        refine pv_aload_n (M := mX12_readsNumber) 0 dX12_readsNumber_17 18 rfl rfl rfl ?_
        refine iv_get (M := mX12_readsNumber) (l1 := 0) (l2 := 160) dX12_readsNumber_18 FX12 12 wd1185 (by decide) (tl123 hT) rfl I15 rfl 21 rfl (fun v45 ev45 pv45 qv45 => ?_)
        have wv45 : v45.toInt = (m13 123 12).toInt := congrArg Int32.toInt ev45
        refine pv_iload_n (M := mX12_readsNumber) 1 dX12_readsNumber_21 22 rfl rfl rfl ?_
        refine pv_iconst (M := mX12_readsNumber) (v := 5) dX12_readsNumber_22 23 rfl (by decide) ?_
        refine iv_iadd (M := mX12_readsNumber) (X := v1.toInt) (Y := 5) dX12_readsNumber_23 24 rfl rfl (by decide) (by omega) (by omega) (fun v46 ev46 => ?_)
        refine pv_icmp_ne (M := mX12_readsNumber) (tgt := 37) dX12_readsNumber_24 27 rfl (by decide) (fun c47 => ?_) (fun c47 => ?_)
        · have c47 := iv_ne (X := v45.toInt) (Y := v46.toInt) c47 rfl rfl
          refine pv_aload_n (M := mX12_readsNumber) 0 dX12_readsNumber_37 38 rfl rfl rfl ?_
          refine pv_bipush (M := mX12_readsNumber) (v := 10) dX12_readsNumber_38 40 rfl (by decide) ?_
          refine pv_aload_n (M := mX12_readsNumber) 0 dX12_readsNumber_40 41 rfl rfl rfl ?_
          refine iv_get (M := mX12_readsNumber) (l1 := 0) (l2 := 99999) dX12_readsNumber_41 FX12 19 wd1192 (by decide) (tl123 hT) rfl I15 rfl 44 rfl (fun v48 ev48 pv48 qv48 => ?_)
          have wv48 : v48.toInt = (m13 123 19).toInt := congrArg Int32.toInt ev48
          refine iv_imul (M := mX12_readsNumber) (X := 10) (Y := v48.toInt) dX12_readsNumber_44 45 rfl (by decide) rfl (by omega) (by omega) (fun v49 ev49 => ?_)
          refine pv_aload_n (M := mX12_readsNumber) 0 dX12_readsNumber_45 46 rfl rfl rfl ?_
          refine pv_callv (M := mX12_readsNumber) (as := []) (st := [.int v49, .ref 123]) (kc2 := 0) (ks2 := 0) dX12_readsNumber_46 wd1417 YX12_here ⟨wd1419, wd60⟩ (mk_get (tl123 hT)) rfl rfl (s_X12_here g hT I15) rfl rfl (Nat.le_of_ble_eq_true rfl) (by decide) rfl rfl 49 rfl (fun rv h1 q50 => ?_)
          obtain ⟨v51, rfl, rfl, pv51, qv51, rv51⟩ := q50
          replace rv51 : v51.toInt = hereV m13 ∧ (v51.toInt = -1 ∨ (m13 123 12).toInt < (m13 123 13).toInt) := rv51
          show PV _ _ _ _ _ _ _ 49 [.ref 123, .int v1] [.int v51, .int v49, .ref 123] _
          refine iv_iadd (M := mX12_readsNumber) (X := v49.toInt) (Y := v51.toInt) dX12_readsNumber_49 50 rfl rfl rfl (by omega) (by omega) (fun v52 ev52 => ?_)
          refine pv_bipush (M := mX12_readsNumber) (v := 48) dX12_readsNumber_50 52 rfl (by decide) ?_
          refine iv_isub (M := mX12_readsNumber) (X := v52.toInt) (Y := 48) dX12_readsNumber_52 53 rfl rfl (by decide) (by omega) (by omega) (fun v53 ev53 => ?_)
          have kz := pow10_4 (k := (m13 123 12).toInt - (m 123 12).toInt) (by omega)
          refine iv_put (M := mX12_readsNumber) (l1 := 0) (l2 := 99999) dX12_readsNumber_53 FX12 19 wd1192 (by decide) rfl (tl123 hT) rfl rfl rfl I15 rfl (by omega) (by omega) 56 rfl (fun m55 e58 I56 => ?_)
          have K57 := K16.set e58 rfl
          have w59 : (m55 123 12).toInt = (m13 123 12).toInt := by rw [e58, up2_ne (by omega)]
          have w60 : (m55 123 13).toInt = (m13 123 13).toInt := by rw [e58, up2_ne (by omega)]
          have w61 : (m55 123 16).toInt = (m13 123 16).toInt := by rw [e58, up2_ne (by omega)]
          have w62 : (m55 123 17).toInt = (m13 123 17).toInt := by rw [e58, up2_ne (by omega)]
          have w63 : (m55 123 19).toInt = v53.toInt := by rw [e58, up2_eq]
          have w64 : (m55 123 14).toInt = (m13 123 14).toInt := by rw [e58, up2_ne (by omega)]
          have w65 : (m55 123 15).toInt = (m13 123 15).toInt := by rw [e58, up2_ne (by omega)]
          refine pv_aload_n (M := mX12_readsNumber) 0 dX12_readsNumber_56 57 rfl rfl rfl ?_
          refine pv_aload_n (M := mX12_readsNumber) 0 dX12_readsNumber_57 58 rfl rfl rfl ?_
          refine iv_get (M := mX12_readsNumber) (l1 := 0) (l2 := 160) dX12_readsNumber_58 FX12 12 wd1185 (by decide) (tl123 hT) rfl I56 rfl 61 rfl (fun v66 ev66 pv66 qv66 => ?_)
          have wv66 : v66.toInt = (m55 123 12).toInt := congrArg Int32.toInt ev66
          refine pv_iconst (M := mX12_readsNumber) (v := 1) dX12_readsNumber_61 62 rfl (by decide) ?_
          refine iv_iadd (M := mX12_readsNumber) (X := v66.toInt) (Y := 1) dX12_readsNumber_62 63 rfl rfl (by decide) (by omega) (by omega) (fun v67 ev67 => ?_)
          refine iv_put (M := mX12_readsNumber) (l1 := 0) (l2 := 160) dX12_readsNumber_63 FX12 12 wd1185 (by decide) rfl (tl123 hT) rfl rfl rfl I56 rfl (by omega) (by omega) 66 rfl (fun m68 e71 I69 => ?_)
          have K70 := K57.set e71 rfl
          have w72 : (m68 123 12).toInt = v67.toInt := by rw [e71, up2_eq]
          have w73 : (m68 123 13).toInt = (m55 123 13).toInt := by rw [e71, up2_ne (by omega)]
          have w74 : (m68 123 16).toInt = (m55 123 16).toInt := by rw [e71, up2_ne (by omega)]
          have w75 : (m68 123 17).toInt = (m55 123 17).toInt := by rw [e71, up2_ne (by omega)]
          have w76 : (m68 123 19).toInt = (m55 123 19).toInt := by rw [e71, up2_ne (by omega)]
          have w77 : (m68 123 14).toInt = (m55 123 14).toInt := by rw [e71, up2_ne (by omega)]
          have w78 : (m68 123 15).toInt = (m55 123 15).toInt := by rw [e71, up2_ne (by omega)]
          refine pv_goto (M := mX12_readsNumber) (tgt := 10) dX12_readsNumber_66 (by decide) ?_
          have kp : pow10 ((m68 123 12).toInt - (m 123 12).toInt) = 10 * pow10 ((m68 123 12).toInt - (m 123 12).toInt - 1) := pow10_s (by omega) (by omega)
          have kq : pow10 ((m68 123 12).toInt - (m 123 12).toInt - 1) = pow10 ((m13 123 12).toInt - (m 123 12).toInt) := congrArg pow10 (by omega)
          have kbn : nd (tR m) 5 (m 123 12).toInt = nd (tR m) (5 - ((m68 123 12).toInt - (m 123 12).toInt)).toNat (m68 123 12).toInt := by rw [kgn, show (5 - ((m13 123 12).toInt - (m 123 12).toInt)).toNat = (5 - ((m68 123 12).toInt - (m 123 12).toInt)).toNat + 1 by omega, nd_y kd, show (m13 123 12).toInt + 1 = (m68 123 12).toInt by omega]
          exact ih19  m68 n14 (by first | omega | assumption | (show v1.toInt = (m 123 12).toInt; omega) | decide) (by first | omega | assumption | (show (m 123 12).toInt ≤ (m68 123 12).toInt; omega) | decide) (by first | omega | assumption | (show (m68 123 12).toInt ≤ (m 123 12).toInt + 5; omega) | decide) (by first | omega | assumption | (show (m68 123 12).toInt ≤ (m68 123 13).toInt; omega) | decide) (by first | omega | assumption | (show (m68 123 13).toInt = (m 123 13).toInt; omega) | decide) (by first | omega | assumption | (show (m68 123 19).toInt + 1 ≤ pow10 ((m68 123 12).toInt - (m 123 12).toInt); omega) | decide) (fun q => by omega) kbn (by first | omega | assumption | (show (m68 123 15).toInt = (m 123 15).toInt; omega) | decide) I69 K70 (by omega)
        · have c47 := iv_eq (X := v45.toInt) (Y := v46.toInt) c47 rfl rfl
          refine pv_aload_n (M := mX12_readsNumber) 0 dX12_readsNumber_27 28 rfl rfl rfl ?_
          refine pv_iconst (M := mX12_readsNumber) (v := 2) dX12_readsNumber_28 29 rfl (by decide) ?_
          refine pv_aload_n (M := mX12_readsNumber) 0 dX12_readsNumber_29 30 rfl rfl rfl ?_
          refine iv_get (M := mX12_readsNumber) (l1 := 0) (l2 := 160) dX12_readsNumber_30 FX12 12 wd1185 (by decide) (tl123 hT) rfl I15 rfl 33 rfl (fun v82 ev82 pv82 qv82 => ?_)
          have wv82 : v82.toInt = (m13 123 12).toInt := congrArg Int32.toInt ev82
          have z83 : (2 : Int32).toInt = 2 := by decide
          refine pv_callv (M := mX12_readsNumber) (as := [.int 2, .int v82]) (st := []) (kc2 := 0) (ks2 := 0) dX12_readsNumber_33 wd1421 YX12_wrongAt ⟨wd1423, wd61⟩ (mk_get (tl123 hT)) rfl rfl (s_X12_wrongAt_vx g hT I15 2 (by decide) (by decide) v82 (by omega) (by omega)) rfl rfl (Nat.le_of_ble_eq_true rfl) (by decide) rfl rfl 36 rfl (fun rv h1 q84 => ?_)
          obtain ⟨m85, n86, v89, rfl, rfl, I87, K88, pv89, qv89, rv89⟩ := q84
          replace rv89 : (m85 123 14).toInt = -1000 * (2 : Int) - v82.toInt := by have q_ := rv89; (try rw [z83] at q_); exact q_
          have K88c := K88
          have w90 : (m85 123 12).toInt = (m13 123 12).toInt := congrArg Int32.toInt (K88 123 12 rfl)
          have w91 : (m85 123 13).toInt = (m13 123 13).toInt := congrArg Int32.toInt (K88 123 13 rfl)
          have w92 : (m85 123 16).toInt = (m13 123 16).toInt := congrArg Int32.toInt (K88 123 16 rfl)
          have w93 : (m85 123 17).toInt = (m13 123 17).toInt := congrArg Int32.toInt (K88 123 17 rfl)
          have w94 : (m85 123 19).toInt = (m13 123 19).toInt := congrArg Int32.toInt (K88 123 19 rfl)
          have w95 : (m85 123 15).toInt = (m13 123 15).toInt := congrArg Int32.toInt (K88 123 15 rfl)
          have K88 := K16.trans (K88.sub (wl_sub (by decide)))
          show PV _ _ _ _ _ _ _ 36 [.ref 123, .int v1] [.int v89] _
          exact pv_iret (M := mX12_readsNumber) dX12_readsNumber_36 rfl (iv_nz (by omega) (by omega)) ⟨_, _, _, rfl, rfl, I87, K88, by omega, by omega, ⟨(by refine ⟨?_, ?_, ?_, ?_⟩ <;> first | omega | (right; intro q; omega)), Or.inr ⟨by omega, FLT_of (a := 2) (p := (m13 123 12).toInt) (by rw [kgn, show (5 - ((m13 123 12).toInt - (m 123 12).toInt)).toNat = 0 by omega]; exact nd_2 kd) (by decide) (by omega)⟩, by omega⟩⟩
  exact lp18 (((160 - (m2 123 12).toInt) : Int).toNat + 1)  m2 n (by first | omega | assumption | (show v1.toInt = (m 123 12).toInt; omega) | decide) (by first | omega | assumption | (show (m 123 12).toInt ≤ (m2 123 12).toInt; omega) | decide) (by first | omega | assumption | (show (m2 123 12).toInt ≤ (m 123 12).toInt + 5; omega) | decide) (by first | omega | assumption | (show (m2 123 12).toInt ≤ (m2 123 13).toInt; omega) | decide) (by first | omega | assumption | (show (m2 123 13).toInt = (m 123 13).toInt; omega) | decide) (by rw [show (m2 123 12).toInt - (m 123 12).toInt = 0 by omega]; show (m2 123 19).toInt + 1 ≤ 1; omega) (fun _ => by unfold hereV; rw [e5, up2_ne (by omega), up2_ne (by omega), up2_off (by omega)]) (by rw [show (5 - ((m2 123 12).toInt - (m 123 12).toInt)).toNat = 5 by omega, show (m2 123 12).toInt = (m 123 12).toInt by omega]) (by first | omega | assumption | (show (m2 123 15).toInt = (m 123 15).toInt; omega) | decide) I3 K4 (by omega)

set_option maxHeartbeats 2000000 in
set_option maxRecDepth 20000 in
theorem s_X12_opens_vx (g : pv_G) {T : List mv_T} {m : Nat → Nat → Int32} {n : Nat → Nat → Int64} {r : Nat → Value} (hT : TX T) (I : IV BB m) (x0 : Int32) (hl0 : 10 ≤ x0.toInt) (hh0 : x0.toInt ≤ 14) (hp0 : (m 123 12).toInt < (m 123 13).toInt) (hp1 : (m 123 17).toInt ≤ 179) (hp2 : 0 ≤ (m 123 15).toInt) (hp3 : (m 123 15).toInt ≤ 6) : PM g mX12_opens yX12_opens (sqI T BB (wl [(123, 123, some 12), (123, 123, some 14), (123, 123, some 15), (123, 123, some 17), (131, 131, none)]) r m 0 1 (fun m' v => (v.toInt = 0 ∧ (m' 123 12).toInt = (m 123 12).toInt ∧ (m 123 15).toInt = 6 ∧ (m' 123 14).toInt = -5000 - (m 123 12).toInt) ∨ (v.toInt = 1 ∧ (∃ o u w z : Int32, m' = up2 (up2 (up2 (up2 m 123 15 o) 131 (m 123 17).toInt.toNat u) 123 17 w) 123 12 z ∧ u.toInt = 1048576 * x0.toInt ∧ w.toInt = (m 123 17).toInt + 1 ∧ z.toInt = (m 123 12).toInt + 1) ∧ (m' 123 15).toInt = (m 123 15).toInt + 1 ∧ (m 123 15).toInt ≠ 6))) 2 0 0 [.ref 123, .int x0] (mk T m n r) := by
  have Kp : fr (wl [(123, 123, some 12), (123, 123, some 14), (123, 123, some 15), (123, 123, some 17), (131, 131, none)]) m m := fr.rf
  have z66 : 0 ≤ (m 123 12).toInt ∧ (m 123 12).toInt ≤ 160 := I 123 12
  have z67 : 0 ≤ (m 123 13).toInt ∧ (m 123 13).toInt ≤ 160 := I 123 13
  have z68 : 0 ≤ (m 123 16).toInt ∧ (m 123 16).toInt ≤ 180 := I 123 16
  have z69 : 0 ≤ (m 123 17).toInt ∧ (m 123 17).toInt ≤ 180 := I 123 17
  refine PM.of 0 (lo := [.ref 123, .int x0]) rfl (by decide) rfl rfl (Nat.le_of_ble_eq_true rfl) ?_
  refine pv_aload_n (M := mX12_opens) 0 dX12_opens_0 1 rfl rfl rfl ?_
  refine iv_get (M := mX12_opens) (l1 := (-2147483648)) (l2 := 2147483647) dX12_opens_1 FX12 15 wd1188 (by decide) (tl123 hT) rfl I rfl 4 rfl (fun v1 ev1 pv1 qv1 => ?_)
  have wv1 : v1.toInt = (m 123 15).toInt := congrArg Int32.toInt ev1
  refine pv_bipush (M := mX12_opens) (v := 6) dX12_opens_4 6 rfl (by decide) ?_
  refine pv_icmp_ne (M := mX12_opens) (tgt := 19) dX12_opens_6 9 rfl (by decide) (fun c2 => ?_) (fun c2 => ?_)
  · have c2 := iv_ne (X := v1.toInt) (Y := 6) c2 rfl (by decide)
    refine pv_aload_n (M := mX12_opens) 0 dX12_opens_19 20 rfl rfl rfl ?_
    refine pv_aload_n (M := mX12_opens) 0 dX12_opens_20 21 rfl rfl rfl ?_
    refine iv_get (M := mX12_opens) (l1 := (-2147483648)) (l2 := 2147483647) dX12_opens_21 FX12 15 wd1188 (by decide) (tl123 hT) rfl I rfl 24 rfl (fun v3 ev3 pv3 qv3 => ?_)
    have wv3 : v3.toInt = (m 123 15).toInt := congrArg Int32.toInt ev3
    refine pv_iconst (M := mX12_opens) (v := 1) dX12_opens_24 25 rfl (by decide) ?_
    refine iv_iadd (M := mX12_opens) (X := v3.toInt) (Y := 1) dX12_opens_25 26 rfl rfl (by decide) (by omega) (by omega) (fun v4 ev4 => ?_)
    refine iv_put (M := mX12_opens) (l1 := (-2147483648)) (l2 := 2147483647) dX12_opens_26 FX12 15 wd1188 (by decide) rfl (tl123 hT) rfl rfl rfl I rfl (iv_rng v4).1 (iv_rng v4).2 29 rfl (fun m5 e8 I6 => ?_)
    have K7 := Kp.set e8 rfl
    have w9 : (m5 123 12).toInt = (m 123 12).toInt := by rw [e8, up2_ne (by omega)]
    have w10 : (m5 123 13).toInt = (m 123 13).toInt := by rw [e8, up2_ne (by omega)]
    have w11 : (m5 123 16).toInt = (m 123 16).toInt := by rw [e8, up2_ne (by omega)]
    have w12 : (m5 123 17).toInt = (m 123 17).toInt := by rw [e8, up2_ne (by omega)]
    have w13 : (m5 123 14).toInt = (m 123 14).toInt := by rw [e8, up2_ne (by omega)]
    have w14 : (m5 123 15).toInt = v4.toInt := by rw [e8, up2_eq]
    refine pv_aload_n (M := mX12_opens) 0 dX12_opens_29 30 rfl rfl rfl ?_
    refine mv_get (M := mX12_opens) (v := .ref 131) dX12_opens_30 FX12 22 wd1195 (by decide) (tl123 hT) rfl rfl 33 rfl ?_
    refine pv_aload_n (M := mX12_opens) 0 dX12_opens_33 34 rfl rfl rfl ?_
    refine iv_get (M := mX12_opens) (l1 := 0) (l2 := 180) dX12_opens_34 FX12 17 wd1190 (by decide) (tl123 hT) rfl I6 rfl 37 rfl (fun v15 ev15 pv15 qv15 => ?_)
    have wv15 : v15.toInt = (m5 123 17).toInt := congrArg Int32.toInt ev15
    refine pv_ldc (M := mX12_opens) (v := 1048576) dX12_opens_37 39 rfl wd1437 ?_
    refine pv_iload_n (M := mX12_opens) 1 dX12_opens_39 40 rfl rfl rfl ?_
    refine iv_imul (M := mX12_opens) (X := 1048576) (Y := x0.toInt) dX12_opens_40 41 rfl (by decide) rfl (by omega) (by omega) (fun v16 ev16 => ?_)
    refine iv_iast (M := mX12_opens) (X := v15.toInt) (l1 := 0) (l2 := 15728639) dX12_opens_41 (tl131 hT) rfl (by omega) (by omega) I6 (fun _ => rfl) (by omega) (by omega) 42 rfl (fun m17 e20 I18 => ?_)
    have K19 := K7.set e20 rfl
    have w21 : (m17 123 12).toInt = (m5 123 12).toInt := by rw [e20, up2_ne (by omega)]
    have w22 : (m17 123 13).toInt = (m5 123 13).toInt := by rw [e20, up2_ne (by omega)]
    have w23 : (m17 123 16).toInt = (m5 123 16).toInt := by rw [e20, up2_ne (by omega)]
    have w24 : (m17 123 17).toInt = (m5 123 17).toInt := by rw [e20, up2_ne (by omega)]
    have w25 : (m17 123 14).toInt = (m5 123 14).toInt := by rw [e20, up2_ne (by omega)]
    have w26 : (m17 123 15).toInt = (m5 123 15).toInt := by rw [e20, up2_ne (by omega)]
    have k42 := (e20).trans (up2_ix (j := (m 123 17).toInt.toNat) (by omega))
    refine pv_aload_n (M := mX12_opens) 0 dX12_opens_42 43 rfl rfl rfl ?_
    refine pv_aload_n (M := mX12_opens) 0 dX12_opens_43 44 rfl rfl rfl ?_
    refine iv_get (M := mX12_opens) (l1 := 0) (l2 := 180) dX12_opens_44 FX12 17 wd1190 (by decide) (tl123 hT) rfl I18 rfl 47 rfl (fun v28 ev28 pv28 qv28 => ?_)
    have wv28 : v28.toInt = (m17 123 17).toInt := congrArg Int32.toInt ev28
    refine pv_iconst (M := mX12_opens) (v := 1) dX12_opens_47 48 rfl (by decide) ?_
    refine iv_iadd (M := mX12_opens) (X := v28.toInt) (Y := 1) dX12_opens_48 49 rfl rfl (by decide) (by omega) (by omega) (fun v29 ev29 => ?_)
    refine iv_put (M := mX12_opens) (l1 := 0) (l2 := 180) dX12_opens_49 FX12 17 wd1190 (by decide) rfl (tl123 hT) rfl rfl rfl I18 rfl (by omega) (by omega) 52 rfl (fun m30 e33 I31 => ?_)
    have K32 := K19.set e33 rfl
    have w34 : (m30 123 12).toInt = (m17 123 12).toInt := by rw [e33, up2_ne (by omega)]
    have w35 : (m30 123 13).toInt = (m17 123 13).toInt := by rw [e33, up2_ne (by omega)]
    have w36 : (m30 123 16).toInt = (m17 123 16).toInt := by rw [e33, up2_ne (by omega)]
    have w37 : (m30 123 17).toInt = v29.toInt := by rw [e33, up2_eq]
    have w38 : (m30 123 14).toInt = (m17 123 14).toInt := by rw [e33, up2_ne (by omega)]
    have w39 : (m30 123 15).toInt = (m17 123 15).toInt := by rw [e33, up2_ne (by omega)]
    refine pv_aload_n (M := mX12_opens) 0 dX12_opens_52 53 rfl rfl rfl ?_
    refine pv_aload_n (M := mX12_opens) 0 dX12_opens_53 54 rfl rfl rfl ?_
    refine iv_get (M := mX12_opens) (l1 := 0) (l2 := 160) dX12_opens_54 FX12 12 wd1185 (by decide) (tl123 hT) rfl I31 rfl 57 rfl (fun v40 ev40 pv40 qv40 => ?_)
    have wv40 : v40.toInt = (m30 123 12).toInt := congrArg Int32.toInt ev40
    refine pv_iconst (M := mX12_opens) (v := 1) dX12_opens_57 58 rfl (by decide) ?_
    refine iv_iadd (M := mX12_opens) (X := v40.toInt) (Y := 1) dX12_opens_58 59 rfl rfl (by decide) (by omega) (by omega) (fun v41 ev41 => ?_)
    refine iv_put (M := mX12_opens) (l1 := 0) (l2 := 160) dX12_opens_59 FX12 12 wd1185 (by decide) rfl (tl123 hT) rfl rfl rfl I31 rfl (by omega) (by omega) 62 rfl (fun m42 e45 I43 => ?_)
    have K44 := K32.set e45 rfl
    have w46 : (m42 123 12).toInt = v41.toInt := by rw [e45, up2_eq]
    have w47 : (m42 123 13).toInt = (m30 123 13).toInt := by rw [e45, up2_ne (by omega)]
    have w48 : (m42 123 16).toInt = (m30 123 16).toInt := by rw [e45, up2_ne (by omega)]
    have w49 : (m42 123 17).toInt = (m30 123 17).toInt := by rw [e45, up2_ne (by omega)]
    have w50 : (m42 123 14).toInt = (m30 123 14).toInt := by rw [e45, up2_ne (by omega)]
    have w51 : (m42 123 15).toInt = (m30 123 15).toInt := by rw [e45, up2_ne (by omega)]
    refine pv_iconst (M := mX12_opens) (v := 1) dX12_opens_62 63 rfl (by decide) ?_
    have z52 : (1 : Int32).toInt = 1 := by decide
    exact pv_iret (M := mX12_opens) dX12_opens_63 rfl rfl ⟨_, _, _, rfl, rfl, I43, K44, by decide, by decide, (Or.inr ⟨by decide, ⟨_, _, _, _, (e45).trans (congrArg (fun q => up2 q 123 12 _) ((e33).trans (congrArg (fun q => up2 q 123 17 _) (k42.trans (congrArg (fun q => up2 q 131 _ _) e8))))), by omega, by omega, by omega⟩, by omega, by omega⟩)⟩
  · have c2 := iv_eq (X := v1.toInt) (Y := 6) c2 rfl (by decide)
    refine pv_aload_n (M := mX12_opens) 0 dX12_opens_9 10 rfl rfl rfl ?_
    refine pv_iconst (M := mX12_opens) (v := 5) dX12_opens_10 11 rfl (by decide) ?_
    refine pv_aload_n (M := mX12_opens) 0 dX12_opens_11 12 rfl rfl rfl ?_
    refine iv_get (M := mX12_opens) (l1 := 0) (l2 := 160) dX12_opens_12 FX12 12 wd1185 (by decide) (tl123 hT) rfl I rfl 15 rfl (fun v53 ev53 pv53 qv53 => ?_)
    have wv53 : v53.toInt = (m 123 12).toInt := congrArg Int32.toInt ev53
    have z54 : (5 : Int32).toInt = 5 := by decide
    refine pv_callv (M := mX12_opens) (as := [.int 5, .int v53]) (st := []) (kc2 := 0) (ks2 := 0) dX12_opens_15 wd1421 YX12_wrongAt ⟨wd1423, wd61⟩ (mk_get (tl123 hT)) rfl rfl (s_X12_wrongAt_vx g hT I 5 (by decide) (by decide) v53 (by omega) (by omega)) rfl rfl (Nat.le_of_ble_eq_true rfl) (by decide) rfl rfl 18 rfl (fun rv h1 q55 => ?_)
    obtain ⟨m56, n57, v60, rfl, rfl, I58, K59, pv60, qv60, rv60⟩ := q55
    replace rv60 : (m56 123 14).toInt = -1000 * (5 : Int) - v53.toInt := by have q_ := rv60; (try rw [z54] at q_); exact q_
    have K59c := K59
    have w61 : (m56 123 12).toInt = (m 123 12).toInt := congrArg Int32.toInt (K59 123 12 rfl)
    have w62 : (m56 123 13).toInt = (m 123 13).toInt := congrArg Int32.toInt (K59 123 13 rfl)
    have w63 : (m56 123 16).toInt = (m 123 16).toInt := congrArg Int32.toInt (K59 123 16 rfl)
    have w64 : (m56 123 17).toInt = (m 123 17).toInt := congrArg Int32.toInt (K59 123 17 rfl)
    have w65 : (m56 123 15).toInt = (m 123 15).toInt := congrArg Int32.toInt (K59 123 15 rfl)
    have K59 := Kp.trans (K59.sub (wl_sub (by decide)))
    show PV _ _ _ _ _ _ _ 18 [.ref 123, .int x0] [.int v60] _
    exact pv_iret (M := mX12_opens) dX12_opens_18 rfl (iv_nz (by omega) (by omega)) ⟨_, _, _, rfl, rfl, I58, K59, by omega, by omega, (Or.inl ⟨by omega, by omega, by omega, by omega⟩)⟩

set_option maxHeartbeats 2000000 in
set_option maxRecDepth 20000 in
theorem s_X12_factOf_vx (g : pv_G) {T : List mv_T} {m : Nat → Nat → Int32} {n : Nat → Nat → Int64} {r : Nat → Value} (hT : TX T) (I : IV BB m) (x0 : Int32) : PM g mX12_factOf yX12_factOf (sqP (mk T m n r) (-1) 9 (fun v => v.toInt = nix x0.toInt)) 1 0 0 [.int x0] (mk T m n r) := by
  have Kp : fr (wl []) m m := fr.rf
  refine PM.of 0 (lo := [.int x0]) rfl (by decide) rfl rfl (Nat.le_of_ble_eq_true rfl) ?_
  refine pv_iload_n (M := mX12_factOf) 0 dX12_factOf_0 1 rfl rfl rfl ?_
  by_cases c1 : x0.toInt = 98
  · refine iv_tabIn (M := mX12_factOf) (X := 98) (off := 118) (tgt := 119) dX12_factOf_1 c1 (by decide) (by decide) (by decide) (by decide) ?_
    refine pv_bipush (M := mX12_factOf) (v := 7) dX12_factOf_119 121 rfl (by decide) ?_
    have z2 : (7 : Int32).toInt = 7 := by decide
    exact pv_iret (M := mX12_factOf) dX12_factOf_121 rfl rfl ⟨_, rfl, rfl, by decide, by decide, (by unfold nix; omega)⟩
  by_cases c3 : x0.toInt = 99
  · refine iv_tabIn (M := mX12_factOf) (X := 99) (off := 127) (tgt := 128) dX12_factOf_1 c3 (by decide) (by decide) (by decide) (by decide) ?_
    refine pv_iconst (M := mX12_factOf) (v := (-1)) dX12_factOf_128 129 rfl (by decide) ?_
    have z4 : ((-1) : Int32).toInt = (-1) := by decide
    exact pv_iret (M := mX12_factOf) dX12_factOf_129 rfl rfl ⟨_, rfl, rfl, by decide, by decide, (by unfold nix; omega)⟩
  by_cases c5 : x0.toInt = 100
  · refine iv_tabIn (M := mX12_factOf) (X := 100) (off := 115) (tgt := 116) dX12_factOf_1 c5 (by decide) (by decide) (by decide) (by decide) ?_
    refine pv_bipush (M := mX12_factOf) (v := 6) dX12_factOf_116 118 rfl (by decide) ?_
    have z6 : (6 : Int32).toInt = 6 := by decide
    exact pv_iret (M := mX12_factOf) dX12_factOf_118 rfl rfl ⟨_, rfl, rfl, by decide, by decide, (by unfold nix; omega)⟩
  by_cases c7 : x0.toInt = 101
  · refine iv_tabIn (M := mX12_factOf) (X := 101) (off := 127) (tgt := 128) dX12_factOf_1 c7 (by decide) (by decide) (by decide) (by decide) ?_
    refine pv_iconst (M := mX12_factOf) (v := (-1)) dX12_factOf_128 129 rfl (by decide) ?_
    have z8 : ((-1) : Int32).toInt = (-1) := by decide
    exact pv_iret (M := mX12_factOf) dX12_factOf_129 rfl rfl ⟨_, rfl, rfl, by decide, by decide, (by unfold nix; omega)⟩
  by_cases c9 : x0.toInt = 102
  · refine iv_tabIn (M := mX12_factOf) (X := 102) (off := 121) (tgt := 122) dX12_factOf_1 c9 (by decide) (by decide) (by decide) (by decide) ?_
    refine pv_bipush (M := mX12_factOf) (v := 8) dX12_factOf_122 124 rfl (by decide) ?_
    have z10 : (8 : Int32).toInt = 8 := by decide
    exact pv_iret (M := mX12_factOf) dX12_factOf_124 rfl rfl ⟨_, rfl, rfl, by decide, by decide, (by unfold nix; omega)⟩
  by_cases c11 : x0.toInt = 103
  · refine iv_tabIn (M := mX12_factOf) (X := 103) (off := 124) (tgt := 125) dX12_factOf_1 c11 (by decide) (by decide) (by decide) (by decide) ?_
    refine pv_bipush (M := mX12_factOf) (v := 9) dX12_factOf_125 127 rfl (by decide) ?_
    have z12 : (9 : Int32).toInt = 9 := by decide
    exact pv_iret (M := mX12_factOf) dX12_factOf_127 rfl rfl ⟨_, rfl, rfl, by decide, by decide, (by unfold nix; omega)⟩
  by_cases c13 : x0.toInt = 104
  · refine iv_tabIn (M := mX12_factOf) (X := 104) (off := 127) (tgt := 128) dX12_factOf_1 c13 (by decide) (by decide) (by decide) (by decide) ?_
    refine pv_iconst (M := mX12_factOf) (v := (-1)) dX12_factOf_128 129 rfl (by decide) ?_
    have z14 : ((-1) : Int32).toInt = (-1) := by decide
    exact pv_iret (M := mX12_factOf) dX12_factOf_129 rfl rfl ⟨_, rfl, rfl, by decide, by decide, (by unfold nix; omega)⟩
  by_cases c15 : x0.toInt = 105
  · refine iv_tabIn (M := mX12_factOf) (X := 105) (off := 105) (tgt := 106) dX12_factOf_1 c15 (by decide) (by decide) (by decide) (by decide) ?_
    refine pv_iconst (M := mX12_factOf) (v := 1) dX12_factOf_106 107 rfl (by decide) ?_
    have z16 : (1 : Int32).toInt = 1 := by decide
    exact pv_iret (M := mX12_factOf) dX12_factOf_107 rfl rfl ⟨_, rfl, rfl, by decide, by decide, (by unfold nix; omega)⟩
  by_cases c17 : x0.toInt = 106
  · refine iv_tabIn (M := mX12_factOf) (X := 106) (off := 127) (tgt := 128) dX12_factOf_1 c17 (by decide) (by decide) (by decide) (by decide) ?_
    refine pv_iconst (M := mX12_factOf) (v := (-1)) dX12_factOf_128 129 rfl (by decide) ?_
    have z18 : ((-1) : Int32).toInt = (-1) := by decide
    exact pv_iret (M := mX12_factOf) dX12_factOf_129 rfl rfl ⟨_, rfl, rfl, by decide, by decide, (by unfold nix; omega)⟩
  by_cases c19 : x0.toInt = 107
  · refine iv_tabIn (M := mX12_factOf) (X := 107) (off := 113) (tgt := 114) dX12_factOf_1 c19 (by decide) (by decide) (by decide) (by decide) ?_
    refine pv_iconst (M := mX12_factOf) (v := 5) dX12_factOf_114 115 rfl (by decide) ?_
    have z20 : (5 : Int32).toInt = 5 := by decide
    exact pv_iret (M := mX12_factOf) dX12_factOf_115 rfl rfl ⟨_, rfl, rfl, by decide, by decide, (by unfold nix; omega)⟩
  by_cases c21 : x0.toInt = 108
  · refine iv_tabIn (M := mX12_factOf) (X := 108) (off := 103) (tgt := 104) dX12_factOf_1 c21 (by decide) (by decide) (by decide) (by decide) ?_
    refine pv_iconst (M := mX12_factOf) (v := 0) dX12_factOf_104 105 rfl (by decide) ?_
    have z22 : (0 : Int32).toInt = 0 := by decide
    exact pv_iret (M := mX12_factOf) dX12_factOf_105 rfl rfl ⟨_, rfl, rfl, by decide, by decide, (by unfold nix; omega)⟩
  by_cases c23 : x0.toInt = 109
  · refine iv_tabIn (M := mX12_factOf) (X := 109) (off := 109) (tgt := 110) dX12_factOf_1 c23 (by decide) (by decide) (by decide) (by decide) ?_
    refine pv_iconst (M := mX12_factOf) (v := 3) dX12_factOf_110 111 rfl (by decide) ?_
    have z24 : (3 : Int32).toInt = 3 := by decide
    exact pv_iret (M := mX12_factOf) dX12_factOf_111 rfl rfl ⟨_, rfl, rfl, by decide, by decide, (by unfold nix; omega)⟩
  by_cases c25 : x0.toInt = 110
  · refine iv_tabIn (M := mX12_factOf) (X := 110) (off := 127) (tgt := 128) dX12_factOf_1 c25 (by decide) (by decide) (by decide) (by decide) ?_
    refine pv_iconst (M := mX12_factOf) (v := (-1)) dX12_factOf_128 129 rfl (by decide) ?_
    have z26 : ((-1) : Int32).toInt = (-1) := by decide
    exact pv_iret (M := mX12_factOf) dX12_factOf_129 rfl rfl ⟨_, rfl, rfl, by decide, by decide, (by unfold nix; omega)⟩
  by_cases c27 : x0.toInt = 111
  · refine iv_tabIn (M := mX12_factOf) (X := 111) (off := 111) (tgt := 112) dX12_factOf_1 c27 (by decide) (by decide) (by decide) (by decide) ?_
    refine pv_iconst (M := mX12_factOf) (v := 4) dX12_factOf_112 113 rfl (by decide) ?_
    have z28 : (4 : Int32).toInt = 4 := by decide
    exact pv_iret (M := mX12_factOf) dX12_factOf_113 rfl rfl ⟨_, rfl, rfl, by decide, by decide, (by unfold nix; omega)⟩
  by_cases c29 : x0.toInt = 112
  · refine iv_tabIn (M := mX12_factOf) (X := 112) (off := 127) (tgt := 128) dX12_factOf_1 c29 (by decide) (by decide) (by decide) (by decide) ?_
    refine pv_iconst (M := mX12_factOf) (v := (-1)) dX12_factOf_128 129 rfl (by decide) ?_
    have z30 : ((-1) : Int32).toInt = (-1) := by decide
    exact pv_iret (M := mX12_factOf) dX12_factOf_129 rfl rfl ⟨_, rfl, rfl, by decide, by decide, (by unfold nix; omega)⟩
  by_cases c31 : x0.toInt = 113
  · refine iv_tabIn (M := mX12_factOf) (X := 113) (off := 127) (tgt := 128) dX12_factOf_1 c31 (by decide) (by decide) (by decide) (by decide) ?_
    refine pv_iconst (M := mX12_factOf) (v := (-1)) dX12_factOf_128 129 rfl (by decide) ?_
    have z32 : ((-1) : Int32).toInt = (-1) := by decide
    exact pv_iret (M := mX12_factOf) dX12_factOf_129 rfl rfl ⟨_, rfl, rfl, by decide, by decide, (by unfold nix; omega)⟩
  by_cases c33 : x0.toInt = 114
  · refine iv_tabIn (M := mX12_factOf) (X := 114) (off := 127) (tgt := 128) dX12_factOf_1 c33 (by decide) (by decide) (by decide) (by decide) ?_
    refine pv_iconst (M := mX12_factOf) (v := (-1)) dX12_factOf_128 129 rfl (by decide) ?_
    have z34 : ((-1) : Int32).toInt = (-1) := by decide
    exact pv_iret (M := mX12_factOf) dX12_factOf_129 rfl rfl ⟨_, rfl, rfl, by decide, by decide, (by unfold nix; omega)⟩
  by_cases c35 : x0.toInt = 115
  · refine iv_tabIn (M := mX12_factOf) (X := 115) (off := 127) (tgt := 128) dX12_factOf_1 c35 (by decide) (by decide) (by decide) (by decide) ?_
    refine pv_iconst (M := mX12_factOf) (v := (-1)) dX12_factOf_128 129 rfl (by decide) ?_
    have z36 : ((-1) : Int32).toInt = (-1) := by decide
    exact pv_iret (M := mX12_factOf) dX12_factOf_129 rfl rfl ⟨_, rfl, rfl, by decide, by decide, (by unfold nix; omega)⟩
  by_cases c37 : x0.toInt = 116
  · refine iv_tabIn (M := mX12_factOf) (X := 116) (off := 127) (tgt := 128) dX12_factOf_1 c37 (by decide) (by decide) (by decide) (by decide) ?_
    refine pv_iconst (M := mX12_factOf) (v := (-1)) dX12_factOf_128 129 rfl (by decide) ?_
    have z38 : ((-1) : Int32).toInt = (-1) := by decide
    exact pv_iret (M := mX12_factOf) dX12_factOf_129 rfl rfl ⟨_, rfl, rfl, by decide, by decide, (by unfold nix; omega)⟩
  by_cases c39 : x0.toInt = 117
  · refine iv_tabIn (M := mX12_factOf) (X := 117) (off := 127) (tgt := 128) dX12_factOf_1 c39 (by decide) (by decide) (by decide) (by decide) ?_
    refine pv_iconst (M := mX12_factOf) (v := (-1)) dX12_factOf_128 129 rfl (by decide) ?_
    have z40 : ((-1) : Int32).toInt = (-1) := by decide
    exact pv_iret (M := mX12_factOf) dX12_factOf_129 rfl rfl ⟨_, rfl, rfl, by decide, by decide, (by unfold nix; omega)⟩
  by_cases c41 : x0.toInt = 118
  · refine iv_tabIn (M := mX12_factOf) (X := 118) (off := 127) (tgt := 128) dX12_factOf_1 c41 (by decide) (by decide) (by decide) (by decide) ?_
    refine pv_iconst (M := mX12_factOf) (v := (-1)) dX12_factOf_128 129 rfl (by decide) ?_
    have z42 : ((-1) : Int32).toInt = (-1) := by decide
    exact pv_iret (M := mX12_factOf) dX12_factOf_129 rfl rfl ⟨_, rfl, rfl, by decide, by decide, (by unfold nix; omega)⟩
  by_cases c43 : x0.toInt = 119
  · refine iv_tabIn (M := mX12_factOf) (X := 119) (off := 107) (tgt := 108) dX12_factOf_1 c43 (by decide) (by decide) (by decide) (by decide) ?_
    refine pv_iconst (M := mX12_factOf) (v := 2) dX12_factOf_108 109 rfl (by decide) ?_
    have z44 : (2 : Int32).toInt = 2 := by decide
    exact pv_iret (M := mX12_factOf) dX12_factOf_109 rfl rfl ⟨_, rfl, rfl, by decide, by decide, (by unfold nix; omega)⟩
  refine pv_tableOut (M := mX12_factOf) (tgt := 128) dX12_factOf_1 (by omega) (by decide) ?_
  refine pv_iconst (M := mX12_factOf) (v := (-1)) dX12_factOf_128 129 rfl (by decide) ?_
  have z45 : ((-1) : Int32).toInt = (-1) := by decide
  exact pv_iret (M := mX12_factOf) dX12_factOf_129 rfl rfl ⟨_, rfl, rfl, by decide, by decide, (by unfold nix; omega)⟩

set_option maxHeartbeats 2000000 in
set_option maxRecDepth 20000 in
theorem s_X12_sumSign_vx (g : pv_G) {T : List mv_T} {m : Nat → Nat → Int32} {n : Nat → Nat → Int64} {r : Nat → Value} (hT : TX T) (I : IV BB m) (x0 : Int32) : PM g mX12_sumSign yX12_sumSign (sqP (mk T m n r) (-1) 6 (fun v => (v.toInt = -1 ∨ (2 ≤ v.toInt ∧ 0 ≤ x0.toInt)) ∧ ((v.toInt = -1 ∧ isS x0.toInt = false) ∨ (2 ≤ v.toInt ∧ isS x0.toInt = true)))) 1 0 0 [.int x0] (mk T m n r) := by
  have Kp : fr (wl []) m m := fr.rf
  refine PM.of 0 (lo := [.int x0]) rfl (by decide) rfl rfl (Nat.le_of_ble_eq_true rfl) ?_
  refine pv_iload_n (M := mX12_sumSign) 0 dX12_sumSign_0 1 rfl rfl rfl ?_
  refine pv_bipush (M := mX12_sumSign) (v := 43) dX12_sumSign_1 3 rfl (by decide) ?_
  refine pv_icmp_ne (M := mX12_sumSign) (tgt := 10) dX12_sumSign_3 6 rfl (by decide) (fun c1 => ?_) (fun c1 => ?_)
  · have c1 := iv_ne (X := x0.toInt) (Y := 43) c1 rfl (by decide)
    refine pv_iload_n (M := mX12_sumSign) 0 dX12_sumSign_10 11 rfl rfl rfl ?_
    refine pv_bipush (M := mX12_sumSign) (v := 45) dX12_sumSign_11 13 rfl (by decide) ?_
    refine pv_icmp_ne (M := mX12_sumSign) (tgt := 20) dX12_sumSign_13 16 rfl (by decide) (fun c2 => ?_) (fun c2 => ?_)
    · have c2 := iv_ne (X := x0.toInt) (Y := 45) c2 rfl (by decide)
      refine pv_iload_n (M := mX12_sumSign) 0 dX12_sumSign_20 21 rfl rfl rfl ?_
      refine pv_bipush (M := mX12_sumSign) (v := 42) dX12_sumSign_21 23 rfl (by decide) ?_
      refine pv_icmp_ne (M := mX12_sumSign) (tgt := 30) dX12_sumSign_23 26 rfl (by decide) (fun c3 => ?_) (fun c3 => ?_)
      · have c3 := iv_ne (X := x0.toInt) (Y := 42) c3 rfl (by decide)
        refine pv_iload_n (M := mX12_sumSign) 0 dX12_sumSign_30 31 rfl rfl rfl ?_
        refine pv_bipush (M := mX12_sumSign) (v := 47) dX12_sumSign_31 33 rfl (by decide) ?_
        refine pv_icmp_ne (M := mX12_sumSign) (tgt := 40) dX12_sumSign_33 36 rfl (by decide) (fun c4 => ?_) (fun c4 => ?_)
        · have c4 := iv_ne (X := x0.toInt) (Y := 47) c4 rfl (by decide)
          refine pv_iload_n (M := mX12_sumSign) 0 dX12_sumSign_40 41 rfl rfl rfl ?_
          refine pv_bipush (M := mX12_sumSign) (v := 37) dX12_sumSign_41 43 rfl (by decide) ?_
          refine pv_icmp_ne (M := mX12_sumSign) (tgt := 51) dX12_sumSign_43 46 rfl (by decide) (fun c5 => ?_) (fun c5 => ?_)
          · have c5 := iv_ne (X := x0.toInt) (Y := 37) c5 rfl (by decide)
            refine pv_iconst (M := mX12_sumSign) (v := (-1)) dX12_sumSign_51 52 rfl (by decide) ?_
            have z6 : ((-1) : Int32).toInt = (-1) := by decide
            exact pv_iret (M := mX12_sumSign) dX12_sumSign_52 rfl rfl ⟨_, rfl, rfl, by decide, by decide, ⟨by omega, Or.inl ⟨by decide, isS_no (by omega) (by omega) (by omega) (by omega) (by omega)⟩⟩⟩
          · have c5 := iv_eq (X := x0.toInt) (Y := 37) c5 rfl (by decide)
            refine pv_bipush (M := mX12_sumSign) (v := 6) dX12_sumSign_46 48 rfl (by decide) ?_
            refine pv_goto (M := mX12_sumSign) (tgt := 52) dX12_sumSign_48 (by decide) ?_
            have z7 : (6 : Int32).toInt = 6 := by decide
            exact pv_iret (M := mX12_sumSign) dX12_sumSign_52 rfl rfl ⟨_, rfl, rfl, by decide, by decide, ⟨by omega, Or.inr ⟨by decide, isS_y (by omega)⟩⟩⟩
        · have c4 := iv_eq (X := x0.toInt) (Y := 47) c4 rfl (by decide)
          refine pv_iconst (M := mX12_sumSign) (v := 5) dX12_sumSign_36 37 rfl (by decide) ?_
          refine pv_goto (M := mX12_sumSign) (tgt := 52) dX12_sumSign_37 (by decide) ?_
          have z8 : (5 : Int32).toInt = 5 := by decide
          exact pv_iret (M := mX12_sumSign) dX12_sumSign_52 rfl rfl ⟨_, rfl, rfl, by decide, by decide, ⟨by omega, Or.inr ⟨by decide, isS_y (by omega)⟩⟩⟩
      · have c3 := iv_eq (X := x0.toInt) (Y := 42) c3 rfl (by decide)
        refine pv_iconst (M := mX12_sumSign) (v := 4) dX12_sumSign_26 27 rfl (by decide) ?_
        refine pv_goto (M := mX12_sumSign) (tgt := 52) dX12_sumSign_27 (by decide) ?_
        have z9 : (4 : Int32).toInt = 4 := by decide
        exact pv_iret (M := mX12_sumSign) dX12_sumSign_52 rfl rfl ⟨_, rfl, rfl, by decide, by decide, ⟨by omega, Or.inr ⟨by decide, isS_y (by omega)⟩⟩⟩
    · have c2 := iv_eq (X := x0.toInt) (Y := 45) c2 rfl (by decide)
      refine pv_iconst (M := mX12_sumSign) (v := 3) dX12_sumSign_16 17 rfl (by decide) ?_
      refine pv_goto (M := mX12_sumSign) (tgt := 52) dX12_sumSign_17 (by decide) ?_
      have z10 : (3 : Int32).toInt = 3 := by decide
      exact pv_iret (M := mX12_sumSign) dX12_sumSign_52 rfl rfl ⟨_, rfl, rfl, by decide, by decide, ⟨by omega, Or.inr ⟨by decide, isS_y (by omega)⟩⟩⟩
  · have c1 := iv_eq (X := x0.toInt) (Y := 43) c1 rfl (by decide)
    refine pv_iconst (M := mX12_sumSign) (v := 2) dX12_sumSign_6 7 rfl (by decide) ?_
    refine pv_goto (M := mX12_sumSign) (tgt := 52) dX12_sumSign_7 (by decide) ?_
    have z11 : (2 : Int32).toInt = 2 := by decide
    exact pv_iret (M := mX12_sumSign) dX12_sumSign_52 rfl rfl ⟨_, rfl, rfl, by decide, by decide, ⟨by omega, Or.inr ⟨by decide, isS_y (by omega)⟩⟩⟩

set_option maxHeartbeats 2000000 in
set_option maxRecDepth 20000 in
theorem s_X12_readsFactor_vx (g : pv_G) {T : List mv_T} {m : Nat → Nat → Int32} {n : Nat → Nat → Int64} {r : Nat → Value} (hT : TX T) (I : IV BB m) (cb : Int) (c : Int) (hp0 : HW cb c m) (hp1 : 0 ≤ SLK m) (hp2 : (m 123 12).toInt ≤ (m 123 13).toInt) (hp3 : (m 123 17).toInt ≤ (m 123 12).toInt) (hp4 : 0 ≤ (m 123 15).toInt) (hp5 : (m 123 15).toInt ≤ 6) : PM g mX12_readsFactor yX12_readsFactor (sqI T BB (wl [(123, 123, some 12), (123, 123, some 14), (123, 123, some 15), (123, 123, some 16), (123, 123, some 17), (123, 123, some 19), (130, 130, none), (131, 131, none)]) r m 0 1 (fun m' v => (v.toInt = 0 ∧ FPF (tR m) (m 123 15).toInt (m 123 12).toInt (m' 123 14).toInt) ∨ (v.toInt = 1 ∧ RLs cb (c + 1) m m' ∧ FPR (tR m) (m 123 15).toInt (m 123 12).toInt (m' 123 15).toInt (m' 123 12).toInt ∧ C14 m' - C14 m = (m' 123 15).toInt - (m 123 15).toInt))) 4 0 0 [.ref 123] (mk T m n r) := by
  have Kp : fr (wl [(123, 123, some 12), (123, 123, some 14), (123, 123, some 15), (123, 123, some 16), (123, 123, some 17), (123, 123, some 19), (130, 130, none), (131, 131, none)]) m m := fr.rf
  have z149 : 0 ≤ (m 123 12).toInt ∧ (m 123 12).toInt ≤ 160 := I 123 12
  have z150 : 0 ≤ (m 123 13).toInt ∧ (m 123 13).toInt ≤ 160 := I 123 13
  have z151 : 0 ≤ (m 123 16).toInt ∧ (m 123 16).toInt ≤ 180 := I 123 16
  have z152 : 0 ≤ (m 123 17).toInt ∧ (m 123 17).toInt ≤ 180 := I 123 17
  refine PM.of 1 (lo := [.ref 123, pv_U]) rfl (by decide) rfl rfl (Nat.le_of_ble_eq_true rfl) ?_
  have lp6 : ∀ (fuel5 : Nat)  (m1 : Nat → Nat → Int32) (n2 : Nat → Nat → Int64), (RLs cb c m m1) → (FPQ (tR m) (m 123 15).toInt (m 123 12).toInt (m1 123 15).toInt (m1 123 12).toInt) → (C14 m1 - C14 m = (m1 123 15).toInt - (m 123 15).toInt) → IV BB m1 → fr (wl [(123, 123, some 12), (123, 123, some 14), (123, 123, some 15), (123, 123, some 16), (123, 123, some 17), (123, 123, some 19), (130, 130, none), (131, 131, none)]) m m1 → ((160 - (m1 123 12).toInt) : Int).toNat < fuel5 → PV none g mX12_readsFactor (sqI T BB (wl [(123, 123, some 12), (123, 123, some 14), (123, 123, some 15), (123, 123, some 16), (123, 123, some 17), (123, 123, some 19), (130, 130, none), (131, 131, none)]) r m 0 1 (fun m' v => (v.toInt = 0 ∧ FPF (tR m) (m 123 15).toInt (m 123 12).toInt (m' 123 14).toInt) ∨ (v.toInt = 1 ∧ RLs cb (c + 1) m m' ∧ FPR (tR m) (m 123 15).toInt (m 123 12).toInt (m' 123 15).toInt (m' 123 12).toInt ∧ C14 m' - C14 m = (m' 123 15).toInt - (m 123 15).toInt))) 4 0 0 0 [.ref 123, pv_U] [] (mk T m1 n2 r) := by
    intro fuel5
    induction fuel5 with
    | zero => intro  m1 n2 b8 b9 b10 I3 K4 z11; omega
    | succ fuel5 ih7 =>
      intro  m1 n2 b8 b9 b10 I3 K4 z11
      have z12 : 0 ≤ (m1 123 12).toInt ∧ (m1 123 12).toInt ≤ 160 := I3 123 12
      have z13 : 0 ≤ (m1 123 13).toInt ∧ (m1 123 13).toInt ≤ 160 := I3 123 13
      have z14 : 0 ≤ (m1 123 16).toInt ∧ (m1 123 16).toInt ≤ 180 := I3 123 16
      have z15 : 0 ≤ (m1 123 17).toInt ∧ (m1 123 17).toInt ≤ 180 := I3 123 17
      have kg := (show RLs cb c m m1 by assumption)
      have kg2 := kg.2.2.2.2.1
      have kg3 := kg.2.2.2.2.2.2.2.2.1
      have kg4 := kg.2.2.2.2.2.2.2.2.2
      have kg5 : (m1 123 16).toInt ≤ (m1 123 12).toInt := SLK_cm (m := m1) (by have := kg.2.1; omega)
      have kg6 := kg.2.2.2.1
      have kg7 := kg.2.1
      have kg8 := kg.2.2.2.2.2.2.2.1
      have kgf := (show FPQ (tR m) (m 123 15).toInt (m 123 12).toInt (m1 123 15).toInt (m1 123 12).toInt by assumption)
      have kt0 : tR m1 = tR m := tR_eq (K4 123 13 rfl) (fun j => K4 129 j rfl)
      have kh0 : hereV m1 = tR m (m1 123 12).toInt := congrFun kt0 _
      have kgf1 := kgf.1
      have kgf2 := kgf.2.1
      refine pv_aload_n (M := mX12_readsFactor) 0 dX12_readsFactor_0 1 rfl rfl rfl ?_
      refine pv_callv (M := mX12_readsFactor) (as := []) (st := []) (kc2 := 0) (ks2 := 0) dX12_readsFactor_1 wd1417 YX12_here ⟨wd1419, wd60⟩ (mk_get (tl123 hT)) rfl rfl (s_X12_here g hT I3) rfl rfl (Nat.le_of_ble_eq_true rfl) (by decide) rfl rfl 4 rfl (fun rv h1 q29 => ?_)
      obtain ⟨v30, rfl, rfl, pv30, qv30, rv30⟩ := q29
      replace rv30 : v30.toInt = hereV m1 ∧ (v30.toInt = -1 ∨ (m1 123 12).toInt < (m1 123 13).toInt) := rv30
      show PV _ _ _ _ _ _ _ 4 [.ref 123, pv_U] [.int v30] _
      have k4 : v30.toInt = tR m (m1 123 12).toInt := rv30.1.trans (congrFun kt0 _)
      refine pv_bipush (M := mX12_readsFactor) (v := 91) dX12_readsFactor_4 6 rfl (by decide) ?_
      refine pv_icmp_ne (M := mX12_readsFactor) (tgt := 20) dX12_readsFactor_6 9 rfl (by decide) (fun c32 => ?_) (fun c32 => ?_)
      · have c32 := iv_ne (X := v30.toInt) (Y := 91) c32 rfl (by decide)
        have kn : tR m (m1 123 12).toInt ≠ 91 := by omega
        refine pv_aload_n (M := mX12_readsFactor) 0 dX12_readsFactor_20 21 rfl rfl rfl ?_
        refine pv_callv (M := mX12_readsFactor) (as := []) (st := []) (kc2 := 0) (ks2 := 0) dX12_readsFactor_21 wd1438 YX12_isDigit ⟨wd1440, wd65⟩ (mk_get (tl123 hT)) rfl rfl (s_X12_isDigit g hT I3) rfl rfl (Nat.le_of_ble_eq_true rfl) (by decide) rfl rfl 24 rfl (fun rv h1 q34 => ?_)
        obtain ⟨v35, rfl, rfl, pv35, qv35, rv35⟩ := q34
        replace rv35 : (v35.toInt = 0 ∧ ¬ (48 ≤ hereV m1 ∧ hereV m1 ≤ 57)) ∨ (v35.toInt = 1 ∧ 48 ≤ hereV m1 ∧ hereV m1 ≤ 57 ∧ (m1 123 12).toInt < (m1 123 13).toInt) := rv35
        show PV _ _ _ _ _ _ _ 24 [.ref 123, pv_U] [.int v35] _
        refine pv_if_eq (M := mX12_readsFactor) (tgt := 47) dX12_readsFactor_24 27 rfl (by decide) (fun c36 => ?_) (fun c36 => ?_)
        · have c36 := iv_eq (X := v35.toInt) (Y := 0) c36 rfl (by decide)
          have kdn : dig (tR m (m1 123 12).toInt) = false := by rw [← kh0]; exact dig_no (by omega)
          refine pv_aload_n (M := mX12_readsFactor) 0 dX12_readsFactor_47 48 rfl rfl rfl ?_
          refine pv_callv (M := mX12_readsFactor) (as := []) (st := []) (kc2 := 0) (ks2 := 0) dX12_readsFactor_48 wd1417 YX12_here ⟨wd1419, wd60⟩ (mk_get (tl123 hT)) rfl rfl (s_X12_here g hT I3) rfl rfl (Nat.le_of_ble_eq_true rfl) (by decide) rfl rfl 51 rfl (fun rv h1 q38 => ?_)
          obtain ⟨v39, rfl, rfl, pv39, qv39, rv39⟩ := q38
          replace rv39 : v39.toInt = hereV m1 ∧ (v39.toInt = -1 ∨ (m1 123 12).toInt < (m1 123 13).toInt) := rv39
          show PV _ _ _ _ _ _ _ 51 [.ref 123, pv_U] [.int v39] _
          have k51 : v39.toInt = tR m (m1 123 12).toInt := rv39.1.trans (congrFun kt0 _)
          have k51b := rv39.2
          refine pv_calls (M := mX12_readsFactor) (as := [.int v39]) (st := []) (kc2 := 0) (ks2 := 0) dX12_readsFactor_51 wd1450 YX12_factOf wd1451 (s_X12_factOf_vx g hT I3 v39) rfl rfl (Nat.le_of_ble_eq_true rfl) (by decide) rfl rfl 54 rfl (fun rv h1 q42 => ?_)
          obtain ⟨v43, rfl, rfl, pv43, qv43, rv43⟩ := q42
          replace rv43 : v43.toInt = nix v39.toInt := rv43
          show PV _ _ _ _ _ _ _ 54 [.ref 123, pv_U] [.int v43] _
          have k54 : v43.toInt = nix (tR m (m1 123 12).toInt) := by rw [rv43, k51]
          have k54b : nix (tR m (m1 123 12).toInt) ≠ -1 → (m1 123 12).toInt < (m1 123 13).toInt := fun q => k51b.resolve_left (fun w => q (by rw [← k51, w]; decide))
          refine pv_istore_n (M := mX12_readsFactor) 1 (lo2 := [.ref 123, .int v43]) dX12_readsFactor_54 55 rfl rfl (by decide) rfl rfl ?_
          refine pv_iload_n (M := mX12_readsFactor) 1 dX12_readsFactor_55 56 rfl rfl rfl ?_
          refine pv_iconst (M := mX12_readsFactor) (v := (-1)) dX12_readsFactor_56 57 rfl (by decide) ?_
          refine pv_icmp_ne (M := mX12_readsFactor) (tgt := 70) dX12_readsFactor_57 60 rfl (by decide) (fun c46 => ?_) (fun c46 => ?_)
          · have c46 := iv_ne (X := v43.toInt) (Y := (-1)) c46 rfl (by decide)
            have k70 := k54b (by omega)
            refine pv_aload_n (M := mX12_readsFactor) 0 dX12_readsFactor_70 71 rfl rfl rfl ?_
            refine pv_iconst (M := mX12_readsFactor) (v := 1) dX12_readsFactor_71 72 rfl (by decide) ?_
            refine pv_iload_n (M := mX12_readsFactor) 1 dX12_readsFactor_72 73 rfl rfl rfl ?_
            have z48 : (1 : Int32).toInt = 1 := by decide
            refine pv_callv (M := mX12_readsFactor) (as := [.int 1, .int v43]) (st := []) (kc2 := 0) (ks2 := 0) dX12_readsFactor_73 wd1446 YX12_notes ⟨wd1448, wd67⟩ (mk_get (tl123 hT)) rfl rfl (s_X12_notes g hT I3 1 (by decide) (by decide) v43 (by omega) (by omega) (by first | omega | assumption | exact (iv_rng _).2 | exact (iv_rng _).1 | decide)) rfl rfl (Nat.le_of_ble_eq_true rfl) (by decide) rfl rfl 76 rfl (fun rv h1 q49 => ?_)
            obtain ⟨m50, n51, rfl, rfl, I52, K53, rm50⟩ := q49
            replace rm50 : NOTE (1 : Int) v43.toInt m1 m50 := by have q_ := rm50; (try rw [z48] at q_); exact q_
            have K53c := K53
            have w54 : (m50 123 12).toInt = (m1 123 12).toInt := congrArg Int32.toInt (K53 123 12 rfl)
            have w55 : (m50 123 13).toInt = (m1 123 13).toInt := congrArg Int32.toInt (K53 123 13 rfl)
            have w56 : (m50 123 17).toInt = (m1 123 17).toInt := congrArg Int32.toInt (K53 123 17 rfl)
            have w57 : (m50 123 14).toInt = (m1 123 14).toInt := congrArg Int32.toInt (K53 123 14 rfl)
            have w58 : (m50 123 15).toInt = (m1 123 15).toInt := congrArg Int32.toInt (K53 123 15 rfl)
            have K53 := K4.trans (K53.sub (wl_sub (by decide)))
            show PV _ _ _ _ _ _ _ 76 [.ref 123, .int v43] [] _
            have kN := rm50
            have kC14e : C14 m50 = C14 m1 := C14_e (fun j => K53c 131 j rfl) (K53c 123 17 rfl)
            have kA := FPQ_at kgf kn (AT_nam kdn (nix_y (by omega)))
            refine pv_aload_n (M := mX12_readsFactor) 0 dX12_readsFactor_76 77 rfl rfl rfl ?_
            refine pv_aload_n (M := mX12_readsFactor) 0 dX12_readsFactor_77 78 rfl rfl rfl ?_
            refine iv_get (M := mX12_readsFactor) (l1 := 0) (l2 := 160) dX12_readsFactor_78 FX12 12 wd1185 (by decide) (tl123 hT) rfl I52 rfl 81 rfl (fun v62 ev62 pv62 qv62 => ?_)
            have wv62 : v62.toInt = (m50 123 12).toInt := congrArg Int32.toInt ev62
            refine pv_iconst (M := mX12_readsFactor) (v := 1) dX12_readsFactor_81 82 rfl (by decide) ?_
            refine iv_iadd (M := mX12_readsFactor) (X := v62.toInt) (Y := 1) dX12_readsFactor_82 83 rfl rfl (by decide) (by omega) (by omega) (fun v63 ev63 => ?_)
            refine iv_put (M := mX12_readsFactor) (l1 := 0) (l2 := 160) dX12_readsFactor_83 FX12 12 wd1185 (by decide) rfl (tl123 hT) rfl rfl rfl I52 rfl (by omega) (by omega) 86 rfl (fun m64 e67 I65 => ?_)
            have K66 := K53.set e67 rfl
            have w68 : (m64 123 12).toInt = v63.toInt := by rw [e67, up2_eq]
            have w69 : (m64 123 13).toInt = (m50 123 13).toInt := by rw [e67, up2_ne (by omega)]
            have w70 : (m64 123 16).toInt = (m50 123 16).toInt := by rw [e67, up2_ne (by omega)]
            have w71 : (m64 123 17).toInt = (m50 123 17).toInt := by rw [e67, up2_ne (by omega)]
            have w72 : (m64 123 14).toInt = (m50 123 14).toInt := by rw [e67, up2_ne (by omega)]
            have w73 : (m64 123 15).toInt = (m50 123 15).toInt := by rw [e67, up2_ne (by omega)]
            have kC14f : C14 m64 = C14 m1 := (C14_e (fun j => by rw [e67, up2_ne (by omega)]) (by rw [e67, up2_ne (by omega)])).trans kC14e
            have kA2 : FPR (tR m) (m 123 15).toInt (m 123 12).toInt (m64 123 15).toInt (m64 123 12).toInt := by have q := kA; rw [show (m1 123 15).toInt = (m64 123 15).toInt by omega, show (m1 123 12).toInt + 1 = (m64 123 12).toInt by omega] at q; exact q
            refine pv_iconst (M := mX12_readsFactor) (v := 1) dX12_readsFactor_86 87 rfl (by decide) ?_
            have z76 : (1 : Int32).toInt = 1 := by decide
            exact pv_iret (M := mX12_readsFactor) dX12_readsFactor_87 rfl rfl ⟨_, _, _, rfl, rfl, I65, K66, by decide, by decide, (Or.inr ⟨by decide, RLs.nam kg kN (by omega) (by omega) e67 (by omega) (by omega), kA2, by omega⟩)⟩
          · have c46 := iv_eq (X := v43.toInt) (Y := (-1)) c46 rfl (by decide)
            refine pv_aload_n (M := mX12_readsFactor) 0 dX12_readsFactor_60 61 rfl rfl rfl ?_
            refine pv_iconst (M := mX12_readsFactor) (v := 1) dX12_readsFactor_61 62 rfl (by decide) ?_
            refine pv_aload_n (M := mX12_readsFactor) 0 dX12_readsFactor_62 63 rfl rfl rfl ?_
            refine iv_get (M := mX12_readsFactor) (l1 := 0) (l2 := 160) dX12_readsFactor_63 FX12 12 wd1185 (by decide) (tl123 hT) rfl I3 rfl 66 rfl (fun v77 ev77 pv77 qv77 => ?_)
            have wv77 : v77.toInt = (m1 123 12).toInt := congrArg Int32.toInt ev77
            have z78 : (1 : Int32).toInt = 1 := by decide
            refine pv_callv (M := mX12_readsFactor) (as := [.int 1, .int v77]) (st := []) (kc2 := 0) (ks2 := 0) dX12_readsFactor_66 wd1421 YX12_wrongAt ⟨wd1423, wd61⟩ (mk_get (tl123 hT)) rfl rfl (s_X12_wrongAt_vx g hT I3 1 (by decide) (by decide) v77 (by omega) (by omega)) rfl rfl (Nat.le_of_ble_eq_true rfl) (by decide) rfl rfl 69 rfl (fun rv h1 q79 => ?_)
            obtain ⟨m80, n81, v84, rfl, rfl, I82, K83, pv84, qv84, rv84⟩ := q79
            replace rv84 : (m80 123 14).toInt = -1000 * (1 : Int) - v77.toInt := by have q_ := rv84; (try rw [z78] at q_); exact q_
            have K83c := K83
            have w85 : (m80 123 12).toInt = (m1 123 12).toInt := congrArg Int32.toInt (K83 123 12 rfl)
            have w86 : (m80 123 13).toInt = (m1 123 13).toInt := congrArg Int32.toInt (K83 123 13 rfl)
            have w87 : (m80 123 16).toInt = (m1 123 16).toInt := congrArg Int32.toInt (K83 123 16 rfl)
            have w88 : (m80 123 17).toInt = (m1 123 17).toInt := congrArg Int32.toInt (K83 123 17 rfl)
            have w89 : (m80 123 15).toInt = (m1 123 15).toInt := congrArg Int32.toInt (K83 123 15 rfl)
            have K83 := K4.trans (K83.sub (wl_sub (by decide)))
            show PV _ _ _ _ _ _ _ 69 [.ref 123, .int v43] [.int v84] _
            exact pv_iret (M := mX12_readsFactor) dX12_readsFactor_69 rfl (iv_nz (by omega) (by omega)) ⟨_, _, _, rfl, rfl, I82, K83, by omega, by omega, (Or.inl ⟨by omega, FPQ_fl kgf kn (FLT_of (a := 1) (p := (m1 123 12).toInt) (AT_no kdn (nix_no (by omega))) (by decide) (by omega))⟩)⟩
        · have c36 := iv_ne (X := v35.toInt) (Y := 0) c36 rfl (by decide)
          have kd : dig (tR m (m1 123 12).toInt) = true := by rw [← kh0]; exact dig_y (by omega) (by omega)
          refine pv_aload_n (M := mX12_readsFactor) 0 dX12_readsFactor_27 28 rfl rfl rfl ?_
          refine pv_callv (M := mX12_readsFactor) (as := []) (st := []) (kc2 := 0) (ks2 := 0) dX12_readsFactor_28 wd1442 YX12_readsNumber ⟨wd1444, wd66⟩ (mk_get (tl123 hT)) rfl rfl (s_X12_readsNumber_vx g hT I3 (by first | omega | assumption | exact (iv_rng _).2 | exact (iv_rng _).1 | decide)) rfl rfl (Nat.le_of_ble_eq_true rfl) (by decide) rfl rfl 31 rfl (fun rv h1 q91 => ?_)
          obtain ⟨m92, n93, v96, rfl, rfl, I94, K95, pv96, qv96, rv96⟩ := q91
          replace rv96 : ((v96.toInt = 0 ∨ (48 ≤ hereV m1 ∧ hereV m1 ≤ 57 → (m1 123 12).toInt + 1 ≤ (m92 123 12).toInt)) ∧ (m1 123 12).toInt ≤ (m92 123 12).toInt ∧ (m92 123 12).toInt ≤ (m92 123 13).toInt ∧ (m92 123 13).toInt = (m1 123 13).toInt) ∧ RSX (nd (tR m1) 5 (m1 123 12).toInt) v96.toInt (m92 123 12).toInt (m92 123 14).toInt ∧ (m92 123 15).toInt = (m1 123 15).toInt := rv96
          have K95c := K95
          have w97 : (m92 123 13).toInt = (m1 123 13).toInt := congrArg Int32.toInt (K95 123 13 rfl)
          have w98 : (m92 123 16).toInt = (m1 123 16).toInt := congrArg Int32.toInt (K95 123 16 rfl)
          have w99 : (m92 123 17).toInt = (m1 123 17).toInt := congrArg Int32.toInt (K95 123 17 rfl)
          have w100 : (m92 123 15).toInt = (m1 123 15).toInt := congrArg Int32.toInt (K95 123 15 rfl)
          have K95 := K4.trans (K95.sub (wl_sub (by decide)))
          show PV _ _ _ _ _ _ _ 31 [.ref 123, pv_U] [.int v96] _
          have kR := rv96.1
          have kRx := rv96.2.1
          have kRo := rv96.2.2
          rw [kt0] at kRx
          refine pv_if_ne (M := mX12_readsFactor) (tgt := 36) dX12_readsFactor_31 34 rfl (by decide) (fun c105 => ?_) (fun c105 => ?_)
          · have c105 := iv_ne (X := v96.toInt) (Y := 0) c105 rfl (by decide)
            have kF := K95c
            have kA := FPQ_at kgf kn ((AT_num kd).trans (RSX_ok kRx (by omega)))
            refine pv_aload_n (M := mX12_readsFactor) 0 dX12_readsFactor_36 37 rfl rfl rfl ?_
            refine pv_iconst (M := mX12_readsFactor) (v := 0) dX12_readsFactor_37 38 rfl (by decide) ?_
            refine pv_aload_n (M := mX12_readsFactor) 0 dX12_readsFactor_38 39 rfl rfl rfl ?_
            refine iv_get (M := mX12_readsFactor) (l1 := 0) (l2 := 99999) dX12_readsFactor_39 FX12 19 wd1192 (by decide) (tl123 hT) rfl I94 rfl 42 rfl (fun v108 ev108 pv108 qv108 => ?_)
            have z109 : (0 : Int32).toInt = 0 := by decide
            refine pv_callv (M := mX12_readsFactor) (as := [.int 0, .int v108]) (st := []) (kc2 := 0) (ks2 := 0) dX12_readsFactor_42 wd1446 YX12_notes ⟨wd1448, wd67⟩ (mk_get (tl123 hT)) rfl rfl (s_X12_notes g hT I94 0 (by decide) (by decide) v108 (by omega) (by omega) (by first | omega | assumption | exact (iv_rng _).2 | exact (iv_rng _).1 | decide)) rfl rfl (Nat.le_of_ble_eq_true rfl) (by decide) rfl rfl 45 rfl (fun rv h1 q110 => ?_)
            obtain ⟨m111, n112, rfl, rfl, I113, K114, rm111⟩ := q110
            replace rm111 : NOTE (0 : Int) v108.toInt m92 m111 := by have q_ := rm111; (try rw [z109] at q_); exact q_
            have K114c := K114
            have w115 : (m111 123 12).toInt = (m92 123 12).toInt := congrArg Int32.toInt (K114 123 12 rfl)
            have w116 : (m111 123 13).toInt = (m92 123 13).toInt := congrArg Int32.toInt (K114 123 13 rfl)
            have w117 : (m111 123 17).toInt = (m92 123 17).toInt := congrArg Int32.toInt (K114 123 17 rfl)
            have w118 : (m111 123 14).toInt = (m92 123 14).toInt := congrArg Int32.toInt (K114 123 14 rfl)
            have w119 : (m111 123 15).toInt = (m92 123 15).toInt := congrArg Int32.toInt (K114 123 15 rfl)
            have K114 := K95.trans (K114.sub (wl_sub (by decide)))
            show PV _ _ _ _ _ _ _ 45 [.ref 123, pv_U] [] _
            have kN := rm111
            have kC14e : C14 m111 = C14 m1 := C14_e (fun j => (K114c 131 j rfl).trans (kF 131 j rfl)) ((K114c 123 17 rfl).trans (kF 123 17 rfl))
            have kA2 : FPR (tR m) (m 123 15).toInt (m 123 12).toInt (m111 123 15).toInt (m111 123 12).toInt := by have q := kA; rw [show (m1 123 15).toInt = (m111 123 15).toInt by omega, show (m92 123 12).toInt = (m111 123 12).toInt by omega] at q; exact q
            refine pv_iconst (M := mX12_readsFactor) (v := 1) dX12_readsFactor_45 46 rfl (by decide) ?_
            have z123 : (1 : Int32).toInt = 1 := by decide
            exact pv_iret (M := mX12_readsFactor) dX12_readsFactor_46 rfl rfl ⟨_, _, _, rfl, rfl, I113, K114, by decide, by decide, (Or.inr ⟨by decide, RLs.num kg (kF 123 16 rfl) (kF 123 17 rfl) (fun j => kF 130 j rfl) (fun j => kF 131 j rfl) (by omega) (by omega) (by omega) kN (by omega) (by omega), kA2, by omega⟩)⟩
          · have c105 := iv_eq (X := v96.toInt) (Y := 0) c105 rfl (by decide)
            refine pv_iconst (M := mX12_readsFactor) (v := 0) dX12_readsFactor_34 35 rfl (by decide) ?_
            have z124 : (0 : Int32).toInt = 0 := by decide
            exact pv_iret (M := mX12_readsFactor) dX12_readsFactor_35 rfl rfl ⟨_, _, _, rfl, rfl, I94, K95, by decide, by decide, (Or.inl ⟨by decide, FPQ_fl kgf kn (by rw [AT_num kd]; exact RSX_fl kRx (by omega))⟩)⟩
      · have c32 := iv_eq (X := v30.toInt) (Y := 91) c32 rfl (by decide)
        refine pv_aload_n (M := mX12_readsFactor) 0 dX12_readsFactor_9 10 rfl rfl rfl ?_
        refine pv_bipush (M := mX12_readsFactor) (v := 14) dX12_readsFactor_10 12 rfl (by decide) ?_
        have z125 : (14 : Int32).toInt = 14 := by decide
        refine pv_callv (M := mX12_readsFactor) (as := [.int 14]) (st := []) (kc2 := 0) (ks2 := 0) dX12_readsFactor_12 wd1433 YX12_opens ⟨wd1435, wd64⟩ (mk_get (tl123 hT)) rfl rfl (s_X12_opens_vx g hT I3 14 (by decide) (by decide) (by first | omega | assumption | exact (iv_rng _).2 | exact (iv_rng _).1 | decide) (by first | omega | assumption | exact (iv_rng _).2 | exact (iv_rng _).1 | decide) (by first | omega | assumption | exact (iv_rng _).2 | exact (iv_rng _).1 | decide) (by first | omega | assumption | exact (iv_rng _).2 | exact (iv_rng _).1 | decide)) rfl rfl (Nat.le_of_ble_eq_true rfl) (by decide) rfl rfl 15 rfl (fun rv h1 q126 => ?_)
        obtain ⟨m127, n128, v131, rfl, rfl, I129, K130, pv131, qv131, rv131⟩ := q126
        replace rv131 : (v131.toInt = 0 ∧ (m127 123 12).toInt = (m1 123 12).toInt ∧ (m1 123 15).toInt = 6 ∧ (m127 123 14).toInt = -5000 - (m1 123 12).toInt) ∨ (v131.toInt = 1 ∧ (∃ o u w z : Int32, m127 = up2 (up2 (up2 (up2 m1 123 15 o) 131 (m1 123 17).toInt.toNat u) 123 17 w) 123 12 z ∧ u.toInt = 1048576 * (14 : Int) ∧ w.toInt = (m1 123 17).toInt + 1 ∧ z.toInt = (m1 123 12).toInt + 1) ∧ (m127 123 15).toInt = (m1 123 15).toInt + 1 ∧ (m1 123 15).toInt ≠ 6) := by have q_ := rv131; (try rw [z125] at q_); exact q_
        have K130c := K130
        have w132 : (m127 123 13).toInt = (m1 123 13).toInt := congrArg Int32.toInt (K130 123 13 rfl)
        have w133 : (m127 123 16).toInt = (m1 123 16).toInt := congrArg Int32.toInt (K130 123 16 rfl)
        have K130 := K4.trans (K130.sub (wl_sub (by decide)))
        show PV _ _ _ _ _ _ _ 15 [.ref 123, pv_U] [.int v131] _
        have kO := rv131
        clear rv131
        refine pv_if_ne (M := mX12_readsFactor) (tgt := 0) dX12_readsFactor_15 18 rfl (by decide) (fun c136 => ?_) (fun c136 => ?_)
        · have c136 := iv_ne (X := v131.toInt) (Y := 0) c136 rfl (by decide)
          have kO2 := (kO.resolve_left (fun q => by have q1 := q.1; omega)).2
          have krl := RLs.opn kg (by omega) (by omega) kO2.1
          have kOP := kO2.2.1
          have kOn := kO2.2.2
          obtain ⟨o1, o2, o3, o4, o5, o6, o7, o8⟩ := kO2.1
          have krz : (m127 123 12).toInt = (m1 123 12).toInt + 1 := by rw [o5, up2_f]; exact o8
          clear kO kO2
          have kw17 : (m127 123 17).toInt = (m1 123 17).toInt + 1 := by rw [o5, up2_ne (by omega), up2_f]; exact o7
          have kg14 : g14 o2 = 1 := by unfold g14 opv; rw [if_pos (by omega)]
          have kC14 := C14_push (m := m1) (m' := m127) (v := o2) (by omega) (fun j hj => by rw [o5, up2_ne (by omega), up2_ne (by omega), up2_ne (by omega), up2_ne (by omega)]) (by rw [o5, up2_ne (by omega), up2_ne (by omega), up2_f]) kw17
          have kfb : FPQ (tR m) (m 123 15).toInt (m 123 12).toInt (m127 123 15).toInt (m127 123 12).toInt := FPQ_opn kgf (by omega) kOn kOP krz
          exact ih7  m127 n128 krl kfb (by first | omega | assumption | (show C14 m127 - C14 m = (m127 123 15).toInt - (m 123 15).toInt; omega) | decide) I129 K130 (by omega)
        · have c136 := iv_eq (X := v131.toInt) (Y := 0) c136 rfl (by decide)
          refine pv_iconst (M := mX12_readsFactor) (v := 0) dX12_readsFactor_18 19 rfl (by decide) ?_
          have z148 : (0 : Int32).toInt = 0 := by decide
          exact pv_iret (M := mX12_readsFactor) dX12_readsFactor_19 rfl rfl ⟨_, _, _, rfl, rfl, I129, K130, by decide, by decide, (Or.inl ⟨by decide, FPQ_deep kgf (by omega) (by omega) (by omega)⟩)⟩
  exact lp6 (((160 - (m 123 12).toInt) : Int).toNat + 1)  m n (RLs.start hp0 (by omega) (by omega)) (FPQ_0 (by omega)) (by first | omega | assumption | (show C14 m - C14 m = (m 123 15).toInt - (m 123 15).toInt; omega) | decide) I Kp (by omega)

set_option maxHeartbeats 2000000 in
set_option maxRecDepth 20000 in
theorem s_X12_readsSum_vx (g : pv_G) {T : List mv_T} {m : Nat → Nat → Int32} {n : Nat → Nat → Int64} {r : Nat → Value} (hT : TX T) (I : IV BB m) (cb : Int) (c : Int) (hp0 : HW cb c m) (hp1 : 0 ≤ c) (hp2 : 0 ≤ SLK m) (hp3 : (m 123 12).toInt ≤ (m 123 13).toInt) (hp4 : (m 123 17).toInt ≤ (m 123 12).toInt) (hp5 : NS m) (hp6 : 0 ≤ (m 123 15).toInt) (hp7 : (m 123 15).toInt ≤ 6) : PM g mX12_readsSum yX12_readsSum (sqI T BB (wl [(123, 123, some 12), (123, 123, some 14), (123, 123, some 15), (123, 123, some 16), (123, 123, some 17), (123, 123, some 19), (130, 130, none), (131, 131, none)]) r m 0 1 (fun m' v => (v.toInt = 0 ∧ FLT (SU (tR m) (eo (m 123 15).toInt) (m 123 12).toInt) (m' 123 14).toInt) ∨ (v.toInt = 1 ∧ RS cb (c + 1) m m' ∧ SU (tR m) (eo (m 123 15).toInt) (m 123 12).toInt = (0, (m' 123 12).toInt) ∧ (m' 123 15).toInt = (m 123 15).toInt))) 5 0 0 [.ref 123] (mk T m n r) := by
  have Kp : fr (wl [(123, 123, some 12), (123, 123, some 14), (123, 123, some 15), (123, 123, some 16), (123, 123, some 17), (123, 123, some 19), (130, 130, none), (131, 131, none)]) m m := fr.rf
  have z360 : 0 ≤ (m 123 12).toInt ∧ (m 123 12).toInt ≤ 160 := I 123 12
  have z361 : 0 ≤ (m 123 13).toInt ∧ (m 123 13).toInt ≤ 160 := I 123 13
  have z362 : 0 ≤ (m 123 16).toInt ∧ (m 123 16).toInt ≤ 180 := I 123 16
  have z363 : 0 ≤ (m 123 17).toInt ∧ (m 123 17).toInt ≤ 180 := I 123 17
  refine PM.of 2 (lo := [.ref 123, pv_U, pv_U]) rfl (by decide) rfl rfl (Nat.le_of_ble_eq_true rfl) ?_
  have kTX := TXT_R I
  refine pv_aload_n (M := mX12_readsSum) 0 dX12_readsSum_0 1 rfl rfl rfl ?_
  refine iv_get (M := mX12_readsSum) (l1 := 0) (l2 := 180) dX12_readsSum_1 FX12 17 wd1190 (by decide) (tl123 hT) rfl I rfl 4 rfl (fun v2 ev2 pv2 qv2 => ?_)
  have wv2 : v2.toInt = (m 123 17).toInt := congrArg Int32.toInt ev2
  refine pv_istore_n (M := mX12_readsSum) 1 (lo2 := [.ref 123, .int v2, pv_U]) dX12_readsSum_4 5 rfl rfl (by decide) rfl rfl ?_
  refine pv_aload_n (M := mX12_readsSum) 0 dX12_readsSum_5 6 rfl rfl rfl ?_
  refine pv_callv (M := mX12_readsSum) (as := []) (st := []) (kc2 := 0) (ks2 := 0) dX12_readsSum_6 wd1429 YX12_readsFactor ⟨wd1431, wd63⟩ (mk_get (tl123 hT)) rfl rfl (s_X12_readsFactor_vx g hT I cb c hp0 (by first | omega | assumption | exact (iv_rng _).2 | exact (iv_rng _).1 | decide) (by first | omega | assumption | exact (iv_rng _).2 | exact (iv_rng _).1 | decide) (by first | omega | assumption | exact (iv_rng _).2 | exact (iv_rng _).1 | decide) (by first | omega | assumption | exact (iv_rng _).2 | exact (iv_rng _).1 | decide) (by first | omega | assumption | exact (iv_rng _).2 | exact (iv_rng _).1 | decide)) rfl rfl (Nat.le_of_ble_eq_true rfl) (by decide) rfl rfl 9 rfl (fun rv h1 q3 => ?_)
  obtain ⟨m4, n5, v8, rfl, rfl, I6, K7, pv8, qv8, rv8⟩ := q3
  replace rv8 : (v8.toInt = 0 ∧ FPF (tR m) (m 123 15).toInt (m 123 12).toInt (m4 123 14).toInt) ∨ (v8.toInt = 1 ∧ RLs cb (c + 1) m m4 ∧ FPR (tR m) (m 123 15).toInt (m 123 12).toInt (m4 123 15).toInt (m4 123 12).toInt ∧ C14 m4 - C14 m = (m4 123 15).toInt - (m 123 15).toInt) := rv8
  have K7c := K7
  have w9 : (m4 123 13).toInt = (m 123 13).toInt := congrArg Int32.toInt (K7 123 13 rfl)
  have K7 := Kp.trans (K7.sub (fun _ _ q => q))
  show PV _ _ _ _ _ _ _ 9 [.ref 123, .int v2, pv_U] [.int v8] _
  have kR := rv8
  refine pv_if_ne (M := mX12_readsSum) (tgt := 14) dX12_readsSum_9 12 rfl (by decide) (fun c11 => ?_) (fun c11 => ?_)
  · have c11 := iv_ne (X := v8.toInt) (Y := 0) c11 rfl (by decide)
    have lp17 : ∀ (fuel16 : Nat)  (m12 : Nat → Nat → Int32) (n13 : Nat → Nat → Int64), (v2.toInt = (m 123 17).toInt) → (RLs cb (c + 1) m m12) → (KI (tR m) (m 123 15).toInt (m 123 12).toInt (m12 123 15).toInt (m12 123 12).toInt) → (C14 m12 - C14 m = (m12 123 15).toInt - (m 123 15).toInt) → IV BB m12 → fr (wl [(123, 123, some 12), (123, 123, some 14), (123, 123, some 15), (123, 123, some 16), (123, 123, some 17), (123, 123, some 19), (130, 130, none), (131, 131, none)]) m m12 → ((160 - (m12 123 12).toInt) : Int).toNat < fuel16 → PV none g mX12_readsSum (sqI T BB (wl [(123, 123, some 12), (123, 123, some 14), (123, 123, some 15), (123, 123, some 16), (123, 123, some 17), (123, 123, some 19), (130, 130, none), (131, 131, none)]) r m 0 1 (fun m' v => (v.toInt = 0 ∧ FLT (SU (tR m) (eo (m 123 15).toInt) (m 123 12).toInt) (m' 123 14).toInt) ∨ (v.toInt = 1 ∧ RS cb (c + 1) m m' ∧ SU (tR m) (eo (m 123 15).toInt) (m 123 12).toInt = (0, (m' 123 12).toInt) ∧ (m' 123 15).toInt = (m 123 15).toInt))) 5 0 0 14 [.ref 123, .int v2, pv_U] [] (mk T m12 n13 r) := by
      intro fuel16
      induction fuel16 with
      | zero => intro  m12 n13 b19 b20 b21 b22 I14 K15 z23; omega
      | succ fuel16 ih18 =>
        intro  m12 n13 b19 b20 b21 b22 I14 K15 z23
        have z24 : 0 ≤ (m12 123 12).toInt ∧ (m12 123 12).toInt ≤ 160 := I14 123 12
        have z25 : 0 ≤ (m12 123 13).toInt ∧ (m12 123 13).toInt ≤ 160 := I14 123 13
        have z26 : 0 ≤ (m12 123 16).toInt ∧ (m12 123 16).toInt ≤ 180 := I14 123 16
        have z27 : 0 ≤ (m12 123 17).toInt ∧ (m12 123 17).toInt ≤ 180 := I14 123 17
        have kg := (show RLs cb (c + 1) m m12 by assumption)
        have kg2 := kg.2.2.2.2.1
        have kg3 := kg.2.2.2.2.2.2.2.2.1
        have kg4 := kg.2.2.2.2.2.2.2.2.2
        have kg5 : (m12 123 16).toInt ≤ (m12 123 12).toInt := SLK_cm (m := m12) (by have := kg.2.1; omega)
        have kg6 := kg.2.2.2.1
        have kg7 := kg.2.1
        have kg8 := kg.2.2.2.2.2.2.2.1
        have kgk := (show KI (tR m) (m 123 15).toInt (m 123 12).toInt (m12 123 15).toInt (m12 123 12).toInt by assumption)
        have kt14 : tR m12 = tR m := tR_eq (K15 123 13 rfl) (fun j => K15 129 j rfl)
        have kgk1 := kgk.1
        have kgk2 := kgk.2.1
        refine pv_aload_n (M := mX12_readsSum) 0 dX12_readsSum_14 15 rfl rfl rfl ?_
        refine pv_callv (M := mX12_readsSum) (as := []) (st := []) (kc2 := 0) (ks2 := 0) dX12_readsSum_15 wd1417 YX12_here ⟨wd1419, wd60⟩ (mk_get (tl123 hT)) rfl rfl (s_X12_here g hT I14) rfl rfl (Nat.le_of_ble_eq_true rfl) (by decide) rfl rfl 18 rfl (fun rv h1 q40 => ?_)
        obtain ⟨v41, rfl, rfl, pv41, qv41, rv41⟩ := q40
        replace rv41 : v41.toInt = hereV m12 ∧ (v41.toInt = -1 ∨ (m12 123 12).toInt < (m12 123 13).toInt) := rv41
        show PV _ _ _ _ _ _ _ 18 [.ref 123, .int v2, pv_U] [.int v41] _
        have k18 : v41.toInt = tR m (m12 123 12).toInt := rv41.1.trans (congrFun kt14 _)
        refine pv_calls (M := mX12_readsSum) (as := [.int v41]) (st := []) (kc2 := 0) (ks2 := 0) dX12_readsSum_18 wd1453 YX12_sumSign wd1454 (s_X12_sumSign_vx g hT I14 v41) rfl rfl (Nat.le_of_ble_eq_true rfl) (by decide) rfl rfl 21 rfl (fun rv h1 q43 => ?_)
        obtain ⟨v44, rfl, rfl, pv44, qv44, rv44⟩ := q43
        replace rv44 : (v44.toInt = -1 ∨ (2 ≤ v44.toInt ∧ 0 ≤ v41.toInt)) ∧ ((v44.toInt = -1 ∧ isS v41.toInt = false) ∨ (2 ≤ v44.toInt ∧ isS v41.toInt = true)) := rv44
        show PV _ _ _ _ _ _ _ 21 [.ref 123, .int v2, pv_U] [.int v44] _
        have k21 := rv44.2
        refine pv_istore_n (M := mX12_readsSum) 2 (lo2 := [.ref 123, .int v2, .int v44]) dX12_readsSum_21 22 rfl rfl (by decide) rfl rfl ?_
        refine pv_iload_n (M := mX12_readsSum) 2 dX12_readsSum_22 23 rfl rfl rfl ?_
        refine pv_iconst (M := mX12_readsSum) (v := (-1)) dX12_readsSum_23 24 rfl (by decide) ?_
        refine pv_icmp_eq (M := mX12_readsSum) (tgt := 83) dX12_readsSum_24 27 rfl (by decide) (fun c46 => ?_) (fun c46 => ?_)
        · have c46 := iv_eq (X := v44.toInt) (Y := (-1)) c46 rfl (by decide)
          have kS0 : isS (tR m (m12 123 12).toInt) = false := by rw [← k18]; exact (k21.resolve_right (fun q => by have q1 := q.1; omega)).2
          refine pv_aload_n (M := mX12_readsSum) 0 dX12_readsSum_83 84 rfl rfl rfl ?_
          refine pv_callv (M := mX12_readsSum) (as := []) (st := []) (kc2 := 0) (ks2 := 0) dX12_readsSum_84 wd1417 YX12_here ⟨wd1419, wd60⟩ (mk_get (tl123 hT)) rfl rfl (s_X12_here g hT I14) rfl rfl (Nat.le_of_ble_eq_true rfl) (by decide) rfl rfl 87 rfl (fun rv h1 q48 => ?_)
          obtain ⟨v49, rfl, rfl, pv49, qv49, rv49⟩ := q48
          replace rv49 : v49.toInt = hereV m12 ∧ (v49.toInt = -1 ∨ (m12 123 12).toInt < (m12 123 13).toInt) := rv49
          show PV _ _ _ _ _ _ _ 87 [.ref 123, .int v2, .int v44] [.int v49] _
          have k87 : v49.toInt = tR m (m12 123 12).toInt := rv49.1.trans (congrFun kt14 _)
          refine pv_bipush (M := mX12_readsSum) (v := 93) dX12_readsSum_87 89 rfl (by decide) ?_
          refine pv_icmp_ne (M := mX12_readsSum) (tgt := 138) dX12_readsSum_89 92 rfl (by decide) (fun c51 => ?_) (fun c51 => ?_)
          · have c51 := iv_ne (X := v49.toInt) (Y := 93) c51 rfl (by decide)
            refine pv_aload_n (M := mX12_readsSum) 0 dX12_readsSum_138 139 rfl rfl rfl ?_
            refine pv_iload_n (M := mX12_readsSum) 1 dX12_readsSum_139 140 rfl rfl rfl ?_
            refine pv_callv (M := mX12_readsSum) (as := [.int v2]) (st := []) (kc2 := 0) (ks2 := 0) dX12_readsSum_140 wd1464 YX12_hasOpenSum ⟨wd1466, wd70⟩ (mk_get (tl123 hT)) rfl rfl (s_X12_hasOpenSum g hT I14 v2 (by omega) (by omega)) rfl rfl (Nat.le_of_ble_eq_true rfl) (by decide) rfl rfl 143 rfl (fun rv h1 q52 => ?_)
            obtain ⟨v53, rfl, rfl, pv53, qv53, rv53⟩ := q52
            replace rv53 : (v53.toInt = 1 ∧ ∃ j : Nat, v2.toInt ≤ j ∧ (j : Int) < (m12 123 17).toInt ∧ opv (m12 131 j) = 14) ∨ (v53.toInt = 0 ∧ ∀ j : Nat, v2.toInt ≤ j → (j : Int) < (m12 123 17).toInt → opv (m12 131 j) ≠ 14) := rv53
            show PV _ _ _ _ _ _ _ 143 [.ref 123, .int v2, .int v44] [.int v53] _
            have kH2 := rv53
            refine pv_if_eq (M := mX12_readsSum) (tgt := 156) dX12_readsSum_143 146 rfl (by decide) (fun c55 => ?_) (fun c55 => ?_)
            · have c55 := iv_eq (X := v53.toInt) (Y := 0) c55 rfl (by decide)
              have kC3 : C14 m12 = C14 m := C14_hasnt kg (by omega) (fun j j1 j2 => (kH2.resolve_left (fun q => by have q1 := q.1; omega)).2 j (by omega) j2)
              refine pv_aload_n (M := mX12_readsSum) 0 dX12_readsSum_156 157 rfl rfl rfl ?_
              refine pv_iconst (M := mX12_readsSum) (v := 1) dX12_readsSum_157 158 rfl (by decide) ?_
              have z57 : (1 : Int32).toInt = 1 := by decide
              refine pv_callv (M := mX12_readsSum) (as := [.int 1]) (st := []) (kc2 := 0) (ks2 := 0) dX12_readsSum_158 wd1456 YX12_closesSums ⟨wd1458, wd68⟩ (mk_get (tl123 hT)) rfl rfl (s_X12_closesSums g hT I14 1 (by decide) (by decide) cb (c + 1) kg.1 (by omega) (by have := kg.2.1; omega)) rfl rfl (Nat.le_of_ble_eq_true rfl) (by decide) rfl rfl 161 rfl (fun rv h1 q58 => ?_)
              obtain ⟨m59, n60, rfl, rfl, I61, K62, rm59⟩ := q58
              replace rm59 : CSI cb (c + 1) m12 m59 ∧ ((1 : Int) ≠ 0 → (m59 123 17).toInt = 0 ∨ ¬ (2 ≤ opv (m59 131 ((m59 123 17).toInt - 1).toNat) ∧ opv (m59 131 ((m59 123 17).toInt - 1).toNat) ≤ 6)) := by have q_ := rm59; (try rw [z57] at q_); exact q_
              have K62c := K62
              have w63 : (m59 123 12).toInt = (m12 123 12).toInt := congrArg Int32.toInt (K62 123 12 rfl)
              have w64 : (m59 123 13).toInt = (m12 123 13).toInt := congrArg Int32.toInt (K62 123 13 rfl)
              have w65 : (m59 123 14).toInt = (m12 123 14).toInt := congrArg Int32.toInt (K62 123 14 rfl)
              have w66 : (m59 123 15).toInt = (m12 123 15).toInt := congrArg Int32.toInt (K62 123 15 rfl)
              have K62 := K15.trans (K62.sub (wl_sub (by decide)))
              show PV _ _ _ _ _ _ _ 161 [.ref 123, .int v2, .int v44] [] _
              have kC := rm59
              have kL := RLs.cls kg hp5 (by omega) kC.1 (K62c 123 12 rfl) (K62c 123 13 rfl)
              have kL2 := kL.2.2.2.2.1
              have kL3 := kL.2.2.2.1
              have kL4 := kL.2.1
              have kZ := RLs.fin kg kL (by omega) kC.1 (fun j a b => (kH2.resolve_left (fun q => by have := q.1; omega)).2 j (by omega) b) (kC.2 (by decide))
              have kC14c : C14 m59 = C14 m12 := C14_csi kC.1
              have kOc : (m59 123 15).toInt = (m12 123 15).toInt := congrArg Int32.toInt (K62c 123 15 rfl)
              refine pv_iconst (M := mX12_readsSum) (v := 1) dX12_readsSum_161 162 rfl (by decide) ?_
              have z75 : (1 : Int32).toInt = 1 := by decide
              exact pv_iret (M := mX12_readsSum) dX12_readsSum_162 rfl rfl ⟨_, _, _, rfl, rfl, I61, K62, by decide, by decide, (Or.inr ⟨by decide, kZ, by rw [KI_end kgk kS0 (by omega), show (m12 123 12).toInt = (m59 123 12).toInt by omega], by omega⟩)⟩
            · have c55 := iv_ne (X := v53.toInt) (Y := 0) c55 rfl (by decide)
              have kC2 : C14 m + 1 ≤ C14 m12 := by obtain ⟨j, j1, j2, j3⟩ := (kH2.resolve_right (fun q => by have q1 := q.1; omega)).2; exact C14_has kg (by omega) (by omega) j2 j3
              refine pv_aload_n (M := mX12_readsSum) 0 dX12_readsSum_146 147 rfl rfl rfl ?_
              refine pv_iconst (M := mX12_readsSum) (v := 1) dX12_readsSum_147 148 rfl (by decide) ?_
              refine pv_aload_n (M := mX12_readsSum) 0 dX12_readsSum_148 149 rfl rfl rfl ?_
              refine iv_get (M := mX12_readsSum) (l1 := 0) (l2 := 160) dX12_readsSum_149 FX12 12 wd1185 (by decide) (tl123 hT) rfl I14 rfl 152 rfl (fun v77 ev77 pv77 qv77 => ?_)
              have wv77 : v77.toInt = (m12 123 12).toInt := congrArg Int32.toInt ev77
              have z78 : (1 : Int32).toInt = 1 := by decide
              refine pv_callv (M := mX12_readsSum) (as := [.int 1, .int v77]) (st := []) (kc2 := 0) (ks2 := 0) dX12_readsSum_152 wd1421 YX12_wrongAt ⟨wd1423, wd61⟩ (mk_get (tl123 hT)) rfl rfl (s_X12_wrongAt_vx g hT I14 1 (by decide) (by decide) v77 (by omega) (by omega)) rfl rfl (Nat.le_of_ble_eq_true rfl) (by decide) rfl rfl 155 rfl (fun rv h1 q79 => ?_)
              obtain ⟨m80, n81, v84, rfl, rfl, I82, K83, pv84, qv84, rv84⟩ := q79
              replace rv84 : (m80 123 14).toInt = -1000 * (1 : Int) - v77.toInt := by have q_ := rv84; (try rw [z78] at q_); exact q_
              have K83c := K83
              have w85 : (m80 123 12).toInt = (m12 123 12).toInt := congrArg Int32.toInt (K83 123 12 rfl)
              have w86 : (m80 123 13).toInt = (m12 123 13).toInt := congrArg Int32.toInt (K83 123 13 rfl)
              have w87 : (m80 123 16).toInt = (m12 123 16).toInt := congrArg Int32.toInt (K83 123 16 rfl)
              have w88 : (m80 123 17).toInt = (m12 123 17).toInt := congrArg Int32.toInt (K83 123 17 rfl)
              have w89 : (m80 123 15).toInt = (m12 123 15).toInt := congrArg Int32.toInt (K83 123 15 rfl)
              have K83 := K15.trans (K83.sub (wl_sub (by decide)))
              show PV _ _ _ _ _ _ _ 155 [.ref 123, .int v2, .int v44] [.int v84] _
              exact pv_iret (M := mX12_readsSum) dX12_readsSum_155 rfl (iv_nz (by omega) (by omega)) ⟨_, _, _, rfl, rfl, I82, K83, by omega, by omega, (by first | exact Or.inl ⟨by omega, KI_wrong kgk kS0 (by omega) (by omega) (by omega)⟩ | (exfalso; obtain ⟨j, j1, j2, j3⟩ := (kH2.resolve_right (fun q => by have q1 := q.1; omega)).2; exact absurd j3 ((kH.resolve_left (fun q => by have q1 := q.1; omega)).2 j j1 j2)))⟩
          · have c51 := iv_eq (X := v49.toInt) (Y := 93) c51 rfl (by decide)
            refine pv_aload_n (M := mX12_readsSum) 0 dX12_readsSum_92 93 rfl rfl rfl ?_
            refine pv_iload_n (M := mX12_readsSum) 1 dX12_readsSum_93 94 rfl rfl rfl ?_
            refine pv_callv (M := mX12_readsSum) (as := [.int v2]) (st := []) (kc2 := 0) (ks2 := 0) dX12_readsSum_94 wd1464 YX12_hasOpenSum ⟨wd1466, wd70⟩ (mk_get (tl123 hT)) rfl rfl (s_X12_hasOpenSum g hT I14 v2 (by omega) (by omega)) rfl rfl (Nat.le_of_ble_eq_true rfl) (by decide) rfl rfl 97 rfl (fun rv h1 q90 => ?_)
            obtain ⟨v91, rfl, rfl, pv91, qv91, rv91⟩ := q90
            replace rv91 : (v91.toInt = 1 ∧ ∃ j : Nat, v2.toInt ≤ j ∧ (j : Int) < (m12 123 17).toInt ∧ opv (m12 131 j) = 14) ∨ (v91.toInt = 0 ∧ ∀ j : Nat, v2.toInt ≤ j → (j : Int) < (m12 123 17).toInt → opv (m12 131 j) ≠ 14) := rv91
            show PV _ _ _ _ _ _ _ 97 [.ref 123, .int v2, .int v44] [.int v91] _
            have kH := rv91
            refine pv_if_eq (M := mX12_readsSum) (tgt := 138) dX12_readsSum_97 100 rfl (by decide) (fun c93 => ?_) (fun c93 => ?_)
            · have c93 := iv_eq (X := v91.toInt) (Y := 0) c93 rfl (by decide)
              refine pv_aload_n (M := mX12_readsSum) 0 dX12_readsSum_138 139 rfl rfl rfl ?_
              refine pv_iload_n (M := mX12_readsSum) 1 dX12_readsSum_139 140 rfl rfl rfl ?_
              refine pv_callv (M := mX12_readsSum) (as := [.int v2]) (st := []) (kc2 := 0) (ks2 := 0) dX12_readsSum_140 wd1464 YX12_hasOpenSum ⟨wd1466, wd70⟩ (mk_get (tl123 hT)) rfl rfl (s_X12_hasOpenSum g hT I14 v2 (by omega) (by omega)) rfl rfl (Nat.le_of_ble_eq_true rfl) (by decide) rfl rfl 143 rfl (fun rv h1 q94 => ?_)
              obtain ⟨v95, rfl, rfl, pv95, qv95, rv95⟩ := q94
              replace rv95 : (v95.toInt = 1 ∧ ∃ j : Nat, v2.toInt ≤ j ∧ (j : Int) < (m12 123 17).toInt ∧ opv (m12 131 j) = 14) ∨ (v95.toInt = 0 ∧ ∀ j : Nat, v2.toInt ≤ j → (j : Int) < (m12 123 17).toInt → opv (m12 131 j) ≠ 14) := rv95
              show PV _ _ _ _ _ _ _ 143 [.ref 123, .int v2, .int v44] [.int v95] _
              have kH2 := rv95
              refine pv_if_eq (M := mX12_readsSum) (tgt := 156) dX12_readsSum_143 146 rfl (by decide) (fun c97 => ?_) (fun c97 => ?_)
              · have c97 := iv_eq (X := v95.toInt) (Y := 0) c97 rfl (by decide)
                have kC3 : C14 m12 = C14 m := C14_hasnt kg (by omega) (fun j j1 j2 => (kH2.resolve_left (fun q => by have q1 := q.1; omega)).2 j (by omega) j2)
                refine pv_aload_n (M := mX12_readsSum) 0 dX12_readsSum_156 157 rfl rfl rfl ?_
                refine pv_iconst (M := mX12_readsSum) (v := 1) dX12_readsSum_157 158 rfl (by decide) ?_
                have z99 : (1 : Int32).toInt = 1 := by decide
                refine pv_callv (M := mX12_readsSum) (as := [.int 1]) (st := []) (kc2 := 0) (ks2 := 0) dX12_readsSum_158 wd1456 YX12_closesSums ⟨wd1458, wd68⟩ (mk_get (tl123 hT)) rfl rfl (s_X12_closesSums g hT I14 1 (by decide) (by decide) cb (c + 1) kg.1 (by omega) (by have := kg.2.1; omega)) rfl rfl (Nat.le_of_ble_eq_true rfl) (by decide) rfl rfl 161 rfl (fun rv h1 q100 => ?_)
                obtain ⟨m101, n102, rfl, rfl, I103, K104, rm101⟩ := q100
                replace rm101 : CSI cb (c + 1) m12 m101 ∧ ((1 : Int) ≠ 0 → (m101 123 17).toInt = 0 ∨ ¬ (2 ≤ opv (m101 131 ((m101 123 17).toInt - 1).toNat) ∧ opv (m101 131 ((m101 123 17).toInt - 1).toNat) ≤ 6)) := by have q_ := rm101; (try rw [z99] at q_); exact q_
                have K104c := K104
                have w105 : (m101 123 12).toInt = (m12 123 12).toInt := congrArg Int32.toInt (K104 123 12 rfl)
                have w106 : (m101 123 13).toInt = (m12 123 13).toInt := congrArg Int32.toInt (K104 123 13 rfl)
                have w107 : (m101 123 14).toInt = (m12 123 14).toInt := congrArg Int32.toInt (K104 123 14 rfl)
                have w108 : (m101 123 15).toInt = (m12 123 15).toInt := congrArg Int32.toInt (K104 123 15 rfl)
                have K104 := K15.trans (K104.sub (wl_sub (by decide)))
                show PV _ _ _ _ _ _ _ 161 [.ref 123, .int v2, .int v44] [] _
                have kC := rm101
                have kL := RLs.cls kg hp5 (by omega) kC.1 (K104c 123 12 rfl) (K104c 123 13 rfl)
                have kL2 := kL.2.2.2.2.1
                have kL3 := kL.2.2.2.1
                have kL4 := kL.2.1
                have kZ := RLs.fin kg kL (by omega) kC.1 (fun j a b => (kH2.resolve_left (fun q => by have := q.1; omega)).2 j (by omega) b) (kC.2 (by decide))
                have kC14c : C14 m101 = C14 m12 := C14_csi kC.1
                have kOc : (m101 123 15).toInt = (m12 123 15).toInt := congrArg Int32.toInt (K104c 123 15 rfl)
                refine pv_iconst (M := mX12_readsSum) (v := 1) dX12_readsSum_161 162 rfl (by decide) ?_
                have z117 : (1 : Int32).toInt = 1 := by decide
                exact pv_iret (M := mX12_readsSum) dX12_readsSum_162 rfl rfl ⟨_, _, _, rfl, rfl, I103, K104, by decide, by decide, (Or.inr ⟨by decide, kZ, by rw [KI_end kgk kS0 (by omega), show (m12 123 12).toInt = (m101 123 12).toInt by omega], by omega⟩)⟩
              · have c97 := iv_ne (X := v95.toInt) (Y := 0) c97 rfl (by decide)
                have kC2 : C14 m + 1 ≤ C14 m12 := by obtain ⟨j, j1, j2, j3⟩ := (kH2.resolve_right (fun q => by have q1 := q.1; omega)).2; exact C14_has kg (by omega) (by omega) j2 j3
                refine pv_aload_n (M := mX12_readsSum) 0 dX12_readsSum_146 147 rfl rfl rfl ?_
                refine pv_iconst (M := mX12_readsSum) (v := 1) dX12_readsSum_147 148 rfl (by decide) ?_
                refine pv_aload_n (M := mX12_readsSum) 0 dX12_readsSum_148 149 rfl rfl rfl ?_
                refine iv_get (M := mX12_readsSum) (l1 := 0) (l2 := 160) dX12_readsSum_149 FX12 12 wd1185 (by decide) (tl123 hT) rfl I14 rfl 152 rfl (fun v119 ev119 pv119 qv119 => ?_)
                have wv119 : v119.toInt = (m12 123 12).toInt := congrArg Int32.toInt ev119
                have z120 : (1 : Int32).toInt = 1 := by decide
                refine pv_callv (M := mX12_readsSum) (as := [.int 1, .int v119]) (st := []) (kc2 := 0) (ks2 := 0) dX12_readsSum_152 wd1421 YX12_wrongAt ⟨wd1423, wd61⟩ (mk_get (tl123 hT)) rfl rfl (s_X12_wrongAt_vx g hT I14 1 (by decide) (by decide) v119 (by omega) (by omega)) rfl rfl (Nat.le_of_ble_eq_true rfl) (by decide) rfl rfl 155 rfl (fun rv h1 q121 => ?_)
                obtain ⟨m122, n123, v126, rfl, rfl, I124, K125, pv126, qv126, rv126⟩ := q121
                replace rv126 : (m122 123 14).toInt = -1000 * (1 : Int) - v119.toInt := by have q_ := rv126; (try rw [z120] at q_); exact q_
                have K125c := K125
                have w127 : (m122 123 12).toInt = (m12 123 12).toInt := congrArg Int32.toInt (K125 123 12 rfl)
                have w128 : (m122 123 13).toInt = (m12 123 13).toInt := congrArg Int32.toInt (K125 123 13 rfl)
                have w129 : (m122 123 16).toInt = (m12 123 16).toInt := congrArg Int32.toInt (K125 123 16 rfl)
                have w130 : (m122 123 17).toInt = (m12 123 17).toInt := congrArg Int32.toInt (K125 123 17 rfl)
                have w131 : (m122 123 15).toInt = (m12 123 15).toInt := congrArg Int32.toInt (K125 123 15 rfl)
                have K125 := K15.trans (K125.sub (wl_sub (by decide)))
                show PV _ _ _ _ _ _ _ 155 [.ref 123, .int v2, .int v44] [.int v126] _
                exact pv_iret (M := mX12_readsSum) dX12_readsSum_155 rfl (iv_nz (by omega) (by omega)) ⟨_, _, _, rfl, rfl, I124, K125, by omega, by omega, (by first | exact Or.inl ⟨by omega, KI_wrong kgk kS0 (by omega) (by omega) (by omega)⟩ | (exfalso; obtain ⟨j, j1, j2, j3⟩ := (kH2.resolve_right (fun q => by have q1 := q.1; omega)).2; exact absurd j3 ((kH.resolve_left (fun q => by have q1 := q.1; omega)).2 j j1 j2)))⟩
            · have c93 := iv_ne (X := v91.toInt) (Y := 0) c93 rfl (by decide)
              have k93 : tR m (m12 123 12).toInt = 93 := by omega
              have kC1 : C14 m + 1 ≤ C14 m12 := by obtain ⟨j, j1, j2, j3⟩ := (kH.resolve_right (fun q => by have q1 := q.1; omega)).2; exact C14_has kg (by omega) (by omega) j2 j3
              refine pv_aload_n (M := mX12_readsSum) 0 dX12_readsSum_100 101 rfl rfl rfl ?_
              refine pv_iconst (M := mX12_readsSum) (v := 1) dX12_readsSum_101 102 rfl (by decide) ?_
              have z134 : (1 : Int32).toInt = 1 := by decide
              refine pv_callv (M := mX12_readsSum) (as := [.int 1]) (st := []) (kc2 := 0) (ks2 := 0) dX12_readsSum_102 wd1456 YX12_closesSums ⟨wd1458, wd68⟩ (mk_get (tl123 hT)) rfl rfl (s_X12_closesSums g hT I14 1 (by decide) (by decide) cb (c + 1) kg.1 (by omega) (by have := kg.2.1; omega)) rfl rfl (Nat.le_of_ble_eq_true rfl) (by decide) rfl rfl 105 rfl (fun rv h1 q135 => ?_)
              obtain ⟨m136, n137, rfl, rfl, I138, K139, rm136⟩ := q135
              replace rm136 : CSI cb (c + 1) m12 m136 ∧ ((1 : Int) ≠ 0 → (m136 123 17).toInt = 0 ∨ ¬ (2 ≤ opv (m136 131 ((m136 123 17).toInt - 1).toNat) ∧ opv (m136 131 ((m136 123 17).toInt - 1).toNat) ≤ 6)) := by have q_ := rm136; (try rw [z134] at q_); exact q_
              have K139c := K139
              have w140 : (m136 123 12).toInt = (m12 123 12).toInt := congrArg Int32.toInt (K139 123 12 rfl)
              have w141 : (m136 123 13).toInt = (m12 123 13).toInt := congrArg Int32.toInt (K139 123 13 rfl)
              have w142 : (m136 123 14).toInt = (m12 123 14).toInt := congrArg Int32.toInt (K139 123 14 rfl)
              have w143 : (m136 123 15).toInt = (m12 123 15).toInt := congrArg Int32.toInt (K139 123 15 rfl)
              have K139 := K15.trans (K139.sub (wl_sub (by decide)))
              show PV _ _ _ _ _ _ _ 105 [.ref 123, .int v2, .int v44] [] _
              have kC := rm136
              have kL := RLs.cls kg hp5 (by omega) kC.1 (K139c 123 12 rfl) (K139c 123 13 rfl)
              have kL2 := kL.2.2.2.2.1
              have kL3 := kL.2.2.2.1
              have kL4 := kL.2.1
              have kj := (kH.resolve_right (fun q => by have := q.1; omega)).2
              have kw : 1 ≤ (m136 123 17).toInt := by obtain ⟨j, j1, j2, j3⟩ := kj; have := kC.1.wt1 (j := j) (by omega) (by omega); omega
              have kC14c : C14 m136 = C14 m12 := C14_csi kC.1
              have kOc : (m136 123 15).toInt = (m12 123 15).toInt := congrArg Int32.toInt (K139c 123 15 rfl)
              have kw2 : (m 123 17).toInt < (m136 123 17).toInt := by obtain ⟨j, j1, j2, j3⟩ := kj; have := kC.1.wt1 (j := j) (by omega) (by omega); omega
              have ktp := RLs_top kL (by omega) kw2 (kC.2 (by decide))
              refine pv_aload_n (M := mX12_readsSum) 0 dX12_readsSum_105 106 rfl rfl rfl ?_
              refine pv_aload_n (M := mX12_readsSum) 0 dX12_readsSum_106 107 rfl rfl rfl ?_
              refine iv_get (M := mX12_readsSum) (l1 := 0) (l2 := 180) dX12_readsSum_107 FX12 17 wd1190 (by decide) (tl123 hT) rfl I138 rfl 110 rfl (fun v155 ev155 pv155 qv155 => ?_)
              have wv155 : v155.toInt = (m136 123 17).toInt := congrArg Int32.toInt ev155
              refine pv_iconst (M := mX12_readsSum) (v := 1) dX12_readsSum_110 111 rfl (by decide) ?_
              refine iv_isub (M := mX12_readsSum) (X := v155.toInt) (Y := 1) dX12_readsSum_111 112 rfl rfl (by decide) (by omega) (by omega) (fun v156 ev156 => ?_)
              refine iv_put (M := mX12_readsSum) (l1 := 0) (l2 := 180) dX12_readsSum_112 FX12 17 wd1190 (by decide) rfl (tl123 hT) rfl rfl rfl I138 rfl (by omega) (by omega) 115 rfl (fun m157 e160 I158 => ?_)
              have K159 := K139.set e160 rfl
              have w161 : (m157 123 12).toInt = (m136 123 12).toInt := by rw [e160, up2_ne (by omega)]
              have w162 : (m157 123 13).toInt = (m136 123 13).toInt := by rw [e160, up2_ne (by omega)]
              have w163 : (m157 123 16).toInt = (m136 123 16).toInt := by rw [e160, up2_ne (by omega)]
              have w164 : (m157 123 17).toInt = v156.toInt := by rw [e160, up2_eq]
              have w165 : (m157 123 14).toInt = (m136 123 14).toInt := by rw [e160, up2_ne (by omega)]
              have w166 : (m157 123 15).toInt = (m136 123 15).toInt := by rw [e160, up2_ne (by omega)]
              refine pv_aload_n (M := mX12_readsSum) 0 dX12_readsSum_115 116 rfl rfl rfl ?_
              refine pv_aload_n (M := mX12_readsSum) 0 dX12_readsSum_116 117 rfl rfl rfl ?_
              refine iv_get (M := mX12_readsSum) (l1 := (-2147483648)) (l2 := 2147483647) dX12_readsSum_117 FX12 15 wd1188 (by decide) (tl123 hT) rfl I158 rfl 120 rfl (fun v167 ev167 pv167 qv167 => ?_)
              have wv167 : v167.toInt = (m157 123 15).toInt := congrArg Int32.toInt ev167
              refine pv_iconst (M := mX12_readsSum) (v := 1) dX12_readsSum_120 121 rfl (by decide) ?_
              refine iv_isub (M := mX12_readsSum) (X := v167.toInt) (Y := 1) dX12_readsSum_121 122 rfl rfl (by decide) (by omega) (by omega) (fun v168 ev168 => ?_)
              refine iv_put (M := mX12_readsSum) (l1 := (-2147483648)) (l2 := 2147483647) dX12_readsSum_122 FX12 15 wd1188 (by decide) rfl (tl123 hT) rfl rfl rfl I158 rfl (iv_rng v168).1 (iv_rng v168).2 125 rfl (fun m169 e172 I170 => ?_)
              have K171 := K159.set e172 rfl
              have w173 : (m169 123 12).toInt = (m157 123 12).toInt := by rw [e172, up2_ne (by omega)]
              have w174 : (m169 123 13).toInt = (m157 123 13).toInt := by rw [e172, up2_ne (by omega)]
              have w175 : (m169 123 16).toInt = (m157 123 16).toInt := by rw [e172, up2_ne (by omega)]
              have w176 : (m169 123 17).toInt = (m157 123 17).toInt := by rw [e172, up2_ne (by omega)]
              have w177 : (m169 123 14).toInt = (m157 123 14).toInt := by rw [e172, up2_ne (by omega)]
              have w178 : (m169 123 15).toInt = v168.toInt := by rw [e172, up2_eq]
              refine pv_aload_n (M := mX12_readsSum) 0 dX12_readsSum_125 126 rfl rfl rfl ?_
              refine pv_aload_n (M := mX12_readsSum) 0 dX12_readsSum_126 127 rfl rfl rfl ?_
              refine iv_get (M := mX12_readsSum) (l1 := 0) (l2 := 160) dX12_readsSum_127 FX12 12 wd1185 (by decide) (tl123 hT) rfl I170 rfl 130 rfl (fun v179 ev179 pv179 qv179 => ?_)
              have wv179 : v179.toInt = (m169 123 12).toInt := congrArg Int32.toInt ev179
              refine pv_iconst (M := mX12_readsSum) (v := 1) dX12_readsSum_130 131 rfl (by decide) ?_
              refine iv_iadd (M := mX12_readsSum) (X := v179.toInt) (Y := 1) dX12_readsSum_131 132 rfl rfl (by decide) (by omega) (by omega) (fun v180 ev180 => ?_)
              refine iv_put (M := mX12_readsSum) (l1 := 0) (l2 := 160) dX12_readsSum_132 FX12 12 wd1185 (by decide) rfl (tl123 hT) rfl rfl rfl I170 rfl (by omega) (by omega) 135 rfl (fun m181 e184 I182 => ?_)
              have K183 := K171.set e184 rfl
              have w185 : (m181 123 12).toInt = v180.toInt := by rw [e184, up2_eq]
              have w186 : (m181 123 13).toInt = (m169 123 13).toInt := by rw [e184, up2_ne (by omega)]
              have w187 : (m181 123 16).toInt = (m169 123 16).toInt := by rw [e184, up2_ne (by omega)]
              have w188 : (m181 123 17).toInt = (m169 123 17).toInt := by rw [e184, up2_ne (by omega)]
              have w189 : (m181 123 14).toInt = (m169 123 14).toInt := by rw [e184, up2_ne (by omega)]
              have w190 : (m181 123 15).toInt = (m169 123 15).toInt := by rw [e184, up2_ne (by omega)]
              have kX := (RLs.close kg kL (by omega) kC.1 (by obtain ⟨j, j1, j2, j3⟩ := kj; exact ⟨j, by omega, j2, j3⟩) (kC.2 (by decide)) e160 (by omega) e172 e184 (by omega) (by omega)).1
              have kC14p := C14_pop (m := m136) (m' := m181) (by omega) (fun j => by rw [e184, up2_ne (by omega), e172, up2_ne (by omega), e160, up2_ne (by omega)]) (by omega)
              rw [ktp] at kC14p
              have kKc : KI (tR m) (m 123 15).toInt (m 123 12).toInt (m181 123 15).toInt (m181 123 12).toInt := KI_close kgk k93 (by omega) (by omega) (by omega)
              refine pv_goto (M := mX12_readsSum) (tgt := 163) dX12_readsSum_135 (by decide) ?_
              refine pv_goto (M := mX12_readsSum) (tgt := 14) dX12_readsSum_163 (by decide) ?_
              refine pv_fg (lo2 := [.ref 123, .int v2, pv_U]) ⟨Or.inr rfl, ⟨Or.inr rfl, ⟨Or.inl rfl, trivial⟩⟩⟩ ?_
              have krl : RLs cb (c + 1) m m181 := by first | exact kX | exact kS.trans (kR2.resolve_left (fun q => by have q1 := q.1; omega)).2.1
              have kbk : (m12 123 12).toInt + 1 ≤ (m181 123 12).toInt := by first | omega | (have := (kR2.resolve_left (fun q => by have q1 := q.1; omega)).2.1.2.2.2.2.2.2.2.1; omega)
              have kkb : KI (tR m) (m 123 15).toInt (m 123 12).toInt (m181 123 15).toInt (m181 123 12).toInt := by first | exact kKc | exact KI_sign kgk kTX (by omega) kSg (kR2.resolve_left (fun q => by have q1 := q.1; omega)).2.2.1
              have kcb : C14 m181 - C14 m = (m181 123 15).toInt - (m 123 15).toInt := by first | omega | (have q := (kR2.resolve_left (fun q => by have q1 := q.1; omega)).2.2.2; omega)
              exact ih18  m181 n137 (by first | omega | assumption | (show v2.toInt = (m 123 17).toInt; omega) | decide) krl kkb kcb I182 K183 (by omega)
        · have c46 := iv_ne (X := v44.toInt) (Y := (-1)) c46 rfl (by decide)
          have kSg : isS (tR m (m12 123 12).toInt) = true := by rw [← k18]; exact (k21.resolve_left (fun q => by have q1 := q.1; omega)).2
          refine pv_aload_n (M := mX12_readsSum) 0 dX12_readsSum_27 28 rfl rfl rfl ?_
          refine pv_iload_n (M := mX12_readsSum) 2 dX12_readsSum_28 29 rfl rfl rfl ?_
          refine pv_iconst (M := mX12_readsSum) (v := 4) dX12_readsSum_29 30 rfl (by decide) ?_
          refine pv_icmp_ge (M := mX12_readsSum) (tgt := 37) dX12_readsSum_30 33 rfl (by decide) (fun c200 => ?_) (fun c200 => ?_)
          · have c200 := iv_le (X := 4) (Y := v44.toInt) c200 (by decide) rfl
            refine pv_iconst (M := mX12_readsSum) (v := 0) dX12_readsSum_37 38 rfl (by decide) ?_
            have z201 : (0 : Int32).toInt = 0 := by decide
            refine pv_callv (M := mX12_readsSum) (as := [.int 0]) (st := []) (kc2 := 0) (ks2 := 0) dX12_readsSum_38 wd1456 YX12_closesSums ⟨wd1458, wd68⟩ (mk_get (tl123 hT)) rfl rfl (s_X12_closesSums g hT I14 0 (by decide) (by decide) cb (c + 1) kg.1 (by omega) (by have := kg.2.1; omega)) rfl rfl (Nat.le_of_ble_eq_true rfl) (by decide) rfl rfl 41 rfl (fun rv h1 q202 => ?_)
            obtain ⟨m203, n204, rfl, rfl, I205, K206, rm203⟩ := q202
            replace rm203 : CSI cb (c + 1) m12 m203 ∧ ((0 : Int) ≠ 0 → (m203 123 17).toInt = 0 ∨ ¬ (2 ≤ opv (m203 131 ((m203 123 17).toInt - 1).toNat) ∧ opv (m203 131 ((m203 123 17).toInt - 1).toNat) ≤ 6)) := by have q_ := rm203; (try rw [z201] at q_); exact q_
            have K206c := K206
            have w207 : (m203 123 12).toInt = (m12 123 12).toInt := congrArg Int32.toInt (K206 123 12 rfl)
            have w208 : (m203 123 13).toInt = (m12 123 13).toInt := congrArg Int32.toInt (K206 123 13 rfl)
            have w209 : (m203 123 14).toInt = (m12 123 14).toInt := congrArg Int32.toInt (K206 123 14 rfl)
            have w210 : (m203 123 15).toInt = (m12 123 15).toInt := congrArg Int32.toInt (K206 123 15 rfl)
            have K206 := K15.trans (K206.sub (wl_sub (by decide)))
            show PV _ _ _ _ _ _ _ 41 [.ref 123, .int v2, .int v44] [] _
            have kC := rm203
            have kL := RLs.cls kg hp5 (by omega) kC.1 (K206c 123 12 rfl) (K206c 123 13 rfl)
            have kL2 := kL.2.2.2.2.1
            have kL3 := kL.2.2.2.1
            have kL4 := kL.2.1
            have kC14c : C14 m203 = C14 m12 := C14_csi kC.1
            have kOc : (m203 123 15).toInt = (m12 123 15).toInt := congrArg Int32.toInt (K206c 123 15 rfl)
            refine pv_aload_n (M := mX12_readsSum) 0 dX12_readsSum_41 42 rfl rfl rfl ?_
            refine mv_get (M := mX12_readsSum) (v := .ref 131) dX12_readsSum_42 FX12 22 wd1195 (by decide) (tl123 hT) rfl rfl 45 rfl ?_
            refine pv_aload_n (M := mX12_readsSum) 0 dX12_readsSum_45 46 rfl rfl rfl ?_
            refine iv_get (M := mX12_readsSum) (l1 := 0) (l2 := 180) dX12_readsSum_46 FX12 17 wd1190 (by decide) (tl123 hT) rfl I205 rfl 49 rfl (fun v218 ev218 pv218 qv218 => ?_)
            have wv218 : v218.toInt = (m203 123 17).toInt := congrArg Int32.toInt ev218
            refine pv_ldc (M := mX12_readsSum) (v := 1048576) dX12_readsSum_49 51 rfl wd1437 ?_
            refine pv_iload_n (M := mX12_readsSum) 2 dX12_readsSum_51 52 rfl rfl rfl ?_
            refine iv_imul (M := mX12_readsSum) (X := 1048576) (Y := v44.toInt) dX12_readsSum_52 53 rfl (by decide) rfl (by omega) (by omega) (fun v219 ev219 => ?_)
            have k53 : g14 v219 = 0 := by unfold g14 opv; rw [if_neg (by omega)]
            refine iv_iast (M := mX12_readsSum) (X := v218.toInt) (l1 := 0) (l2 := 15728639) dX12_readsSum_53 (tl131 hT) rfl (by omega) (by omega) I205 (fun _ => rfl) (by omega) (by omega) 54 rfl (fun m221 e224 I222 => ?_)
            have K223 := K206.set e224 rfl
            have w225 : (m221 123 12).toInt = (m203 123 12).toInt := by rw [e224, up2_ne (by omega)]
            have w226 : (m221 123 13).toInt = (m203 123 13).toInt := by rw [e224, up2_ne (by omega)]
            have w227 : (m221 123 16).toInt = (m203 123 16).toInt := by rw [e224, up2_ne (by omega)]
            have w228 : (m221 123 17).toInt = (m203 123 17).toInt := by rw [e224, up2_ne (by omega)]
            have w229 : (m221 123 14).toInt = (m203 123 14).toInt := by rw [e224, up2_ne (by omega)]
            have w230 : (m221 123 15).toInt = (m203 123 15).toInt := by rw [e224, up2_ne (by omega)]
            have k54 := (e224).trans (up2_ix (j := (m203 123 17).toInt.toNat) (by omega))
            refine pv_aload_n (M := mX12_readsSum) 0 dX12_readsSum_54 55 rfl rfl rfl ?_
            refine pv_aload_n (M := mX12_readsSum) 0 dX12_readsSum_55 56 rfl rfl rfl ?_
            refine iv_get (M := mX12_readsSum) (l1 := 0) (l2 := 180) dX12_readsSum_56 FX12 17 wd1190 (by decide) (tl123 hT) rfl I222 rfl 59 rfl (fun v232 ev232 pv232 qv232 => ?_)
            have wv232 : v232.toInt = (m221 123 17).toInt := congrArg Int32.toInt ev232
            refine pv_iconst (M := mX12_readsSum) (v := 1) dX12_readsSum_59 60 rfl (by decide) ?_
            refine iv_iadd (M := mX12_readsSum) (X := v232.toInt) (Y := 1) dX12_readsSum_60 61 rfl rfl (by decide) (by omega) (by omega) (fun v233 ev233 => ?_)
            refine iv_put (M := mX12_readsSum) (l1 := 0) (l2 := 180) dX12_readsSum_61 FX12 17 wd1190 (by decide) rfl (tl123 hT) rfl rfl rfl I222 rfl (by omega) (by omega) 64 rfl (fun m234 e237 I235 => ?_)
            have K236 := K223.set e237 rfl
            have w238 : (m234 123 12).toInt = (m221 123 12).toInt := by rw [e237, up2_ne (by omega)]
            have w239 : (m234 123 13).toInt = (m221 123 13).toInt := by rw [e237, up2_ne (by omega)]
            have w240 : (m234 123 16).toInt = (m221 123 16).toInt := by rw [e237, up2_ne (by omega)]
            have w241 : (m234 123 17).toInt = v233.toInt := by rw [e237, up2_eq]
            have w242 : (m234 123 14).toInt = (m221 123 14).toInt := by rw [e237, up2_ne (by omega)]
            have w243 : (m234 123 15).toInt = (m221 123 15).toInt := by rw [e237, up2_ne (by omega)]
            refine pv_aload_n (M := mX12_readsSum) 0 dX12_readsSum_64 65 rfl rfl rfl ?_
            refine pv_aload_n (M := mX12_readsSum) 0 dX12_readsSum_65 66 rfl rfl rfl ?_
            refine iv_get (M := mX12_readsSum) (l1 := 0) (l2 := 160) dX12_readsSum_66 FX12 12 wd1185 (by decide) (tl123 hT) rfl I235 rfl 69 rfl (fun v244 ev244 pv244 qv244 => ?_)
            have wv244 : v244.toInt = (m234 123 12).toInt := congrArg Int32.toInt ev244
            refine pv_iconst (M := mX12_readsSum) (v := 1) dX12_readsSum_69 70 rfl (by decide) ?_
            refine iv_iadd (M := mX12_readsSum) (X := v244.toInt) (Y := 1) dX12_readsSum_70 71 rfl rfl (by decide) (by omega) (by omega) (fun v245 ev245 => ?_)
            refine iv_put (M := mX12_readsSum) (l1 := 0) (l2 := 160) dX12_readsSum_71 FX12 12 wd1185 (by decide) rfl (tl123 hT) rfl rfl rfl I235 rfl (by omega) (by omega) 74 rfl (fun m246 e249 I247 => ?_)
            have K248 := K236.set e249 rfl
            have w250 : (m246 123 12).toInt = v245.toInt := by rw [e249, up2_eq]
            have w251 : (m246 123 13).toInt = (m234 123 13).toInt := by rw [e249, up2_ne (by omega)]
            have w252 : (m246 123 16).toInt = (m234 123 16).toInt := by rw [e249, up2_ne (by omega)]
            have w253 : (m246 123 17).toInt = (m234 123 17).toInt := by rw [e249, up2_ne (by omega)]
            have w254 : (m246 123 14).toInt = (m234 123 14).toInt := by rw [e249, up2_ne (by omega)]
            have w255 : (m246 123 15).toInt = (m234 123 15).toInt := by rw [e249, up2_ne (by omega)]
            have kS := RLs.sign (s := v44.toInt) kL (by omega) (by omega) (by omega) k54 (by omega) e237 (by omega) e249 (by omega) (by omega)
            have kS1 : HW cb c m246 := by have q := kS.1; rw [show c + 1 - 1 = c by omega] at q; exact q
            have kt74 : tR m246 = tR m := tR_eq (K248 123 13 rfl) (fun j => K248 129 j rfl)
            have kC14s := C14_push (m := m203) (m' := m246) (by omega) (fun j hj => by rw [e249, up2_ne (by omega), e237, up2_ne (by omega), k54, up2_ne (by omega)]) (by rw [e249, up2_ne (by omega), e237, up2_ne (by omega), k54, up2_f]) (by omega)
            rw [k53] at kC14s
            have kO74 : (m246 123 15).toInt = (m12 123 15).toInt := by rw [e249, up2_ne (by omega), e237, up2_ne (by omega), k54, up2_ne (by omega)]; exact kOc
            refine pv_aload_n (M := mX12_readsSum) 0 dX12_readsSum_74 75 rfl rfl rfl ?_
            refine pv_callv (M := mX12_readsSum) (as := []) (st := []) (kc2 := 0) (ks2 := 0) dX12_readsSum_75 wd1429 YX12_readsFactor ⟨wd1431, wd63⟩ (mk_get (tl123 hT)) rfl rfl (s_X12_readsFactor_vx g hT I247 cb c kS1 (by have := kS.2.1; omega) (by omega) (by omega) (by first | omega | assumption | exact (iv_rng _).2 | exact (iv_rng _).1 | decide) (by first | omega | assumption | exact (iv_rng _).2 | exact (iv_rng _).1 | decide)) rfl rfl (Nat.le_of_ble_eq_true rfl) (by decide) rfl rfl 78 rfl (fun rv h1 q262 => ?_)
            obtain ⟨m263, n264, v267, rfl, rfl, I265, K266, pv267, qv267, rv267⟩ := q262
            replace rv267 : (v267.toInt = 0 ∧ FPF (tR m246) (m246 123 15).toInt (m246 123 12).toInt (m263 123 14).toInt) ∨ (v267.toInt = 1 ∧ RLs cb (c + 1) m246 m263 ∧ FPR (tR m246) (m246 123 15).toInt (m246 123 12).toInt (m263 123 15).toInt (m263 123 12).toInt ∧ C14 m263 - C14 m246 = (m263 123 15).toInt - (m246 123 15).toInt) := rv267
            have K266c := K266
            have w268 : (m263 123 13).toInt = (m246 123 13).toInt := congrArg Int32.toInt (K266 123 13 rfl)
            have K266 := K248.trans (K266.sub (fun _ _ q => q))
            show PV _ _ _ _ _ _ _ 78 [.ref 123, .int v2, .int v44] [.int v267] _
            have kR2 := rv267
            rw [kt74] at kR2
            rw [kO74, show (m246 123 12).toInt = (m12 123 12).toInt + 1 by omega] at kR2
            refine pv_if_ne (M := mX12_readsSum) (tgt := 163) dX12_readsSum_78 81 rfl (by decide) (fun c272 => ?_) (fun c272 => ?_)
            · have c272 := iv_ne (X := v267.toInt) (Y := 0) c272 rfl (by decide)
              refine pv_goto (M := mX12_readsSum) (tgt := 14) dX12_readsSum_163 (by decide) ?_
              refine pv_fg (lo2 := [.ref 123, .int v2, pv_U]) ⟨Or.inr rfl, ⟨Or.inr rfl, ⟨Or.inl rfl, trivial⟩⟩⟩ ?_
              have krl : RLs cb (c + 1) m m263 := by first | exact kX | exact kS.trans (kR2.resolve_left (fun q => by have q1 := q.1; omega)).2.1
              have kbk : (m12 123 12).toInt + 1 ≤ (m263 123 12).toInt := by first | omega | (have := (kR2.resolve_left (fun q => by have q1 := q.1; omega)).2.1.2.2.2.2.2.2.2.1; omega)
              have kkb : KI (tR m) (m 123 15).toInt (m 123 12).toInt (m263 123 15).toInt (m263 123 12).toInt := by first | exact kKc | exact KI_sign kgk kTX (by omega) kSg (kR2.resolve_left (fun q => by have q1 := q.1; omega)).2.2.1
              have kcb : C14 m263 - C14 m = (m263 123 15).toInt - (m 123 15).toInt := by first | omega | (have q := (kR2.resolve_left (fun q => by have q1 := q.1; omega)).2.2.2; omega)
              exact ih18  m263 n264 (by first | omega | assumption | (show v2.toInt = (m 123 17).toInt; omega) | decide) krl kkb kcb I265 K266 (by omega)
            · have c272 := iv_eq (X := v267.toInt) (Y := 0) c272 rfl (by decide)
              refine pv_iconst (M := mX12_readsSum) (v := 0) dX12_readsSum_81 82 rfl (by decide) ?_
              have z277 : (0 : Int32).toInt = 0 := by decide
              exact pv_iret (M := mX12_readsSum) dX12_readsSum_82 rfl rfl ⟨_, _, _, rfl, rfl, I265, K266, by decide, by decide, (Or.inl ⟨by decide, KI_sfl kgk kTX (by omega) kSg (kR2.resolve_right (fun q => by have q1 := q.1; omega)).2⟩)⟩
          · have c200 := iv_nle (X := 4) (Y := v44.toInt) c200 (by decide) rfl
            refine pv_iconst (M := mX12_readsSum) (v := 1) dX12_readsSum_33 34 rfl (by decide) ?_
            refine pv_goto (M := mX12_readsSum) (tgt := 38) dX12_readsSum_34 (by decide) ?_
            have z278 : (1 : Int32).toInt = 1 := by decide
            refine pv_callv (M := mX12_readsSum) (as := [.int 1]) (st := []) (kc2 := 0) (ks2 := 0) dX12_readsSum_38 wd1456 YX12_closesSums ⟨wd1458, wd68⟩ (mk_get (tl123 hT)) rfl rfl (s_X12_closesSums g hT I14 1 (by decide) (by decide) cb (c + 1) kg.1 (by omega) (by have := kg.2.1; omega)) rfl rfl (Nat.le_of_ble_eq_true rfl) (by decide) rfl rfl 41 rfl (fun rv h1 q279 => ?_)
            obtain ⟨m280, n281, rfl, rfl, I282, K283, rm280⟩ := q279
            replace rm280 : CSI cb (c + 1) m12 m280 ∧ ((1 : Int) ≠ 0 → (m280 123 17).toInt = 0 ∨ ¬ (2 ≤ opv (m280 131 ((m280 123 17).toInt - 1).toNat) ∧ opv (m280 131 ((m280 123 17).toInt - 1).toNat) ≤ 6)) := by have q_ := rm280; (try rw [z278] at q_); exact q_
            have K283c := K283
            have w284 : (m280 123 12).toInt = (m12 123 12).toInt := congrArg Int32.toInt (K283 123 12 rfl)
            have w285 : (m280 123 13).toInt = (m12 123 13).toInt := congrArg Int32.toInt (K283 123 13 rfl)
            have w286 : (m280 123 14).toInt = (m12 123 14).toInt := congrArg Int32.toInt (K283 123 14 rfl)
            have w287 : (m280 123 15).toInt = (m12 123 15).toInt := congrArg Int32.toInt (K283 123 15 rfl)
            have K283 := K15.trans (K283.sub (wl_sub (by decide)))
            show PV _ _ _ _ _ _ _ 41 [.ref 123, .int v2, .int v44] [] _
            have kC := rm280
            have kL := RLs.cls kg hp5 (by omega) kC.1 (K283c 123 12 rfl) (K283c 123 13 rfl)
            have kL2 := kL.2.2.2.2.1
            have kL3 := kL.2.2.2.1
            have kL4 := kL.2.1
            have kC14c : C14 m280 = C14 m12 := C14_csi kC.1
            have kOc : (m280 123 15).toInt = (m12 123 15).toInt := congrArg Int32.toInt (K283c 123 15 rfl)
            refine pv_aload_n (M := mX12_readsSum) 0 dX12_readsSum_41 42 rfl rfl rfl ?_
            refine mv_get (M := mX12_readsSum) (v := .ref 131) dX12_readsSum_42 FX12 22 wd1195 (by decide) (tl123 hT) rfl rfl 45 rfl ?_
            refine pv_aload_n (M := mX12_readsSum) 0 dX12_readsSum_45 46 rfl rfl rfl ?_
            refine iv_get (M := mX12_readsSum) (l1 := 0) (l2 := 180) dX12_readsSum_46 FX12 17 wd1190 (by decide) (tl123 hT) rfl I282 rfl 49 rfl (fun v295 ev295 pv295 qv295 => ?_)
            have wv295 : v295.toInt = (m280 123 17).toInt := congrArg Int32.toInt ev295
            refine pv_ldc (M := mX12_readsSum) (v := 1048576) dX12_readsSum_49 51 rfl wd1437 ?_
            refine pv_iload_n (M := mX12_readsSum) 2 dX12_readsSum_51 52 rfl rfl rfl ?_
            refine iv_imul (M := mX12_readsSum) (X := 1048576) (Y := v44.toInt) dX12_readsSum_52 53 rfl (by decide) rfl (by omega) (by omega) (fun v296 ev296 => ?_)
            have k53 : g14 v296 = 0 := by unfold g14 opv; rw [if_neg (by omega)]
            refine iv_iast (M := mX12_readsSum) (X := v295.toInt) (l1 := 0) (l2 := 15728639) dX12_readsSum_53 (tl131 hT) rfl (by omega) (by omega) I282 (fun _ => rfl) (by omega) (by omega) 54 rfl (fun m298 e301 I299 => ?_)
            have K300 := K283.set e301 rfl
            have w302 : (m298 123 12).toInt = (m280 123 12).toInt := by rw [e301, up2_ne (by omega)]
            have w303 : (m298 123 13).toInt = (m280 123 13).toInt := by rw [e301, up2_ne (by omega)]
            have w304 : (m298 123 16).toInt = (m280 123 16).toInt := by rw [e301, up2_ne (by omega)]
            have w305 : (m298 123 17).toInt = (m280 123 17).toInt := by rw [e301, up2_ne (by omega)]
            have w306 : (m298 123 14).toInt = (m280 123 14).toInt := by rw [e301, up2_ne (by omega)]
            have w307 : (m298 123 15).toInt = (m280 123 15).toInt := by rw [e301, up2_ne (by omega)]
            have k54 := (e301).trans (up2_ix (j := (m280 123 17).toInt.toNat) (by omega))
            refine pv_aload_n (M := mX12_readsSum) 0 dX12_readsSum_54 55 rfl rfl rfl ?_
            refine pv_aload_n (M := mX12_readsSum) 0 dX12_readsSum_55 56 rfl rfl rfl ?_
            refine iv_get (M := mX12_readsSum) (l1 := 0) (l2 := 180) dX12_readsSum_56 FX12 17 wd1190 (by decide) (tl123 hT) rfl I299 rfl 59 rfl (fun v309 ev309 pv309 qv309 => ?_)
            have wv309 : v309.toInt = (m298 123 17).toInt := congrArg Int32.toInt ev309
            refine pv_iconst (M := mX12_readsSum) (v := 1) dX12_readsSum_59 60 rfl (by decide) ?_
            refine iv_iadd (M := mX12_readsSum) (X := v309.toInt) (Y := 1) dX12_readsSum_60 61 rfl rfl (by decide) (by omega) (by omega) (fun v310 ev310 => ?_)
            refine iv_put (M := mX12_readsSum) (l1 := 0) (l2 := 180) dX12_readsSum_61 FX12 17 wd1190 (by decide) rfl (tl123 hT) rfl rfl rfl I299 rfl (by omega) (by omega) 64 rfl (fun m311 e314 I312 => ?_)
            have K313 := K300.set e314 rfl
            have w315 : (m311 123 12).toInt = (m298 123 12).toInt := by rw [e314, up2_ne (by omega)]
            have w316 : (m311 123 13).toInt = (m298 123 13).toInt := by rw [e314, up2_ne (by omega)]
            have w317 : (m311 123 16).toInt = (m298 123 16).toInt := by rw [e314, up2_ne (by omega)]
            have w318 : (m311 123 17).toInt = v310.toInt := by rw [e314, up2_eq]
            have w319 : (m311 123 14).toInt = (m298 123 14).toInt := by rw [e314, up2_ne (by omega)]
            have w320 : (m311 123 15).toInt = (m298 123 15).toInt := by rw [e314, up2_ne (by omega)]
            refine pv_aload_n (M := mX12_readsSum) 0 dX12_readsSum_64 65 rfl rfl rfl ?_
            refine pv_aload_n (M := mX12_readsSum) 0 dX12_readsSum_65 66 rfl rfl rfl ?_
            refine iv_get (M := mX12_readsSum) (l1 := 0) (l2 := 160) dX12_readsSum_66 FX12 12 wd1185 (by decide) (tl123 hT) rfl I312 rfl 69 rfl (fun v321 ev321 pv321 qv321 => ?_)
            have wv321 : v321.toInt = (m311 123 12).toInt := congrArg Int32.toInt ev321
            refine pv_iconst (M := mX12_readsSum) (v := 1) dX12_readsSum_69 70 rfl (by decide) ?_
            refine iv_iadd (M := mX12_readsSum) (X := v321.toInt) (Y := 1) dX12_readsSum_70 71 rfl rfl (by decide) (by omega) (by omega) (fun v322 ev322 => ?_)
            refine iv_put (M := mX12_readsSum) (l1 := 0) (l2 := 160) dX12_readsSum_71 FX12 12 wd1185 (by decide) rfl (tl123 hT) rfl rfl rfl I312 rfl (by omega) (by omega) 74 rfl (fun m323 e326 I324 => ?_)
            have K325 := K313.set e326 rfl
            have w327 : (m323 123 12).toInt = v322.toInt := by rw [e326, up2_eq]
            have w328 : (m323 123 13).toInt = (m311 123 13).toInt := by rw [e326, up2_ne (by omega)]
            have w329 : (m323 123 16).toInt = (m311 123 16).toInt := by rw [e326, up2_ne (by omega)]
            have w330 : (m323 123 17).toInt = (m311 123 17).toInt := by rw [e326, up2_ne (by omega)]
            have w331 : (m323 123 14).toInt = (m311 123 14).toInt := by rw [e326, up2_ne (by omega)]
            have w332 : (m323 123 15).toInt = (m311 123 15).toInt := by rw [e326, up2_ne (by omega)]
            have kS := RLs.sign (s := v44.toInt) kL (by omega) (by omega) (by omega) k54 (by omega) e314 (by omega) e326 (by omega) (by omega)
            have kS1 : HW cb c m323 := by have q := kS.1; rw [show c + 1 - 1 = c by omega] at q; exact q
            have kt74 : tR m323 = tR m := tR_eq (K325 123 13 rfl) (fun j => K325 129 j rfl)
            have kC14s := C14_push (m := m280) (m' := m323) (by omega) (fun j hj => by rw [e326, up2_ne (by omega), e314, up2_ne (by omega), k54, up2_ne (by omega)]) (by rw [e326, up2_ne (by omega), e314, up2_ne (by omega), k54, up2_f]) (by omega)
            rw [k53] at kC14s
            have kO74 : (m323 123 15).toInt = (m12 123 15).toInt := by rw [e326, up2_ne (by omega), e314, up2_ne (by omega), k54, up2_ne (by omega)]; exact kOc
            refine pv_aload_n (M := mX12_readsSum) 0 dX12_readsSum_74 75 rfl rfl rfl ?_
            refine pv_callv (M := mX12_readsSum) (as := []) (st := []) (kc2 := 0) (ks2 := 0) dX12_readsSum_75 wd1429 YX12_readsFactor ⟨wd1431, wd63⟩ (mk_get (tl123 hT)) rfl rfl (s_X12_readsFactor_vx g hT I324 cb c kS1 (by have := kS.2.1; omega) (by omega) (by omega) (by first | omega | assumption | exact (iv_rng _).2 | exact (iv_rng _).1 | decide) (by first | omega | assumption | exact (iv_rng _).2 | exact (iv_rng _).1 | decide)) rfl rfl (Nat.le_of_ble_eq_true rfl) (by decide) rfl rfl 78 rfl (fun rv h1 q339 => ?_)
            obtain ⟨m340, n341, v344, rfl, rfl, I342, K343, pv344, qv344, rv344⟩ := q339
            replace rv344 : (v344.toInt = 0 ∧ FPF (tR m323) (m323 123 15).toInt (m323 123 12).toInt (m340 123 14).toInt) ∨ (v344.toInt = 1 ∧ RLs cb (c + 1) m323 m340 ∧ FPR (tR m323) (m323 123 15).toInt (m323 123 12).toInt (m340 123 15).toInt (m340 123 12).toInt ∧ C14 m340 - C14 m323 = (m340 123 15).toInt - (m323 123 15).toInt) := rv344
            have K343c := K343
            have w345 : (m340 123 13).toInt = (m323 123 13).toInt := congrArg Int32.toInt (K343 123 13 rfl)
            have K343 := K325.trans (K343.sub (fun _ _ q => q))
            show PV _ _ _ _ _ _ _ 78 [.ref 123, .int v2, .int v44] [.int v344] _
            have kR2 := rv344
            rw [kt74] at kR2
            rw [kO74, show (m323 123 12).toInt = (m12 123 12).toInt + 1 by omega] at kR2
            refine pv_if_ne (M := mX12_readsSum) (tgt := 163) dX12_readsSum_78 81 rfl (by decide) (fun c349 => ?_) (fun c349 => ?_)
            · have c349 := iv_ne (X := v344.toInt) (Y := 0) c349 rfl (by decide)
              refine pv_goto (M := mX12_readsSum) (tgt := 14) dX12_readsSum_163 (by decide) ?_
              refine pv_fg (lo2 := [.ref 123, .int v2, pv_U]) ⟨Or.inr rfl, ⟨Or.inr rfl, ⟨Or.inl rfl, trivial⟩⟩⟩ ?_
              have krl : RLs cb (c + 1) m m340 := by first | exact kX | exact kS.trans (kR2.resolve_left (fun q => by have q1 := q.1; omega)).2.1
              have kbk : (m12 123 12).toInt + 1 ≤ (m340 123 12).toInt := by first | omega | (have := (kR2.resolve_left (fun q => by have q1 := q.1; omega)).2.1.2.2.2.2.2.2.2.1; omega)
              have kkb : KI (tR m) (m 123 15).toInt (m 123 12).toInt (m340 123 15).toInt (m340 123 12).toInt := by first | exact kKc | exact KI_sign kgk kTX (by omega) kSg (kR2.resolve_left (fun q => by have q1 := q.1; omega)).2.2.1
              have kcb : C14 m340 - C14 m = (m340 123 15).toInt - (m 123 15).toInt := by first | omega | (have q := (kR2.resolve_left (fun q => by have q1 := q.1; omega)).2.2.2; omega)
              exact ih18  m340 n341 (by first | omega | assumption | (show v2.toInt = (m 123 17).toInt; omega) | decide) krl kkb kcb I342 K343 (by omega)
            · have c349 := iv_eq (X := v344.toInt) (Y := 0) c349 rfl (by decide)
              refine pv_iconst (M := mX12_readsSum) (v := 0) dX12_readsSum_81 82 rfl (by decide) ?_
              have z354 : (0 : Int32).toInt = 0 := by decide
              exact pv_iret (M := mX12_readsSum) dX12_readsSum_82 rfl rfl ⟨_, _, _, rfl, rfl, I342, K343, by decide, by decide, (Or.inl ⟨by decide, KI_sfl kgk kTX (by omega) kSg (kR2.resolve_right (fun q => by have q1 := q.1; omega)).2⟩)⟩
    have kr2 := (kR.resolve_left (fun q => by have q1 := q.1; omega)).2
    have kr0 := kr2.1
    have kk0 := KI_0 kr2.2.1
    have kc0 := kr2.2.2
    exact lp17 (((160 - (m4 123 12).toInt) : Int).toNat + 1)  m4 n5 (by first | omega | assumption | (show v2.toInt = (m 123 17).toInt; omega) | decide) kr0 kk0 kc0 I6 K7 (by omega)
  · have c11 := iv_eq (X := v8.toInt) (Y := 0) c11 rfl (by decide)
    refine pv_iconst (M := mX12_readsSum) (v := 0) dX12_readsSum_12 13 rfl (by decide) ?_
    have z359 : (0 : Int32).toInt = 0 := by decide
    exact pv_iret (M := mX12_readsSum) dX12_readsSum_13 rfl rfl ⟨_, _, _, rfl, rfl, I6, K7, by decide, by decide, (Or.inl ⟨by decide, KI_f0 (kR.resolve_right (fun q => by have q1 := q.1; omega)).2⟩)⟩
