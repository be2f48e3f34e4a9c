set_option maxHeartbeats 2000000 in
set_option maxRecDepth 20000 in
theorem s_J0_coder_7d493_vx (g : pv_G) {T : List mv_T} {m : Nat → Nat → Int32} {n : Nat → Nat → Int64} {r : Nat → Value} (hT : TX T) (I : IV BB m) : PM g mJ0_coder_7d493 yJ0_coder_7d493 (sqP (mk T m n r) 0 0 (fun v => True)) 1 0 0 [.retAddr (g.2.2.1 6 + 1)] (mk T m n r) := by
  have Kp : fr (wl []) m m := fr.rf
  refine PM.of 0 (lo := [.retAddr (g.2.2.1 6 + 1)]) rfl (by decide) rfl rfl (Nat.le_of_ble_eq_true rfl) ?_
  refine pv_gets (M := mJ0_coder_7d493) (v := 1) dJ0_coder_7d493_0 wd584 3 rfl ?_
  refine pv_if_eq (M := mJ0_coder_7d493) (tgt := 13) dJ0_coder_7d493_3 6 rfl (by decide) (fun q => absurd q (by decide)) (fun _ => ?_)
  refine pv_aloadS_n (M := mJ0_coder_7d493) 0 dJ0_coder_7d493_6 7 rfl rfl rfl ?_
  refine pv_getC (M := mJ0_coder_7d493) dJ0_coder_7d493_7 wd1799 10 rfl ?_
  refine pv_goto (M := mJ0_coder_7d493) (tgt := 14) dJ0_coder_7d493_10 (by decide) ?_
  exact pv_iret (M := mJ0_coder_7d493) dJ0_coder_7d493_14 rfl rfl ⟨_, rfl, rfl, by decide, by decide, trivial⟩

set_option maxHeartbeats 2000000 in
set_option maxRecDepth 20000 in
theorem s_J0_length_8abf5_vx (g : pv_G) {T : List mv_T} {m : Nat → Nat → Int32} {n : Nat → Nat → Int64} {r : Nat → Value} (hT : TX T) (I : IV BB m) : PM g mJ0_length_8abf5 yJ0_length_8abf5 (sqP (mk T m n r) 10 10 (fun v => True)) 2 0 0 [.retAddr (g.2.2.1 6 + 1)] (mk T m n r) := by
  have Kp : fr (wl []) m m := fr.rf
  refine PM.of 0 (lo := [.retAddr (g.2.2.1 6 + 1)]) rfl (by decide) rfl rfl (Nat.le_of_ble_eq_true rfl) ?_
  refine pv_aloadS_n (M := mJ0_length_8abf5) 0 dJ0_length_8abf5_0 1 rfl rfl rfl ?_
  refine pv_getV (M := mJ0_length_8abf5) dJ0_length_8abf5_1 wd1800 4 rfl ?_
  refine pv_strlen (M := mJ0_length_8abf5) dJ0_length_8abf5_4 5 rfl ?_
  refine pv_aloadS_n (M := mJ0_length_8abf5) 0 dJ0_length_8abf5_5 6 rfl rfl rfl ?_
  refine pv_callvS (M := mJ0_length_8abf5) (as := []) (st := [.int 10]) (kc2 := 0) (ks2 := 0) dJ0_length_8abf5_6 wd590 YJ0_coder_7d493 ⟨wd591, wd592⟩ rfl (s_J0_coder_7d493_vx g hT I) rfl rfl (Nat.le_of_ble_eq_true rfl) (by decide) rfl rfl 9 rfl (fun rv h1 q2 => ?_)
  obtain ⟨v3, rfl, rfl, pv3, qv3, rv3⟩ := q2
  show PV _ _ _ _ _ _ _ 9 [.retAddr (g.2.2.1 6 + 1)] [.int v3, .int 10] _
  have kc : v3 = 0 := Int32.toInt_inj.mp (by rw [Int32.toInt_zero]; omega)
  refine iv_shrU (M := mJ0_length_8abf5) dJ0_length_8abf5_9 10 rfl (fun v5 ev5 => ?_)
  have k10 : v5.toInt = 10 := by rw [ev5, kc]; decide
  exact pv_iret (M := mJ0_length_8abf5) dJ0_length_8abf5_10 rfl rfl ⟨_, rfl, rfl, by omega, by omega, trivial⟩

set_option maxHeartbeats 2000000 in
set_option maxRecDepth 20000 in
theorem s_X7_peek_vx (g : pv_G) {T : List mv_T} {m : Nat → Nat → Int32} {n : Nat → Nat → Int64} {r : Nat → Value} {la lb : Nat} (hT : TX T) (I : IV BB m) (R : RX T r la lb) : PM g mX7_peek yX7_peek (sqP (mk T m n r) (-2147483648) 2147483647 (fun v => v.toInt = tC m (m 86 3).toInt ∧ (v.toInt = -1 ∨ (m 86 3).toInt < (m 86 2).toInt))) 1 0 0 [.ref 86] (mk T m n r) := by
  have Kp : fr (wl []) m m := fr.rf
  have R0 := R
  have zR := R.2.2.2.2.1.1
  have zR2 := R.2.2.2.2.2.1
  have z8 : 0 ≤ (m 86 3).toInt ∧ (m 86 3).toInt ≤ 160 := I 86 3
  have z9 : 0 ≤ (m 86 2).toInt ∧ (m 86 2).toInt ≤ 160 := I 86 2
  refine PM.of 0 (lo := [.ref 86]) rfl (by decide) rfl rfl (Nat.le_of_ble_eq_true rfl) ?_
  refine pv_aload_n (M := mX7_peek) 0 dX7_peek_0 1 rfl rfl rfl ?_
  refine iv_get (M := mX7_peek) (l1 := 0) (l2 := 160) dX7_peek_1 FX7 3 wd283 (by decide) (tl86 hT) rfl I rfl 4 rfl (fun v1 ev1 pv1 qv1 => ?_)
  have wv1 : v1.toInt = (m 86 3).toInt := congrArg Int32.toInt ev1
  refine pv_aload_n (M := mX7_peek) 0 dX7_peek_4 5 rfl rfl rfl ?_
  refine iv_get (M := mX7_peek) (l1 := 0) (l2 := 160) dX7_peek_5 FX7 2 wd282 (by decide) (tl86 hT) rfl I rfl 8 rfl (fun v2 ev2 pv2 qv2 => ?_)
  have wv2 : v2.toInt = (m 86 2).toInt := congrArg Int32.toInt ev2
  refine pv_icmp_ge (M := mX7_peek) (tgt := 23) dX7_peek_8 11 rfl (by decide) (fun c3 => ?_) (fun c3 => ?_)
  · have c3 := iv_le (X := v2.toInt) (Y := v1.toInt) c3 rfl rfl
    refine pv_iconst (M := mX7_peek) (v := (-1)) dX7_peek_23 24 rfl (by decide) ?_
    have z4 : ((-1) : Int32).toInt = (-1) := by decide
    exact pv_iret (M := mX7_peek) dX7_peek_24 rfl rfl ⟨_, rfl, rfl, by decide, by decide, ⟨by unfold tC; rw [if_neg (by omega)]; decide, Or.inl (by decide)⟩⟩
  · have c3 := iv_nle (X := v2.toInt) (Y := v1.toInt) c3 rfl rfl
    refine pv_aload_n (M := mX7_peek) 0 dX7_peek_11 12 rfl rfl rfl ?_
    refine mv_get (M := mX7_peek) (v := .ref 87) dX7_peek_12 FX7 0 wd280 (by decide) (tl86 hT) rfl rfl 15 rfl ?_
    refine pv_aload_n (M := mX7_peek) 0 dX7_peek_15 16 rfl rfl rfl ?_
    refine iv_get (M := mX7_peek) (l1 := 0) (l2 := 160) dX7_peek_16 FX7 3 wd283 (by decide) (tl86 hT) rfl I rfl 19 rfl (fun v5 ev5 pv5 qv5 => ?_)
    have wv5 : v5.toInt = (m 86 3).toInt := congrArg Int32.toInt ev5
    refine iv_iald (M := mX7_peek) (X := v5.toInt) (l1 := (-2147483648)) (l2 := 2147483647) dX7_peek_19 (tl87 hT) rfl (by omega) (by omega) I (fun _ => rfl) 20 rfl (fun v6 ev6 pv6 qv6 => ?_)
    have k20 : v6.toInt = (m 87 (m 86 3).toInt.toNat).toInt := (congrArg Int32.toInt ev6).trans (congrArg (fun z => (m 87 z).toInt) (by omega))
    refine pv_goto (M := mX7_peek) (tgt := 24) dX7_peek_20 (by decide) ?_
    exact pv_iret (M := mX7_peek) dX7_peek_24 rfl rfl ⟨_, rfl, rfl, (iv_rng v6).1, (iv_rng v6).2, ⟨by unfold tC; rw [if_pos (by omega)]; exact k20, Or.inr (by omega)⟩⟩

set_option maxHeartbeats 2000000 in
set_option maxRecDepth 20000 in
theorem s_X7_digitAhead_vx (g : pv_G) {T : List mv_T} {m : Nat → Nat → Int32} {n : Nat → Nat → Int64} {r : Nat → Value} {la lb : Nat} (hT : TX T) (I : IV BB m) (R : RX T r la lb) : PM g mX7_digitAhead yX7_digitAhead (sqP (mk T m n r) 0 1 (fun v => (v = 0 ∨ ((m 86 3).toInt < (m 86 2).toInt ∧ 48 ≤ (m 87 (m 86 3).toInt.toNat).toInt ∧ (m 87 (m 86 3).toInt.toNat).toInt ≤ 57)) ∧ ((v.toInt = 1 ∧ dig (tC m (m 86 3).toInt) = true) ∨ (v.toInt = 0 ∧ dig (tC m (m 86 3).toInt) = false)))) 1 0 0 [.ref 86] (mk T m n r) := by
  have Kp : fr (wl []) m m := fr.rf
  have R0 := R
  have zR := R.2.2.2.2.1.1
  have zR2 := R.2.2.2.2.2.1
  have z16 : 0 ≤ (m 86 3).toInt ∧ (m 86 3).toInt ≤ 160 := I 86 3
  have z17 : 0 ≤ (m 86 2).toInt ∧ (m 86 2).toInt ≤ 160 := I 86 2
  refine PM.of 0 (lo := [.ref 86]) rfl (by decide) rfl rfl (Nat.le_of_ble_eq_true rfl) ?_
  refine pv_aload_n (M := mX7_digitAhead) 0 dX7_digitAhead_0 1 rfl rfl rfl ?_
  refine iv_get (M := mX7_digitAhead) (l1 := 0) (l2 := 160) dX7_digitAhead_1 FX7 3 wd283 (by decide) (tl86 hT) rfl I rfl 4 rfl (fun v1 ev1 pv1 qv1 => ?_)
  have wv1 : v1.toInt = (m 86 3).toInt := congrArg Int32.toInt ev1
  refine pv_aload_n (M := mX7_digitAhead) 0 dX7_digitAhead_4 5 rfl rfl rfl ?_
  refine iv_get (M := mX7_digitAhead) (l1 := 0) (l2 := 160) dX7_digitAhead_5 FX7 2 wd282 (by decide) (tl86 hT) rfl I rfl 8 rfl (fun v2 ev2 pv2 qv2 => ?_)
  have wv2 : v2.toInt = (m 86 2).toInt := congrArg Int32.toInt ev2
  refine pv_icmp_ge (M := mX7_digitAhead) (tgt := 43) dX7_digitAhead_8 11 rfl (by decide) (fun c3 => ?_) (fun c3 => ?_)
  · have c3 := iv_le (X := v2.toInt) (Y := v1.toInt) c3 rfl rfl
    refine pv_iconst (M := mX7_digitAhead) (v := 0) dX7_digitAhead_43 44 rfl (by decide) ?_
    have z4 : (0 : Int32).toInt = 0 := by decide
    exact pv_iret (M := mX7_digitAhead) dX7_digitAhead_44 rfl rfl ⟨_, rfl, rfl, by decide, by decide, ⟨Or.inl rfl, Or.inr ⟨by decide, by first | (unfold tC; rw [if_neg (by omega)]; decide) | (unfold tC; rw [if_pos (by omega)]; exact dig_no (by omega))⟩⟩⟩
  · have c3 := iv_nle (X := v2.toInt) (Y := v1.toInt) c3 rfl rfl
    refine pv_aload_n (M := mX7_digitAhead) 0 dX7_digitAhead_11 12 rfl rfl rfl ?_
    refine mv_get (M := mX7_digitAhead) (v := .ref 87) dX7_digitAhead_12 FX7 0 wd280 (by decide) (tl86 hT) rfl rfl 15 rfl ?_
    refine pv_aload_n (M := mX7_digitAhead) 0 dX7_digitAhead_15 16 rfl rfl rfl ?_
    refine iv_get (M := mX7_digitAhead) (l1 := 0) (l2 := 160) dX7_digitAhead_16 FX7 3 wd283 (by decide) (tl86 hT) rfl I rfl 19 rfl (fun v5 ev5 pv5 qv5 => ?_)
    have wv5 : v5.toInt = (m 86 3).toInt := congrArg Int32.toInt ev5
    refine iv_iald (M := mX7_digitAhead) (X := v5.toInt) (l1 := (-2147483648)) (l2 := 2147483647) dX7_digitAhead_19 (tl87 hT) rfl (by omega) (by omega) I (fun _ => rfl) 20 rfl (fun v6 ev6 pv6 qv6 => ?_)
    have k19 : v6.toInt = (m 87 (m 86 3).toInt.toNat).toInt := (congrArg Int32.toInt ev6).trans (congrArg (fun z => (m 87 z).toInt) (by omega))
    refine pv_bipush (M := mX7_digitAhead) (v := 48) dX7_digitAhead_20 22 rfl (by decide) ?_
    refine pv_icmp_lt (M := mX7_digitAhead) (tgt := 43) dX7_digitAhead_22 25 rfl (by decide) (fun c8 => ?_) (fun c8 => ?_)
    · have c8 := iv_lt (X := v6.toInt) (Y := 48) c8 rfl (by decide)
      refine pv_iconst (M := mX7_digitAhead) (v := 0) dX7_digitAhead_43 44 rfl (by decide) ?_
      have z9 : (0 : Int32).toInt = 0 := by decide
      exact pv_iret (M := mX7_digitAhead) dX7_digitAhead_44 rfl rfl ⟨_, rfl, rfl, by decide, by decide, ⟨Or.inl rfl, Or.inr ⟨by decide, by first | (unfold tC; rw [if_neg (by omega)]; decide) | (unfold tC; rw [if_pos (by omega)]; exact dig_no (by omega))⟩⟩⟩
    · have c8 := iv_nlt (X := v6.toInt) (Y := 48) c8 rfl (by decide)
      refine pv_aload_n (M := mX7_digitAhead) 0 dX7_digitAhead_25 26 rfl rfl rfl ?_
      refine mv_get (M := mX7_digitAhead) (v := .ref 87) dX7_digitAhead_26 FX7 0 wd280 (by decide) (tl86 hT) rfl rfl 29 rfl ?_
      refine pv_aload_n (M := mX7_digitAhead) 0 dX7_digitAhead_29 30 rfl rfl rfl ?_
      refine iv_get (M := mX7_digitAhead) (l1 := 0) (l2 := 160) dX7_digitAhead_30 FX7 3 wd283 (by decide) (tl86 hT) rfl I rfl 33 rfl (fun v10 ev10 pv10 qv10 => ?_)
      have wv10 : v10.toInt = (m 86 3).toInt := congrArg Int32.toInt ev10
      refine iv_iald (M := mX7_digitAhead) (X := v10.toInt) (l1 := (-2147483648)) (l2 := 2147483647) dX7_digitAhead_33 (tl87 hT) rfl (by omega) (by omega) I (fun _ => rfl) 34 rfl (fun v11 ev11 pv11 qv11 => ?_)
      have k33 : v11.toInt = (m 87 (m 86 3).toInt.toNat).toInt := (congrArg Int32.toInt ev11).trans (congrArg (fun z => (m 87 z).toInt) (by omega))
      refine pv_bipush (M := mX7_digitAhead) (v := 57) dX7_digitAhead_34 36 rfl (by decide) ?_
      refine pv_icmp_gt (M := mX7_digitAhead) (tgt := 43) dX7_digitAhead_36 39 rfl (by decide) (fun c13 => ?_) (fun c13 => ?_)
      · have c13 := iv_lt (X := 57) (Y := v11.toInt) c13 (by decide) rfl
        refine pv_iconst (M := mX7_digitAhead) (v := 0) dX7_digitAhead_43 44 rfl (by decide) ?_
        have z14 : (0 : Int32).toInt = 0 := by decide
        exact pv_iret (M := mX7_digitAhead) dX7_digitAhead_44 rfl rfl ⟨_, rfl, rfl, by decide, by decide, ⟨Or.inl rfl, Or.inr ⟨by decide, by first | (unfold tC; rw [if_neg (by omega)]; decide) | (unfold tC; rw [if_pos (by omega)]; exact dig_no (by omega))⟩⟩⟩
      · have c13 := iv_nlt (X := 57) (Y := v11.toInt) c13 (by decide) rfl
        refine pv_iconst (M := mX7_digitAhead) (v := 1) dX7_digitAhead_39 40 rfl (by decide) ?_
        refine pv_goto (M := mX7_digitAhead) (tgt := 44) dX7_digitAhead_40 (by decide) ?_
        have z15 : (1 : Int32).toInt = 1 := by decide
        exact pv_iret (M := mX7_digitAhead) dX7_digitAhead_44 rfl rfl ⟨_, rfl, rfl, by decide, by decide, ⟨Or.inr (by omega), Or.inl ⟨by decide, by unfold tC; rw [if_pos (by omega)]; exact dig_y (by omega) (by omega)⟩⟩⟩

set_option maxHeartbeats 2000000 in
set_option maxRecDepth 20000 in
theorem s_X7_timesAhead_vx (g : pv_G) {T : List mv_T} {m : Nat → Nat → Int32} {n : Nat → Nat → Int64} {r : Nat → Value} {la lb : Nat} (hT : TX T) (I : IV BB m) (R : RX T r la lb) : PM g mX7_timesAhead yX7_timesAhead (sqP (mk T m n r) 0 1 (fun v => (v = 0 ∨ (m 86 3).toInt < (m 86 2).toInt) ∧ ((v.toInt = 1 ∧ isT (tC m (m 86 3).toInt) = true) ∨ (v.toInt = 0 ∧ isT (tC m (m 86 3).toInt) = false)))) 2 0 0 [.ref 86] (mk T m n r) := by
  have Kp : fr (wl []) m m := fr.rf
  have R0 := R
  have zR := R.2.2.2.2.1.1
  have zR2 := R.2.2.2.2.2.1
  refine PM.of 1 (lo := [.ref 86, pv_U]) rfl (by decide) rfl rfl (Nat.le_of_ble_eq_true rfl) ?_
  refine pv_aload_n (M := mX7_timesAhead) 0 dX7_timesAhead_0 1 rfl rfl rfl ?_
  refine pv_callv (M := mX7_timesAhead) (as := []) (st := []) (kc2 := 0) (ks2 := 0) dX7_timesAhead_1 wd527 YX7_peek ⟨wd529, wd2⟩ (mk_get (tl86 hT)) rfl rfl (s_X7_peek_vx g hT I R) rfl rfl (Nat.le_of_ble_eq_true rfl) (by decide) rfl rfl 4 rfl (fun rv h1 q1 => ?_)
  obtain ⟨v2, rfl, rfl, pv2, qv2, rv2⟩ := q1
  replace rv2 : v2.toInt = tC m (m 86 3).toInt ∧ (v2.toInt = -1 ∨ (m 86 3).toInt < (m 86 2).toInt) := rv2
  show PV _ _ _ _ _ _ _ 4 [.ref 86, pv_U] [.int v2] _
  have k4 := rv2.1
  have k4b := rv2.2
  refine pv_istore_n (M := mX7_timesAhead) 1 (lo2 := [.ref 86, .int v2]) dX7_timesAhead_4 5 rfl rfl (by decide) rfl rfl ?_
  refine pv_iload_n (M := mX7_timesAhead) 1 dX7_timesAhead_5 6 rfl rfl rfl ?_
  refine pv_bipush (M := mX7_timesAhead) (v := 42) dX7_timesAhead_6 8 rfl (by decide) ?_
  refine pv_icmp_eq (M := mX7_timesAhead) (tgt := 23) dX7_timesAhead_8 11 rfl (by decide) (fun c5 => ?_) (fun c5 => ?_)
  · have c5 := iv_eq (X := v2.toInt) (Y := 42) c5 rfl (by decide)
    refine pv_iconst (M := mX7_timesAhead) (v := 1) dX7_timesAhead_23 24 rfl (by decide) ?_
    refine pv_goto (M := mX7_timesAhead) (tgt := 28) dX7_timesAhead_24 (by decide) ?_
    have z6 : (1 : Int32).toInt = 1 := by decide
    exact pv_iret (M := mX7_timesAhead) dX7_timesAhead_28 rfl rfl ⟨_, rfl, rfl, by decide, by decide, ⟨Or.inr (by omega), Or.inl ⟨by decide, by rw [← k4]; exact isT_y (by omega)⟩⟩⟩
  · have c5 := iv_ne (X := v2.toInt) (Y := 42) c5 rfl (by decide)
    refine pv_iload_n (M := mX7_timesAhead) 1 dX7_timesAhead_11 12 rfl rfl rfl ?_
    refine pv_bipush (M := mX7_timesAhead) (v := 47) dX7_timesAhead_12 14 rfl (by decide) ?_
    refine pv_icmp_eq (M := mX7_timesAhead) (tgt := 23) dX7_timesAhead_14 17 rfl (by decide) (fun c7 => ?_) (fun c7 => ?_)
    · have c7 := iv_eq (X := v2.toInt) (Y := 47) c7 rfl (by decide)
      refine pv_iconst (M := mX7_timesAhead) (v := 1) dX7_timesAhead_23 24 rfl (by decide) ?_
      refine pv_goto (M := mX7_timesAhead) (tgt := 28) dX7_timesAhead_24 (by decide) ?_
      have z8 : (1 : Int32).toInt = 1 := by decide
      exact pv_iret (M := mX7_timesAhead) dX7_timesAhead_28 rfl rfl ⟨_, rfl, rfl, by decide, by decide, ⟨Or.inr (by omega), Or.inl ⟨by decide, by rw [← k4]; exact isT_y (by omega)⟩⟩⟩
    · have c7 := iv_ne (X := v2.toInt) (Y := 47) c7 rfl (by decide)
      refine pv_iload_n (M := mX7_timesAhead) 1 dX7_timesAhead_17 18 rfl rfl rfl ?_
      refine pv_bipush (M := mX7_timesAhead) (v := 37) dX7_timesAhead_18 20 rfl (by decide) ?_
      refine pv_icmp_ne (M := mX7_timesAhead) (tgt := 27) dX7_timesAhead_20 23 rfl (by decide) (fun c9 => ?_) (fun c9 => ?_)
      · have c9 := iv_ne (X := v2.toInt) (Y := 37) c9 rfl (by decide)
        refine pv_iconst (M := mX7_timesAhead) (v := 0) dX7_timesAhead_27 28 rfl (by decide) ?_
        have z10 : (0 : Int32).toInt = 0 := by decide
        exact pv_iret (M := mX7_timesAhead) dX7_timesAhead_28 rfl rfl ⟨_, rfl, rfl, by decide, by decide, ⟨Or.inl rfl, Or.inr ⟨by decide, by rw [← k4]; exact isT_no (by omega) (by omega) (by omega)⟩⟩⟩
      · have c9 := iv_eq (X := v2.toInt) (Y := 37) c9 rfl (by decide)
        refine pv_iconst (M := mX7_timesAhead) (v := 1) dX7_timesAhead_23 24 rfl (by decide) ?_
        refine pv_goto (M := mX7_timesAhead) (tgt := 28) dX7_timesAhead_24 (by decide) ?_
        have z11 : (1 : Int32).toInt = 1 := by decide
        exact pv_iret (M := mX7_timesAhead) dX7_timesAhead_28 rfl rfl ⟨_, rfl, rfl, by decide, by decide, ⟨Or.inr (by omega), Or.inl ⟨by decide, by rw [← k4]; exact isT_y (by omega)⟩⟩⟩

set_option maxHeartbeats 2000000 in
set_option maxRecDepth 20000 in
theorem s_J1_canEncode_9a6ad_vx (g : pv_G) {T : List mv_T} {m : Nat → Nat → Int32} {n : Nat → Nat → Int64} {r : Nat → Value} (hT : TX T) (I : IV BB m) (x0 : Int32) (hl0 : 0 ≤ x0.toInt) (hh0 : x0.toInt ≤ 255) : PM g mJ1_canEncode_9a6ad yJ1_canEncode_9a6ad (sqP (mk T m n r) 0 1 (fun v => v.toInt = 1)) 1 0 0 [.int x0] (mk T m n r) := by
  have Kp : fr (wl []) m m := fr.rf
  refine PM.of 0 (lo := [.int x0]) rfl (by decide) rfl rfl (Nat.le_of_ble_eq_true rfl) ?_
  refine pv_iload_n (M := mJ1_canEncode_9a6ad) 0 dJ1_canEncode_9a6ad_0 1 rfl rfl rfl ?_
  refine pv_if_lt (M := mJ1_canEncode_9a6ad) (tgt := 15) dJ1_canEncode_9a6ad_1 4 rfl (by decide) (fun c1 => ?_) (fun c1 => ?_)
  · have c1 := iv_lt (X := x0.toInt) (Y := 0) c1 rfl (by decide)
    omega
  · have c1 := iv_nlt (X := x0.toInt) (Y := 0) c1 rfl (by decide)
    refine pv_iload_n (M := mJ1_canEncode_9a6ad) 0 dJ1_canEncode_9a6ad_4 5 rfl rfl rfl ?_
    refine pv_sipush (M := mJ1_canEncode_9a6ad) (v := 255) dJ1_canEncode_9a6ad_5 8 rfl (by decide) ?_
    refine pv_icmp_gt (M := mJ1_canEncode_9a6ad) (tgt := 15) dJ1_canEncode_9a6ad_8 11 rfl (by decide) (fun c2 => ?_) (fun c2 => ?_)
    · have c2 := iv_lt (X := 255) (Y := x0.toInt) c2 (by decide) rfl
      omega
    · have c2 := iv_nlt (X := 255) (Y := x0.toInt) c2 (by decide) rfl
      refine pv_iconst (M := mJ1_canEncode_9a6ad) (v := 1) dJ1_canEncode_9a6ad_11 12 rfl (by decide) ?_
      refine pv_goto (M := mJ1_canEncode_9a6ad) (tgt := 16) dJ1_canEncode_9a6ad_12 (by decide) ?_
      have z3 : (1 : Int32).toInt = 1 := by decide
      exact pv_iret (M := mJ1_canEncode_9a6ad) dJ1_canEncode_9a6ad_16 rfl rfl ⟨_, rfl, rfl, by decide, by decide, (by decide)⟩

set_option maxHeartbeats 2000000 in
set_option maxRecDepth 20000 in
theorem s_J1_indexOfChar_4cfef_vx (g : pv_G) {T : List mv_T} {m : Nat → Nat → Int32} {n : Nat → Nat → Int64} {r : Nat → Value} (hT : TX T) (I : IV BB m) (x1 : Int32) (hl1 : 0 ≤ x1.toInt) (hh1 : x1.toInt ≤ 255) (x2 : Int32) (hl2 : 0 ≤ x2.toInt) (hh2 : x2.toInt ≤ 0) (x3 : Int32) (hl3 : 10 ≤ x3.toInt) (hh3 : x3.toInt ≤ 10) : PM g mJ1_indexOfChar_4cfef yJ1_indexOfChar_4cfef (sqP (mk T m n r) (-1) 9 (fun v => v.toInt = nix x1.toInt)) 1 0 0 [.retAddr (g.2.2.1 7 + 1), .int x1, .int x2, .int x3] (mk T m n r) := by
  have Kp : fr (wl []) m m := fr.rf
  refine PM.of 2 (lo := [.retAddr (g.2.2.1 7 + 1), .int x1, .int x2, .int x3, pv_U, pv_U]) rfl (by decide) rfl rfl (Nat.le_of_ble_eq_true rfl) ?_
  refine pv_iload_n (M := mJ1_indexOfChar_4cfef) 1 dJ1_indexOfChar_4cfef_0 1 rfl rfl rfl ?_
  refine iv_i2b (M := mJ1_indexOfChar_4cfef) dJ1_indexOfChar_4cfef_1 2 rfl (fun v1 ev1 pv1 qv1 => ?_)
  have k2 := ev1
  refine pv_istore (M := mJ1_indexOfChar_4cfef) (lo2 := [.retAddr (g.2.2.1 7 + 1), .int x1, .int x2, .int x3, .int v1, pv_U]) dJ1_indexOfChar_4cfef_2 4 rfl (by decide) rfl rfl ?_
  refine pv_iload_n (M := mJ1_indexOfChar_4cfef) 2 dJ1_indexOfChar_4cfef_4 5 rfl rfl rfl ?_
  refine pv_istore (M := mJ1_indexOfChar_4cfef) (lo2 := [.retAddr (g.2.2.1 7 + 1), .int x1, .int x2, .int x3, .int v1, .int x2]) dJ1_indexOfChar_4cfef_5 7 rfl (by decide) rfl rfl ?_
  have lp9 : ∀ (fuel8 : Nat) (y3 : Int32), (0 ≤ y3.toInt) → (y3.toInt ≤ 10) → (∀ j : Nat, (j : Int) < y3.toInt → (sby j).toInt ≠ x1.toInt) → ((10 - y3.toInt) : Int).toNat < fuel8 → PV none g mJ1_indexOfChar_4cfef (sqP (mk T m n r) (-1) 9 (fun v => v.toInt = nix x1.toInt)) 1 0 0 7 [.retAddr (g.2.2.1 7 + 1), .int x1, .int x2, .int x3, .int v1, .int y3] [] (mk T m n r) := by
    intro fuel8
    induction fuel8 with
    | zero => intro y3 b11 b12 b13 z14; omega
    | succ fuel8 ih10 =>
      intro y3 b11 b12 b13 z14
      have kg := (show ∀ j : Nat, (j : Int) < y3.toInt → (sby j).toInt ≠ x1.toInt by assumption)
      refine pv_iload (M := mJ1_indexOfChar_4cfef) dJ1_indexOfChar_4cfef_7 9 rfl rfl ?_
      refine pv_iload_n (M := mJ1_indexOfChar_4cfef) 3 dJ1_indexOfChar_4cfef_9 10 rfl rfl rfl ?_
      refine pv_icmp_ge (M := mJ1_indexOfChar_4cfef) (tgt := 31) dJ1_indexOfChar_4cfef_10 13 rfl (by decide) (fun c16 => ?_) (fun c16 => ?_)
      · have c16 := iv_le (X := x3.toInt) (Y := y3.toInt) c16 rfl rfl
        refine pv_iconst (M := mJ1_indexOfChar_4cfef) (v := (-1)) dJ1_indexOfChar_4cfef_31 32 rfl (by decide) ?_
        have z17 : ((-1) : Int32).toInt = (-1) := by decide
        exact pv_iret (M := mJ1_indexOfChar_4cfef) dJ1_indexOfChar_4cfef_32 rfl rfl ⟨_, rfl, rfl, by decide, by decide, (by rw [nix_none (fun j hj => kg j (by omega))]; show (-1 : Int32).toInt = -1; decide)⟩
      · have c16 := iv_nle (X := x3.toInt) (Y := y3.toInt) c16 rfl rfl
        refine pv_aloadS_n (M := mJ1_indexOfChar_4cfef) 0 dJ1_indexOfChar_4cfef_13 14 rfl rfl rfl ?_
        refine pv_iload (M := mJ1_indexOfChar_4cfef) dJ1_indexOfChar_4cfef_14 16 rfl rfl ?_
        refine pv_strldx (M := mJ1_indexOfChar_4cfef) (X := y3.toInt) dJ1_indexOfChar_4cfef_16 rfl (by omega) (by omega) 17 rfl (fun v18 ev18 => ?_)
        have k17 := ev18
        refine pv_iload (M := mJ1_indexOfChar_4cfef) dJ1_indexOfChar_4cfef_17 19 rfl rfl ?_
        have k19 : (v18.toInt = v1.toInt) ↔ ((sby y3.toInt.toNat).toInt = x1.toInt) := by rw [k17]; exact i2b_eq k2 (by omega) (by omega) (by omega)
        refine pv_icmp_ne (M := mJ1_indexOfChar_4cfef) (tgt := 25) dJ1_indexOfChar_4cfef_19 22 rfl (by decide) (fun c21 => ?_) (fun c21 => ?_)
        · have c21 := iv_ne (X := v18.toInt) (Y := v1.toInt) c21 rfl rfl
          refine iv_inc (M := mJ1_indexOfChar_4cfef) (C := 1) dJ1_indexOfChar_4cfef_25 28 rfl rfl (by decide) rfl rfl (by decide) (by omega) (by omega) (fun v22 ev22 => ?_)
          show PV _ _ _ _ _ _ _ 28 [.retAddr (g.2.2.1 7 + 1), .int x1, .int x2, .int x3, .int v1, .int v22] [] _
          refine pv_goto (M := mJ1_indexOfChar_4cfef) (tgt := 7) dJ1_indexOfChar_4cfef_28 (by decide) ?_
          have kb : ∀ j : Nat, (j : Int) < v22.toInt → (sby j).toInt ≠ x1.toInt := fun j hj => if z : (j : Int) = y3.toInt then (by rw [show j = (y3.toInt).toNat by omega]; exact fun q => absurd (k19.mpr q) (by omega)) else kg j (by omega)
          exact ih10 v22 (by first | omega | assumption | exact (iv_rng _).2 | exact (iv_rng _).1 | decide) (by first | omega | assumption | exact (iv_rng _).2 | exact (iv_rng _).1 | decide) kb (by omega)
        · have c21 := iv_eq (X := v18.toInt) (Y := v1.toInt) c21 rfl rfl
          refine pv_iload (M := mJ1_indexOfChar_4cfef) dJ1_indexOfChar_4cfef_22 24 rfl rfl ?_
          exact pv_iret (M := mJ1_indexOfChar_4cfef) dJ1_indexOfChar_4cfef_24 rfl rfl ⟨_, rfl, rfl, by omega, by omega, (by rw [nix_at (j := y3.toInt.toNat) (by omega) (k19.mp (by omega))]; omega)⟩
  exact lp9 (((10 - x2.toInt) : Int).toNat + 1) x2 (by first | omega | assumption | exact (iv_rng _).2 | exact (iv_rng _).1 | decide) (by first | omega | assumption | exact (iv_rng _).2 | exact (iv_rng _).1 | decide) (fun j hj => by exfalso; omega) (by omega)

set_option maxHeartbeats 2000000 in
set_option maxRecDepth 20000 in
theorem s_J1_indexOf_4cfef_vx (g : pv_G) {T : List mv_T} {m : Nat → Nat → Int32} {n : Nat → Nat → Int64} {r : Nat → Value} (hT : TX T) (I : IV BB m) (x1 : Int32) (hl1 : 0 ≤ x1.toInt) (hh1 : x1.toInt ≤ 255) (x2 : Int32) (hl2 : 0 ≤ x2.toInt) (hh2 : x2.toInt ≤ 0) (x3 : Int32) (hl3 : 10 ≤ x3.toInt) (hh3 : x3.toInt ≤ 10) : PM g mJ1_indexOf_4cfef yJ1_indexOf_4cfef (sqP (mk T m n r) (-1) 9 (fun v => v.toInt = nix x1.toInt)) 2 0 0 [.retAddr (g.2.2.1 7 + 1), .int x1, .int x2, .int x3] (mk T m n r) := by
  have Kp : fr (wl []) m m := fr.rf
  refine PM.of 0 (lo := [.retAddr (g.2.2.1 7 + 1), .int x1, .int x2, .int x3]) rfl (by decide) rfl rfl (Nat.le_of_ble_eq_true rfl) ?_
  refine pv_iload_n (M := mJ1_indexOf_4cfef) 1 dJ1_indexOf_4cfef_0 1 rfl rfl rfl ?_
  refine pv_calls (M := mJ1_indexOf_4cfef) (as := [.int x1]) (st := []) (kc2 := 0) (ks2 := 0) dJ1_indexOf_4cfef_1 wd597 YJ1_canEncode_9a6ad wd598 (s_J1_canEncode_9a6ad_vx g hT I x1 (by omega) (by omega)) rfl rfl (Nat.le_of_ble_eq_true rfl) (by decide) rfl rfl 4 rfl (fun rv h1 q1 => ?_)
  obtain ⟨v2, rfl, rfl, pv2, qv2, rv2⟩ := q1
  replace rv2 : v2.toInt = 1 := rv2
  show PV _ _ _ _ _ _ _ 4 [.retAddr (g.2.2.1 7 + 1), .int x1, .int x2, .int x3] [.int v2] _
  refine pv_if_ne (M := mJ1_indexOf_4cfef) (tgt := 9) dJ1_indexOf_4cfef_4 7 rfl (by decide) (fun c3 => ?_) (fun c3 => ?_)
  · have c3 := iv_ne (X := v2.toInt) (Y := 0) c3 rfl (by decide)
    refine pv_iload_n (M := mJ1_indexOf_4cfef) 2 dJ1_indexOf_4cfef_9 10 rfl rfl rfl ?_
    refine pv_iconst (M := mJ1_indexOf_4cfef) (v := 0) dJ1_indexOf_4cfef_10 11 rfl (by decide) ?_
    refine iv_max (M := mJ1_indexOf_4cfef) (X := x2.toInt) (Y := 0) dJ1_indexOf_4cfef_11 wd600 Wmmax (Nat.le_of_ble_eq_true rfl) (by decide) rfl (by decide) 14 rfl (fun v4 ev4 fv4 gv4 => ?_)
    refine pv_istore_n (M := mJ1_indexOf_4cfef) 2 (lo2 := [.retAddr (g.2.2.1 7 + 1), .int x1, .int v4, .int x3]) dJ1_indexOf_4cfef_14 15 rfl rfl (by decide) rfl rfl ?_
    refine pv_iload_n (M := mJ1_indexOf_4cfef) 3 dJ1_indexOf_4cfef_15 16 rfl rfl rfl ?_
    refine pv_aloadS_n (M := mJ1_indexOf_4cfef) 0 dJ1_indexOf_4cfef_16 17 rfl rfl rfl ?_
    refine pv_strlen (M := mJ1_indexOf_4cfef) dJ1_indexOf_4cfef_17 18 rfl ?_
    refine iv_min (M := mJ1_indexOf_4cfef) (X := x3.toInt) (Y := 10) dJ1_indexOf_4cfef_18 wd601 Wmmin (Nat.le_of_ble_eq_true rfl) (by decide) rfl (by decide) 21 rfl (fun v6 ev6 fv6 gv6 => ?_)
    refine pv_istore_n (M := mJ1_indexOf_4cfef) 3 (lo2 := [.retAddr (g.2.2.1 7 + 1), .int x1, .int v4, .int v6]) dJ1_indexOf_4cfef_21 22 rfl rfl (by decide) rfl rfl ?_
    refine pv_iload_n (M := mJ1_indexOf_4cfef) 2 dJ1_indexOf_4cfef_22 23 rfl rfl rfl ?_
    refine pv_iload_n (M := mJ1_indexOf_4cfef) 3 dJ1_indexOf_4cfef_23 24 rfl rfl rfl ?_
    refine pv_icmp_lt (M := mJ1_indexOf_4cfef) (tgt := 29) dJ1_indexOf_4cfef_24 27 rfl (by decide) (fun c7 => ?_) (fun c7 => ?_)
    · have c7 := iv_lt (X := v4.toInt) (Y := v6.toInt) c7 rfl rfl
      refine pv_aloadS_n (M := mJ1_indexOf_4cfef) 0 dJ1_indexOf_4cfef_29 30 rfl rfl rfl ?_
      refine pv_iload_n (M := mJ1_indexOf_4cfef) 1 dJ1_indexOf_4cfef_30 31 rfl rfl rfl ?_
      refine pv_iload_n (M := mJ1_indexOf_4cfef) 2 dJ1_indexOf_4cfef_31 32 rfl rfl rfl ?_
      refine pv_iload_n (M := mJ1_indexOf_4cfef) 3 dJ1_indexOf_4cfef_32 33 rfl rfl rfl ?_
      refine pv_calls (M := mJ1_indexOf_4cfef) (as := [.retAddr (g.2.2.1 7 + 1), .int x1, .int v4, .int v6]) (st := []) (kc2 := 0) (ks2 := 0) dJ1_indexOf_4cfef_33 wd602 YJ1_indexOfChar_4cfef wd603 (s_J1_indexOfChar_4cfef_vx g hT I x1 (by omega) (by omega) v4 (by omega) (by omega) v6 (by omega) (by omega)) rfl rfl (Nat.le_of_ble_eq_true rfl) (by decide) rfl rfl 36 rfl (fun rv h1 q8 => ?_)
      obtain ⟨v9, rfl, rfl, pv9, qv9, rv9⟩ := q8
      replace rv9 : v9.toInt = nix x1.toInt := rv9
      show PV _ _ _ _ _ _ _ 36 [.retAddr (g.2.2.1 7 + 1), .int x1, .int v4, .int v6] [.int v9] _
      exact pv_iret (M := mJ1_indexOf_4cfef) dJ1_indexOf_4cfef_36 rfl rfl ⟨_, rfl, rfl, by omega, by omega, (by first | exact rv9 | (exfalso; omega))⟩
    · have c7 := iv_nlt (X := v4.toInt) (Y := v6.toInt) c7 rfl rfl
      omega
  · have c3 := iv_eq (X := v2.toInt) (Y := 0) c3 rfl (by decide)
    refine pv_iconst (M := mJ1_indexOf_4cfef) (v := (-1)) dJ1_indexOf_4cfef_7 8 rfl (by decide) ?_
    have z10 : ((-1) : Int32).toInt = (-1) := by decide
    exact pv_iret (M := mJ1_indexOf_4cfef) dJ1_indexOf_4cfef_8 rfl rfl ⟨_, rfl, rfl, by decide, by decide, (by first | exact rlit | (exfalso; omega))⟩

set_option maxHeartbeats 2000000 in
set_option maxRecDepth 20000 in
theorem s_J0_indexOf_7cf53_vx (g : pv_G) {T : List mv_T} {m : Nat → Nat → Int32} {n : Nat → Nat → Int64} {r : Nat → Value} (hT : TX T) (I : IV BB m) (x0 : Int32) (hl0 : 0 ≤ x0.toInt) (hh0 : x0.toInt ≤ 255) (x1 : Int32) (hl1 : 0 ≤ x1.toInt) (hh1 : x1.toInt ≤ 0) : PM g mJ0_indexOf_7cf53 yJ0_indexOf_7cf53 (sqP (mk T m n r) (-1) 9 (fun v => v.toInt = nix x0.toInt)) 3 0 0 [.retAddr (g.2.2.1 6 + 1), .int x0, .int x1] (mk T m n r) := by
  have Kp : fr (wl []) m m := fr.rf
  refine PM.of 0 (lo := [.retAddr (g.2.2.1 6 + 1), .int x0, .int x1]) rfl (by decide) rfl rfl (Nat.le_of_ble_eq_true rfl) ?_
  refine pv_aloadS_n (M := mJ0_indexOf_7cf53) 0 dJ0_indexOf_7cf53_0 1 rfl rfl rfl ?_
  refine pv_callvS (M := mJ0_indexOf_7cf53) (as := []) (st := []) (kc2 := 0) (ks2 := 0) dJ0_indexOf_7cf53_1 wd580 YJ0_isLatin1_aae02 ⟨wd581, wd582⟩ rfl (s_J0_isLatin1_aae02 g hT I) rfl rfl (Nat.le_of_ble_eq_true rfl) (by decide) rfl rfl 4 rfl (fun rv h1 q1 => ?_)
  obtain ⟨v2, rfl, rfl, pv2, qv2, rv2⟩ := q1
  show PV _ _ _ _ _ _ _ 4 [.retAddr (g.2.2.1 6 + 1), .int x0, .int x1] [.int v2] _
  refine pv_if_eq (M := mJ0_indexOf_7cf53) (tgt := 23) dJ0_indexOf_7cf53_4 7 rfl (by decide) (fun c3 => ?_) (fun c3 => ?_)
  · have c3 := iv_eq (X := v2.toInt) (Y := 0) c3 rfl (by decide)
    omega
  · have c3 := iv_ne (X := v2.toInt) (Y := 0) c3 rfl (by decide)
    refine pv_aloadS_n (M := mJ0_indexOf_7cf53) 0 dJ0_indexOf_7cf53_7 8 rfl rfl rfl ?_
    refine pv_getV (M := mJ0_indexOf_7cf53) dJ0_indexOf_7cf53_8 wd1800 11 rfl ?_
    refine pv_iload_n (M := mJ0_indexOf_7cf53) 1 dJ0_indexOf_7cf53_11 12 rfl rfl rfl ?_
    refine pv_iload_n (M := mJ0_indexOf_7cf53) 2 dJ0_indexOf_7cf53_12 13 rfl rfl rfl ?_
    refine pv_aloadS_n (M := mJ0_indexOf_7cf53) 0 dJ0_indexOf_7cf53_13 14 rfl rfl rfl ?_
    refine pv_callvS (M := mJ0_indexOf_7cf53) (as := []) (st := [.int x1, .int x0, .retAddr (g.2.2.1 7 + 1)]) (kc2 := 0) (ks2 := 0) dJ0_indexOf_7cf53_14 wd586 YJ0_length_8abf5 ⟨wd587, wd588⟩ rfl (s_J0_length_8abf5_vx g hT I) rfl rfl (Nat.le_of_ble_eq_true rfl) (by decide) rfl rfl 17 rfl (fun rv h1 q4 => ?_)
    obtain ⟨v5, rfl, rfl, pv5, qv5, rv5⟩ := q4
    show PV _ _ _ _ _ _ _ 17 [.retAddr (g.2.2.1 6 + 1), .int x0, .int x1] [.int v5, .int x1, .int x0, .retAddr (g.2.2.1 7 + 1)] _
    refine pv_calls (M := mJ0_indexOf_7cf53) (as := [.retAddr (g.2.2.1 7 + 1), .int x0, .int x1, .int v5]) (st := []) (kc2 := 0) (ks2 := 0) dJ0_indexOf_7cf53_17 wd594 YJ1_indexOf_4cfef wd595 (s_J1_indexOf_4cfef_vx g hT I x0 (by omega) (by omega) x1 (by omega) (by omega) v5 (by omega) (by omega)) rfl rfl (Nat.le_of_ble_eq_true rfl) (by decide) rfl rfl 20 rfl (fun rv h1 q6 => ?_)
    obtain ⟨v7, rfl, rfl, pv7, qv7, rv7⟩ := q6
    replace rv7 : v7.toInt = nix x0.toInt := rv7
    show PV _ _ _ _ _ _ _ 20 [.retAddr (g.2.2.1 6 + 1), .int x0, .int x1] [.int v7] _
    refine pv_goto (M := mJ0_indexOf_7cf53) (tgt := 36) dJ0_indexOf_7cf53_20 (by decide) ?_
    exact pv_iret (M := mJ0_indexOf_7cf53) dJ0_indexOf_7cf53_36 rfl rfl ⟨_, rfl, rfl, by omega, by omega, (by first | exact rv7 | (exfalso; omega))⟩

set_option maxHeartbeats 2000000 in
set_option maxRecDepth 20000 in
theorem s_J0_indexOf_0f7a4_vx (g : pv_G) {T : List mv_T} {m : Nat → Nat → Int32} {n : Nat → Nat → Int64} {r : Nat → Value} (hT : TX T) (I : IV BB m) (x0 : Int32) (hl0 : 0 ≤ x0.toInt) (hh0 : x0.toInt ≤ 255) : PM g mJ0_indexOf_0f7a4 yJ0_indexOf_0f7a4 (sqP (mk T m n r) (-1) 9 (fun v => v.toInt = nix x0.toInt)) 4 0 0 [.retAddr (g.2.2.1 6 + 1), .int x0] (mk T m n r) := by
  have Kp : fr (wl []) m m := fr.rf
  refine PM.of 0 (lo := [.retAddr (g.2.2.1 6 + 1), .int x0]) rfl (by decide) rfl rfl (Nat.le_of_ble_eq_true rfl) ?_
  refine pv_aloadS_n (M := mJ0_indexOf_0f7a4) 0 dJ0_indexOf_0f7a4_0 1 rfl rfl rfl ?_
  refine pv_iload_n (M := mJ0_indexOf_0f7a4) 1 dJ0_indexOf_0f7a4_1 2 rfl rfl rfl ?_
  refine pv_iconst (M := mJ0_indexOf_0f7a4) (v := 0) dJ0_indexOf_0f7a4_2 3 rfl (by decide) ?_
  have z1 : (0 : Int32).toInt = 0 := by decide
  refine pv_callvS (M := mJ0_indexOf_0f7a4) (as := [.int x0, .int 0]) (st := []) (kc2 := 0) (ks2 := 0) dJ0_indexOf_0f7a4_3 wd576 YJ0_indexOf_7cf53 ⟨wd577, wd578⟩ rfl (s_J0_indexOf_7cf53_vx g hT I x0 (by omega) (by omega) 0 (by decide) (by decide)) rfl rfl (Nat.le_of_ble_eq_true rfl) (by decide) rfl rfl 6 rfl (fun rv h1 q2 => ?_)
  obtain ⟨v3, rfl, rfl, pv3, qv3, rv3⟩ := q2
  replace rv3 : v3.toInt = nix x0.toInt := by have q_ := rv3; (try rw [z1] at q_); exact q_
  show PV _ _ _ _ _ _ _ 6 [.retAddr (g.2.2.1 6 + 1), .int x0] [.int v3] _
  exact pv_iret (M := mJ0_indexOf_0f7a4) dJ0_indexOf_0f7a4_6 rfl rfl ⟨_, rfl, rfl, by omega, by omega, rv3⟩
