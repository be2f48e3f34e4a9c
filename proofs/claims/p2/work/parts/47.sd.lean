set_option maxHeartbeats 2000000 in
set_option maxRecDepth 20000 in
theorem s_X12_in_vx (g : pv_G) {T : List mv_T} {m : Nat → Nat → Int32} {n : Nat → Nat → Int64} {r : Nat → Value} (hT : TX T) (I : IV BB m) (x0 : Int32) (x1 : Int32) (x2 : Int32) : PM g mX12_in yX12_in (sqP (mk T m n r) 0 1 (fun v => (v.toInt = 1 ∧ x1.toInt ≤ x0.toInt ∧ x0.toInt ≤ x2.toInt) ∨ (v.toInt = 0 ∧ (x0.toInt < x1.toInt ∨ x2.toInt < x0.toInt)))) 1 0 0 [.int x0, .int x1, .int x2] (mk T m n r) := by
  have Kp : fr (wl []) m m := fr.rf
  refine PM.of 0 (lo := [.int x0, .int x1, .int x2]) rfl (by decide) rfl rfl (Nat.le_of_ble_eq_true rfl) ?_
  refine pv_iload_n (M := mX12_in) 0 dX12_in_0 1 rfl rfl rfl ?_
  refine pv_iload_n (M := mX12_in) 1 dX12_in_1 2 rfl rfl rfl ?_
  refine pv_icmp_lt (M := mX12_in) (tgt := 14) dX12_in_2 5 rfl (by decide) (fun c1 => ?_) (fun c1 => ?_)
  · have c1 := iv_lt (X := x0.toInt) (Y := x1.toInt) c1 rfl rfl
    refine pv_iconst (M := mX12_in) (v := 0) dX12_in_14 15 rfl (by decide) ?_
    have z2 : (0 : Int32).toInt = 0 := by decide
    exact pv_iret (M := mX12_in) dX12_in_15 rfl rfl ⟨_, rfl, rfl, by decide, by decide, (Or.inr ⟨by decide, by omega⟩)⟩
  · have c1 := iv_nlt (X := x0.toInt) (Y := x1.toInt) c1 rfl rfl
    refine pv_iload_n (M := mX12_in) 0 dX12_in_5 6 rfl rfl rfl ?_
    refine pv_iload_n (M := mX12_in) 2 dX12_in_6 7 rfl rfl rfl ?_
    refine pv_icmp_gt (M := mX12_in) (tgt := 14) dX12_in_7 10 rfl (by decide) (fun c3 => ?_) (fun c3 => ?_)
    · have c3 := iv_lt (X := x2.toInt) (Y := x0.toInt) c3 rfl rfl
      refine pv_iconst (M := mX12_in) (v := 0) dX12_in_14 15 rfl (by decide) ?_
      have z4 : (0 : Int32).toInt = 0 := by decide
      exact pv_iret (M := mX12_in) dX12_in_15 rfl rfl ⟨_, rfl, rfl, by decide, by decide, (Or.inr ⟨by decide, by omega⟩)⟩
    · have c3 := iv_nlt (X := x2.toInt) (Y := x0.toInt) c3 rfl rfl
      refine pv_iconst (M := mX12_in) (v := 1) dX12_in_10 11 rfl (by decide) ?_
      refine pv_goto (M := mX12_in) (tgt := 15) dX12_in_11 (by decide) ?_
      have z5 : (1 : Int32).toInt = 1 := by decide
      exact pv_iret (M := mX12_in) dX12_in_15 rfl rfl ⟨_, rfl, rfl, by decide, by decide, (Or.inl ⟨by decide, by omega, by omega⟩)⟩

set_option maxHeartbeats 2000000 in
set_option maxRecDepth 20000 in
theorem s_X12_day_vx (g : pv_G) {T : List mv_T} {m : Nat → Nat → Int32} {n : Nat → Nat → Int64} {r : Nat → Value} (hT : TX T) (I : IV BB m) (x0 : Int32) : PM g mX12_day yX12_day (sqI T BB (wl [(123, 123, some 1)]) r m 0 1 (fun m' v => (v.toInt = 1 ∧ (m 123 1).toInt ≤ x0.toInt ∧ x0.toInt ≤ 999 ∧ (m' 123 1).toInt = x0.toInt) ∨ (v.toInt = 0 ∧ (x0.toInt < (m 123 1).toInt ∨ 999 < x0.toInt) ∧ (m' 123 1).toInt = (m 123 1).toInt))) 2 0 0 [.ref 123, .int x0] (mk T m n r) := by
  have Kp : fr (wl [(123, 123, some 1)]) m m := fr.rf
  have z13 : 0 ≤ (m 123 1).toInt ∧ (m 123 1).toInt ≤ 999 := I 123 1
  refine PM.of 0 (lo := [.ref 123, .int x0]) rfl (by decide) rfl rfl (Nat.le_of_ble_eq_true rfl) ?_
  refine pv_iload_n (M := mX12_day) 1 dX12_day_0 1 rfl rfl rfl ?_
  refine pv_aload_n (M := mX12_day) 0 dX12_day_1 2 rfl rfl rfl ?_
  refine iv_get (M := mX12_day) (l1 := 0) (l2 := 999) dX12_day_2 FX12 1 wd1174 (by decide) (tl123 hT) rfl I rfl 5 rfl (fun v1 ev1 pv1 qv1 => ?_)
  have wv1 : v1.toInt = (m 123 1).toInt := congrArg Int32.toInt ev1
  refine pv_sipush (M := mX12_day) (v := 999) dX12_day_5 8 rfl (by decide) ?_
  have z2 : (999 : Int32).toInt = 999 := by decide
  refine pv_calls (M := mX12_day) (as := [.int x0, .int v1, .int 999]) (st := []) (kc2 := 0) (ks2 := 0) dX12_day_8 wd1370 YX12_in wd1371 (s_X12_in_vx g hT I x0 v1 999) rfl rfl (Nat.le_of_ble_eq_true rfl) (by decide) rfl rfl 11 rfl (fun rv h1 q3 => ?_)
  obtain ⟨v4, rfl, rfl, pv4, qv4, rv4⟩ := q3
  replace rv4 : (v4.toInt = 1 ∧ v1.toInt ≤ x0.toInt ∧ x0.toInt ≤ (999 : Int)) ∨ (v4.toInt = 0 ∧ (x0.toInt < v1.toInt ∨ (999 : Int) < x0.toInt)) := by have q_ := rv4; (try rw [z2] at q_); exact q_
  show PV _ _ _ _ _ _ _ 11 [.ref 123, .int x0] [.int v4] _
  refine pv_if_ne (M := mX12_day) (tgt := 16) dX12_day_11 14 rfl (by decide) (fun c5 => ?_) (fun c5 => ?_)
  · have c5 := iv_ne (X := v4.toInt) (Y := 0) c5 rfl (by decide)
    refine pv_aload_n (M := mX12_day) 0 dX12_day_16 17 rfl rfl rfl ?_
    refine pv_iload_n (M := mX12_day) 1 dX12_day_17 18 rfl rfl rfl ?_
    refine iv_put (M := mX12_day) (l1 := 0) (l2 := 999) dX12_day_18 FX12 1 wd1174 (by decide) rfl (tl123 hT) rfl rfl rfl I rfl (by omega) (by omega) 21 rfl (fun m6 e9 I7 => ?_)
    have K8 := Kp.set e9 rfl
    have w10 : (m6 123 1).toInt = x0.toInt := by rw [e9, up2_eq]
    refine pv_iconst (M := mX12_day) (v := 1) dX12_day_21 22 rfl (by decide) ?_
    have z11 : (1 : Int32).toInt = 1 := by decide
    exact pv_iret (M := mX12_day) dX12_day_22 rfl rfl ⟨_, _, _, rfl, rfl, I7, K8, by decide, by decide, (Or.inl ⟨by decide, by omega, by omega, by omega⟩)⟩
  · have c5 := iv_eq (X := v4.toInt) (Y := 0) c5 rfl (by decide)
    refine pv_iconst (M := mX12_day) (v := 0) dX12_day_14 15 rfl (by decide) ?_
    have z12 : (0 : Int32).toInt = 0 := by decide
    exact pv_iret (M := mX12_day) dX12_day_15 rfl rfl ⟨_, _, _, rfl, rfl, I, Kp, by decide, by decide, (Or.inr ⟨by decide, by omega, by omega⟩)⟩

set_option maxHeartbeats 2000000 in
set_option maxRecDepth 20000 in
theorem s_X11_day_vx (g : pv_G) {T : List mv_T} {m : Nat → Nat → Int32} {n : Nat → Nat → Int64} {r : Nat → Value} {la lb : Nat} (hT : TX T) (I : IV BB m) (R : RX T r la lb) (x0 : Int32) : PM g mX11_day yX11_day (sqI T BB (wl [(0, 0, some 7)]) r m 0 1 (fun m' v => (v.toInt = 1 ∧ (m 0 7).toInt ≤ x0.toInt ∧ x0.toInt ≤ 999 ∧ (m' 0 7).toInt = x0.toInt) ∨ (v.toInt = 0 ∧ (x0.toInt < (m 0 7).toInt ∨ 999 < x0.toInt) ∧ (m' 0 7).toInt = (m 0 7).toInt))) 1 0 0 [.ref 0, .int x0] (mk T m n r) := by
  have Kp : fr (wl [(0, 0, some 7)]) m m := fr.rf
  have R0 := R
  have zR := R.2.2.2.2.1.1
  have zR2 := R.2.2.2.2.2.1
  have z12 : 0 ≤ (m 0 7).toInt ∧ (m 0 7).toInt ≤ 999 := I 0 7
  refine PM.of 0 (lo := [.ref 0, .int x0]) rfl (by decide) rfl rfl (Nat.le_of_ble_eq_true rfl) ?_
  refine pv_iload_n (M := mX11_day) 1 dX11_day_0 1 rfl rfl rfl ?_
  refine pv_aload_n (M := mX11_day) 0 dX11_day_1 2 rfl rfl rfl ?_
  refine iv_get (M := mX11_day) (l1 := 0) (l2 := 999) dX11_day_2 FX11 7 wd414 (by decide) (tl0 hT) rfl I rfl 5 rfl (fun v1 ev1 pv1 qv1 => ?_)
  have wv1 : v1.toInt = (m 0 7).toInt := congrArg Int32.toInt ev1
  refine pv_icmp_lt (M := mX11_day) (tgt := 15) dX11_day_5 8 rfl (by decide) (fun c2 => ?_) (fun c2 => ?_)
  · have c2 := iv_lt (X := x0.toInt) (Y := v1.toInt) c2 rfl rfl
    refine pv_iconst (M := mX11_day) (v := 0) dX11_day_15 16 rfl (by decide) ?_
    have z3 : (0 : Int32).toInt = 0 := by decide
    exact pv_iret (M := mX11_day) dX11_day_16 rfl rfl ⟨_, _, _, rfl, rfl, I, Kp, by decide, by decide, (Or.inr ⟨by decide, by omega, by omega⟩)⟩
  · have c2 := iv_nlt (X := x0.toInt) (Y := v1.toInt) c2 rfl rfl
    refine pv_iload_n (M := mX11_day) 1 dX11_day_8 9 rfl rfl rfl ?_
    refine pv_sipush (M := mX11_day) (v := 1000) dX11_day_9 12 rfl (by decide) ?_
    refine pv_icmp_lt (M := mX11_day) (tgt := 17) dX11_day_12 15 rfl (by decide) (fun c4 => ?_) (fun c4 => ?_)
    · have c4 := iv_lt (X := x0.toInt) (Y := 1000) c4 rfl (by decide)
      refine pv_aload_n (M := mX11_day) 0 dX11_day_17 18 rfl rfl rfl ?_
      refine pv_iload_n (M := mX11_day) 1 dX11_day_18 19 rfl rfl rfl ?_
      refine iv_put (M := mX11_day) (l1 := 0) (l2 := 999) dX11_day_19 FX11 7 wd414 (by decide) rfl (tl0 hT) rfl rfl rfl I rfl (by omega) (by omega) 22 rfl (fun m5 e8 I6 => ?_)
      have K7 := Kp.set e8 rfl
      have w9 : (m5 0 7).toInt = x0.toInt := by rw [e8, up2_eq]
      refine pv_iconst (M := mX11_day) (v := 1) dX11_day_22 23 rfl (by decide) ?_
      have z10 : (1 : Int32).toInt = 1 := by decide
      exact pv_iret (M := mX11_day) dX11_day_23 rfl rfl ⟨_, _, _, rfl, rfl, I6, K7, by decide, by decide, (Or.inl ⟨by decide, by omega, by omega, by omega⟩)⟩
    · have c4 := iv_nlt (X := x0.toInt) (Y := 1000) c4 rfl (by decide)
      refine pv_iconst (M := mX11_day) (v := 0) dX11_day_15 16 rfl (by decide) ?_
      have z11 : (0 : Int32).toInt = 0 := by decide
      exact pv_iret (M := mX11_day) dX11_day_16 rfl rfl ⟨_, _, _, rfl, rfl, I, Kp, by decide, by decide, (Or.inr ⟨by decide, by omega, by omega⟩)⟩

set_option maxHeartbeats 2000000 in
set_option maxRecDepth 20000 in
theorem s_X11_feed_vd (g : pv_G) {T : List mv_T} {m : Nat → Nat → Int32} {n : Nat → Nat → Int64} {r : Nat → Value} {la lb : Nat} (hT : TX T) (I : IV BB m) (R : RX T r la lb) (x0 : Int32) (x1 : Int32) (x2 : Int32) (x3 : Int32) (x4 : Int32) : PM g mX11_feed yX11_feed (sqI T BB wB r m (-2147483648) 2147483647 (fun m' v => True)) 2 0 0 [.ref 0, .int x0, .int x1, .int x2, .int x3, .int x4] (mk T m n r) := by
  have Kp : fr wB m m := fr.rf
  have R0 := R
  have zR := R.2.2.2.2.1.1
  have zR2 := R.2.2.2.2.2.1
  refine PM.of 0 (lo := [.ref 0, .int x0, .int x1, .int x2, .int x3, .int x4]) rfl (by decide) rfl rfl (Nat.le_of_ble_eq_true rfl) ?_
  refine pv_aload_n (M := mX11_feed) 0 dX11_feed_0 1 rfl rfl rfl ?_
  refine mv_get (M := mX11_feed) (v := .ref 1) dX11_feed_1 FX11 0 wd407 (by decide) (tl0 hT) rfl rfl 4 rfl ?_
  refine pv_bipush (M := mX11_feed) (v := 20) dX11_feed_4 6 rfl (by decide) ?_
  refine pv_callv (M := mX11_feed) (as := [.int 20]) (st := []) (kc2 := 0) (ks2 := 0) dX11_feed_6 wd467 YX10_hasRoom ⟨wd468, wd469⟩ (mk_get (tl1 hT)) rfl rfl (s_X10_hasRoom g hT I 20) rfl rfl (Nat.le_of_ble_eq_true rfl) (by decide) rfl rfl 9 rfl (fun rv h1 q1 => ?_)
  obtain ⟨v2, rfl, rfl, pv2, qv2, rv2⟩ := q1
  show PV _ _ _ _ _ _ _ 9 [.ref 0, .int x0, .int x1, .int x2, .int x3, .int x4] [.int v2] _
  refine pv_if_ne (M := mX11_feed) (tgt := 14) dX11_feed_9 12 rfl (by decide) (fun c3 => ?_) (fun c3 => ?_)
  · have c3 := iv_ne (X := v2.toInt) (Y := 0) c3 rfl (by decide)
    refine pv_aload_n (M := mX11_feed) 0 dX11_feed_14 15 rfl rfl rfl ?_
    refine mv_get (M := mX11_feed) (v := .ref 1) dX11_feed_15 FX11 0 wd407 (by decide) (tl0 hT) rfl rfl 18 rfl ?_
    refine pv_iload_n (M := mX11_feed) 1 dX11_feed_18 19 rfl rfl rfl ?_
    refine pv_callv (M := mX11_feed) (as := [.int x0]) (st := []) (kc2 := 0) (ks2 := 0) dX11_feed_19 wd471 YX10_put ⟨wd472, wd473⟩ (mk_get (tl1 hT)) rfl rfl (s_X10_put g hT I x0) rfl rfl (Nat.le_of_ble_eq_true rfl) (by decide) rfl rfl 22 rfl (fun rv h1 q4 => ?_)
    obtain ⟨m5, n6, rfl, rfl, I7, K8, rm5⟩ := q4
    have K8c := K8
    have K8 := Kp.trans (K8.sub (wl_wB (by decide)))
    show PV _ _ _ _ _ _ _ 22 [.ref 0, .int x0, .int x1, .int x2, .int x3, .int x4] [] _
    refine pv_aload_n (M := mX11_feed) 0 dX11_feed_22 23 rfl rfl rfl ?_
    refine mv_get (M := mX11_feed) (v := .ref 1) dX11_feed_23 FX11 0 wd407 (by decide) (tl0 hT) rfl rfl 26 rfl ?_
    refine pv_iload_n (M := mX11_feed) 2 dX11_feed_26 27 rfl rfl rfl ?_
    refine pv_callv (M := mX11_feed) (as := [.int x1]) (st := []) (kc2 := 0) (ks2 := 0) dX11_feed_27 wd471 YX10_put ⟨wd472, wd473⟩ (mk_get (tl1 hT)) rfl rfl (s_X10_put g hT I7 x1) rfl rfl (Nat.le_of_ble_eq_true rfl) (by decide) rfl rfl 30 rfl (fun rv h1 q9 => ?_)
    obtain ⟨m10, n11, rfl, rfl, I12, K13, rm10⟩ := q9
    have K13c := K13
    have K13 := K8.trans (K13.sub (wl_wB (by decide)))
    show PV _ _ _ _ _ _ _ 30 [.ref 0, .int x0, .int x1, .int x2, .int x3, .int x4] [] _
    refine pv_aload_n (M := mX11_feed) 0 dX11_feed_30 31 rfl rfl rfl ?_
    refine mv_get (M := mX11_feed) (v := .ref 1) dX11_feed_31 FX11 0 wd407 (by decide) (tl0 hT) rfl rfl 34 rfl ?_
    refine pv_iload_n (M := mX11_feed) 3 dX11_feed_34 35 rfl rfl rfl ?_
    refine pv_callv (M := mX11_feed) (as := [.int x2]) (st := []) (kc2 := 0) (ks2 := 0) dX11_feed_35 wd471 YX10_put ⟨wd472, wd473⟩ (mk_get (tl1 hT)) rfl rfl (s_X10_put g hT I12 x2) rfl rfl (Nat.le_of_ble_eq_true rfl) (by decide) rfl rfl 38 rfl (fun rv h1 q14 => ?_)
    obtain ⟨m15, n16, rfl, rfl, I17, K18, rm15⟩ := q14
    have K18c := K18
    have K18 := K13.trans (K18.sub (wl_wB (by decide)))
    show PV _ _ _ _ _ _ _ 38 [.ref 0, .int x0, .int x1, .int x2, .int x3, .int x4] [] _
    refine pv_aload_n (M := mX11_feed) 0 dX11_feed_38 39 rfl rfl rfl ?_
    refine mv_get (M := mX11_feed) (v := .ref 1) dX11_feed_39 FX11 0 wd407 (by decide) (tl0 hT) rfl rfl 42 rfl ?_
    refine pv_iload (M := mX11_feed) dX11_feed_42 44 rfl rfl ?_
    refine pv_callv (M := mX11_feed) (as := [.int x3]) (st := []) (kc2 := 0) (ks2 := 0) dX11_feed_44 wd471 YX10_put ⟨wd472, wd473⟩ (mk_get (tl1 hT)) rfl rfl (s_X10_put g hT I17 x3) rfl rfl (Nat.le_of_ble_eq_true rfl) (by decide) rfl rfl 47 rfl (fun rv h1 q19 => ?_)
    obtain ⟨m20, n21, rfl, rfl, I22, K23, rm20⟩ := q19
    have K23c := K23
    have K23 := K18.trans (K23.sub (wl_wB (by decide)))
    show PV _ _ _ _ _ _ _ 47 [.ref 0, .int x0, .int x1, .int x2, .int x3, .int x4] [] _
    refine pv_aload_n (M := mX11_feed) 0 dX11_feed_47 48 rfl rfl rfl ?_
    refine mv_get (M := mX11_feed) (v := .ref 1) dX11_feed_48 FX11 0 wd407 (by decide) (tl0 hT) rfl rfl 51 rfl ?_
    refine pv_iload (M := mX11_feed) dX11_feed_51 53 rfl rfl ?_
    refine pv_callv (M := mX11_feed) (as := [.int x4]) (st := []) (kc2 := 0) (ks2 := 0) dX11_feed_53 wd471 YX10_put ⟨wd472, wd473⟩ (mk_get (tl1 hT)) rfl rfl (s_X10_put g hT I22 x4) rfl rfl (Nat.le_of_ble_eq_true rfl) (by decide) rfl rfl 56 rfl (fun rv h1 q24 => ?_)
    obtain ⟨m25, n26, rfl, rfl, I27, K28, rm25⟩ := q24
    have K28c := K28
    have K28 := K23.trans (K28.sub (wl_wB (by decide)))
    show PV _ _ _ _ _ _ _ 56 [.ref 0, .int x0, .int x1, .int x2, .int x3, .int x4] [] _
    refine pv_aload_n (M := mX11_feed) 0 dX11_feed_56 57 rfl rfl rfl ?_
    refine mv_get (M := mX11_feed) (v := .ref 1) dX11_feed_57 FX11 0 wd407 (by decide) (tl0 hT) rfl rfl 60 rfl ?_
    refine iv_get (M := mX11_feed) (l1 := 0) (l2 := 200) dX11_feed_60 FX10 1 wd164 (by decide) (tl1 hT) rfl I27 rfl 63 rfl (fun v29 ev29 pv29 qv29 => ?_)
    exact pv_iret (M := mX11_feed) dX11_feed_63 rfl rfl ⟨_, _, _, rfl, rfl, I27, K28, (iv_rng v29).1, (iv_rng v29).2, trivial⟩
  · have c3 := iv_eq (X := v2.toInt) (Y := 0) c3 rfl (by decide)
    refine pv_iconst (M := mX11_feed) (v := (-1)) dX11_feed_12 13 rfl (by decide) ?_
    exact pv_iret (M := mX11_feed) dX11_feed_13 rfl rfl ⟨_, _, _, rfl, rfl, I, Kp, by decide, by decide, trivial⟩

set_option maxHeartbeats 2000000 in
set_option maxRecDepth 20000 in
theorem s_X11_blank_vd (g : pv_G) {T : List mv_T} {m : Nat → Nat → Int32} {n : Nat → Nat → Int64} {r : Nat → Value} {la lb : Nat} (hT : TX T) (I : IV BB m) (R : RX T r la lb) (x0 : Int32) : PM g mX11_blank yX11_blank (sqI T BB wB r m (-2147483648) 2147483647 (fun m' v => True)) 3 0 0 [.ref 0, .int x0] (mk T m n r) := by
  have Kp : fr wB m m := fr.rf
  have R0 := R
  have zR := R.2.2.2.2.1.1
  have zR2 := R.2.2.2.2.2.1
  have z47 : 0 ≤ (m 0 2).toInt ∧ (m 0 2).toInt ≤ 8 := I 0 2
  refine PM.of 1 (lo := [.ref 0, .int x0, pv_U]) rfl (by decide) rfl rfl (Nat.le_of_ble_eq_true rfl) ?_
  refine pv_iload_n (M := mX11_blank) 1 dX11_blank_0 1 rfl rfl rfl ?_
  refine pv_iconst (M := mX11_blank) (v := 1) dX11_blank_1 2 rfl (by decide) ?_
  refine pv_icmp_lt (M := mX11_blank) (tgt := 31) dX11_blank_2 5 rfl (by decide) (fun c1 => ?_) (fun c1 => ?_)
  · have c1 := iv_lt (X := x0.toInt) (Y := 1) c1 rfl (by decide)
    refine pv_iconst (M := mX11_blank) (v := (-1)) dX11_blank_31 32 rfl (by decide) ?_
    exact pv_iret (M := mX11_blank) dX11_blank_32 rfl rfl ⟨_, _, _, rfl, rfl, I, Kp, by decide, by decide, trivial⟩
  · have c1 := iv_nlt (X := x0.toInt) (Y := 1) c1 rfl (by decide)
    refine pv_iload_n (M := mX11_blank) 1 dX11_blank_5 6 rfl rfl rfl ?_
    refine pv_bipush (M := mX11_blank) (v := 40) dX11_blank_6 8 rfl (by decide) ?_
    refine pv_icmp_gt (M := mX11_blank) (tgt := 31) dX11_blank_8 11 rfl (by decide) (fun c2 => ?_) (fun c2 => ?_)
    · have c2 := iv_lt (X := 40) (Y := x0.toInt) c2 (by decide) rfl
      refine pv_iconst (M := mX11_blank) (v := (-1)) dX11_blank_31 32 rfl (by decide) ?_
      exact pv_iret (M := mX11_blank) dX11_blank_32 rfl rfl ⟨_, _, _, rfl, rfl, I, Kp, by decide, by decide, trivial⟩
    · have c2 := iv_nlt (X := 40) (Y := x0.toInt) c2 (by decide) rfl
      refine pv_aload_n (M := mX11_blank) 0 dX11_blank_11 12 rfl rfl rfl ?_
      refine iv_get (M := mX11_blank) (l1 := 0) (l2 := 8) dX11_blank_12 FX11 2 wd409 (by decide) (tl0 hT) rfl I rfl 15 rfl (fun v3 ev3 pv3 qv3 => ?_)
      have wv3 : v3.toInt = (m 0 2).toInt := congrArg Int32.toInt ev3
      refine pv_bipush (M := mX11_blank) (v := 8) dX11_blank_15 17 rfl (by decide) ?_
      refine pv_icmp_ge (M := mX11_blank) (tgt := 31) dX11_blank_17 20 rfl (by decide) (fun c4 => ?_) (fun c4 => ?_)
      · have c4 := iv_le (X := 8) (Y := v3.toInt) c4 (by decide) rfl
        refine pv_iconst (M := mX11_blank) (v := (-1)) dX11_blank_31 32 rfl (by decide) ?_
        exact pv_iret (M := mX11_blank) dX11_blank_32 rfl rfl ⟨_, _, _, rfl, rfl, I, Kp, by decide, by decide, trivial⟩
      · have c4 := iv_nle (X := 8) (Y := v3.toInt) c4 (by decide) rfl
        refine pv_iload_n (M := mX11_blank) 1 dX11_blank_20 21 rfl rfl rfl ?_
        refine pv_aload_n (M := mX11_blank) 0 dX11_blank_21 22 rfl rfl rfl ?_
        refine mv_get (M := mX11_blank) (v := .ref 1) dX11_blank_22 FX11 0 wd407 (by decide) (tl0 hT) rfl rfl 25 rfl ?_
        refine iv_get (M := mX11_blank) (l1 := 0) (l2 := 200) dX11_blank_25 FX10 1 wd164 (by decide) (tl1 hT) rfl I rfl 28 rfl (fun v5 ev5 pv5 qv5 => ?_)
        refine pv_icmp_le (M := mX11_blank) (tgt := 33) dX11_blank_28 31 rfl (by decide) (fun c6 => ?_) (fun c6 => ?_)
        · have c6 := iv_le (X := x0.toInt) (Y := v5.toInt) c6 rfl rfl
          refine pv_aload_n (M := mX11_blank) 0 dX11_blank_33 34 rfl rfl rfl ?_
          refine mv_get (M := mX11_blank) (v := .ref 1) dX11_blank_34 FX11 0 wd407 (by decide) (tl0 hT) rfl rfl 37 rfl ?_
          refine pv_iload_n (M := mX11_blank) 1 dX11_blank_37 38 rfl rfl rfl ?_
          refine pv_callv (M := mX11_blank) (as := [.int x0]) (st := []) (kc2 := 0) (ks2 := 0) dX11_blank_38 wd479 YX10_holdsLetters ⟨wd480, wd481⟩ (mk_get (tl1 hT)) rfl rfl (s_X10_holdsLetters g hT I x0) rfl rfl (Nat.le_of_ble_eq_true rfl) (by decide) rfl rfl 41 rfl (fun rv h1 q7 => ?_)
          obtain ⟨v8, rfl, rfl, pv8, qv8, rv8⟩ := q7
          show PV _ _ _ _ _ _ _ 41 [.ref 0, .int x0, pv_U] [.int v8] _
          refine pv_istore_n (M := mX11_blank) 2 (lo2 := [.ref 0, .int x0, .int v8]) dX11_blank_41 42 rfl rfl (by decide) rfl rfl ?_
          refine pv_iload_n (M := mX11_blank) 2 dX11_blank_42 43 rfl rfl rfl ?_
          refine pv_if_eq (M := mX11_blank) (tgt := 88) dX11_blank_43 46 rfl (by decide) (fun c9 => ?_) (fun c9 => ?_)
          · have c9 := iv_eq (X := v8.toInt) (Y := 0) c9 rfl (by decide)
            refine pv_aload_n (M := mX11_blank) 0 dX11_blank_88 89 rfl rfl rfl ?_
            refine mv_get (M := mX11_blank) (v := .ref 1) dX11_blank_89 FX11 0 wd407 (by decide) (tl0 hT) rfl rfl 92 rfl ?_
            refine pv_iconst (M := mX11_blank) (v := 0) dX11_blank_92 93 rfl (by decide) ?_
            refine iv_put (M := mX11_blank) (l1 := 0) (l2 := 200) dX11_blank_93 FX10 1 wd164 (by decide) rfl (tl1 hT) rfl rfl rfl I rfl (by decide) (by decide) 96 rfl (fun m10 e13 I11 => ?_)
            have K12 := Kp.set e13 rfl
            have w14 : (m10 0 2).toInt = (m 0 2).toInt := by rw [e13, up2_ne (by omega)]
            refine pv_iload_n (M := mX11_blank) 2 dX11_blank_96 97 rfl rfl rfl ?_
            refine pv_if_eq (M := mX11_blank) (tgt := 109) dX11_blank_97 100 rfl (by decide) (fun c15 => ?_) (fun c15 => ?_)
            · have c15 := iv_eq (X := v8.toInt) (Y := 0) c15 rfl (by decide)
              refine pv_bipush (M := mX11_blank) (v := (-2)) dX11_blank_109 111 rfl (by decide) ?_
              exact pv_iret (M := mX11_blank) dX11_blank_111 rfl rfl ⟨_, _, _, rfl, rfl, I11, K12, by decide, by decide, trivial⟩
            · have c15 := iv_ne (X := v8.toInt) (Y := 0) c15 rfl (by decide)
              omega
          · have c9 := iv_ne (X := v8.toInt) (Y := 0) c9 rfl (by decide)
            refine pv_aload_n (M := mX11_blank) 0 dX11_blank_46 47 rfl rfl rfl ?_
            refine mv_get (M := mX11_blank) (v := .ref 1) dX11_blank_47 FX11 0 wd407 (by decide) (tl0 hT) rfl rfl 50 rfl ?_
            refine pv_iload_n (M := mX11_blank) 1 dX11_blank_50 51 rfl rfl rfl ?_
            refine pv_aload_n (M := mX11_blank) 0 dX11_blank_51 52 rfl rfl rfl ?_
            refine mv_get (M := mX11_blank) (v := .ref 3) dX11_blank_52 FX11 1 wd408 (by decide) (tl0 hT) rfl rfl 55 rfl ?_
            refine pv_aload_n (M := mX11_blank) 0 dX11_blank_55 56 rfl rfl rfl ?_
            refine iv_get (M := mX11_blank) (l1 := 0) (l2 := 8) dX11_blank_56 FX11 2 wd409 (by decide) (tl0 hT) rfl I rfl 59 rfl (fun v16 ev16 pv16 qv16 => ?_)
            have wv16 : v16.toInt = (m 0 2).toInt := congrArg Int32.toInt ev16
            refine iv_qblank (M := mX11_blank) (X := v16.toInt) dX11_blank_59 hT R rfl (by omega) (by omega) 60 rfl (fun b17 eb17 hb17 => ?_)
            have zb17 := hb17.2.2.2.2.2.2.2
            refine mv_get (M := mX11_blank) (v := .ref (b17 + 1)) dX11_blank_60 FX0 0 wd208 (by decide) hb17.1 rfl rfl 63 rfl ?_
            refine pv_callv (M := mX11_blank) (as := [.int x0, .ref (b17 + 1)]) (st := []) (kc2 := 0) (ks2 := 0) dX11_blank_63 wd483 YX10_copyLetters ⟨wd484, wd485⟩ (mk_get (tl1 hT)) rfl rfl (s_X10_copyLetters g hT I x0 (b17 + 1) 40 hb17.2.1) rfl rfl (Nat.le_of_ble_eq_true rfl) (by decide) rfl rfl 66 rfl (fun rv h1 q18 => ?_)
            obtain ⟨m19, n20, rfl, rfl, I21, K22, rm19⟩ := q18
            have K22c := K22
            have w23 : (m19 0 2).toInt = (m 0 2).toInt := congrArg Int32.toInt (K22 0 2 (wr_out (by omega)))
            have K22 := Kp.trans (K22.sub (wr_wB (by omega) (by omega)))
            show PV _ _ _ _ _ _ _ 66 [.ref 0, .int x0, .int v8] [] _
            refine pv_aload_n (M := mX11_blank) 0 dX11_blank_66 67 rfl rfl rfl ?_
            refine mv_get (M := mX11_blank) (v := .ref 3) dX11_blank_67 FX11 1 wd408 (by decide) (tl0 hT) rfl rfl 70 rfl ?_
            refine pv_aload_n (M := mX11_blank) 0 dX11_blank_70 71 rfl rfl rfl ?_
            refine iv_get (M := mX11_blank) (l1 := 0) (l2 := 8) dX11_blank_71 FX11 2 wd409 (by decide) (tl0 hT) rfl I21 rfl 74 rfl (fun v24 ev24 pv24 qv24 => ?_)
            have wv24 : v24.toInt = (m19 0 2).toInt := congrArg Int32.toInt ev24
            refine iv_qblank (M := mX11_blank) (X := v24.toInt) dX11_blank_74 hT R rfl (by omega) (by omega) 75 rfl (fun b25 eb25 hb25 => ?_)
            have zb25 := hb25.2.2.2.2.2.2.2
            refine pv_callv (M := mX11_blank) (as := []) (st := []) (kc2 := 0) (ks2 := 0) dX11_blank_75 wd491 YX0_gather ⟨wd492, wd493⟩ (mk_get hb25.1) rfl rfl (s_X0_gather g hT I21 b25 hb25) rfl rfl (Nat.le_of_ble_eq_true rfl) (by decide) rfl rfl 78 rfl (fun rv h1 q26 => ?_)
            obtain ⟨m27, n28, rfl, rfl, I29, K30, rm27⟩ := q26
            have K30c := K30
            have w31 : (m27 0 2).toInt = (m19 0 2).toInt := congrArg Int32.toInt (K30 0 2 (wr_out (by omega)))
            have K30 := K22.trans (K30.sub (wr_wB (by omega) (by omega)))
            show PV _ _ _ _ _ _ _ 78 [.ref 0, .int x0, .int v8] [] _
            refine pv_aload_n (M := mX11_blank) 0 dX11_blank_78 79 rfl rfl rfl ?_
            refine pv_dup (M := mX11_blank) dX11_blank_79 80 rfl rfl ?_
            refine iv_get (M := mX11_blank) (l1 := 0) (l2 := 8) dX11_blank_80 FX11 2 wd409 (by decide) (tl0 hT) rfl I29 rfl 83 rfl (fun v32 ev32 pv32 qv32 => ?_)
            have wv32 : v32.toInt = (m27 0 2).toInt := congrArg Int32.toInt ev32
            refine pv_iconst (M := mX11_blank) (v := 1) dX11_blank_83 84 rfl (by decide) ?_
            refine iv_iadd (M := mX11_blank) (X := v32.toInt) (Y := 1) dX11_blank_84 85 rfl rfl (by decide) (by omega) (by omega) (fun v33 ev33 => ?_)
            refine iv_put (M := mX11_blank) (l1 := 0) (l2 := 8) dX11_blank_85 FX11 2 wd409 (by decide) rfl (tl0 hT) rfl rfl rfl I29 rfl (by omega) (by omega) 88 rfl (fun m34 e37 I35 => ?_)
            have K36 := K30.set e37 rfl
            have w38 : (m34 0 2).toInt = v33.toInt := by rw [e37, up2_eq]
            refine pv_aload_n (M := mX11_blank) 0 dX11_blank_88 89 rfl rfl rfl ?_
            refine mv_get (M := mX11_blank) (v := .ref 1) dX11_blank_89 FX11 0 wd407 (by decide) (tl0 hT) rfl rfl 92 rfl ?_
            refine pv_iconst (M := mX11_blank) (v := 0) dX11_blank_92 93 rfl (by decide) ?_
            refine iv_put (M := mX11_blank) (l1 := 0) (l2 := 200) dX11_blank_93 FX10 1 wd164 (by decide) rfl (tl1 hT) rfl rfl rfl I35 rfl (by decide) (by decide) 96 rfl (fun m39 e42 I40 => ?_)
            have K41 := K36.set e42 rfl
            have w43 : (m39 0 2).toInt = (m34 0 2).toInt := by rw [e42, up2_ne (by omega)]
            refine pv_iload_n (M := mX11_blank) 2 dX11_blank_96 97 rfl rfl rfl ?_
            refine pv_if_eq (M := mX11_blank) (tgt := 109) dX11_blank_97 100 rfl (by decide) (fun c44 => ?_) (fun c44 => ?_)
            · have c44 := iv_eq (X := v8.toInt) (Y := 0) c44 rfl (by decide)
              omega
            · have c44 := iv_ne (X := v8.toInt) (Y := 0) c44 rfl (by decide)
              refine pv_aload_n (M := mX11_blank) 0 dX11_blank_100 101 rfl rfl rfl ?_
              refine iv_get (M := mX11_blank) (l1 := 0) (l2 := 8) dX11_blank_101 FX11 2 wd409 (by decide) (tl0 hT) rfl I40 rfl 104 rfl (fun v45 ev45 pv45 qv45 => ?_)
              have wv45 : v45.toInt = (m39 0 2).toInt := congrArg Int32.toInt ev45
              refine pv_iconst (M := mX11_blank) (v := 1) dX11_blank_104 105 rfl (by decide) ?_
              refine iv_isub (M := mX11_blank) (X := v45.toInt) (Y := 1) dX11_blank_105 106 rfl rfl (by decide) (by omega) (by omega) (fun v46 ev46 => ?_)
              refine pv_goto (M := mX11_blank) (tgt := 111) dX11_blank_106 (by decide) ?_
              exact pv_iret (M := mX11_blank) dX11_blank_111 rfl rfl ⟨_, _, _, rfl, rfl, I40, K41, (iv_rng v46).1, (iv_rng v46).2, trivial⟩
        · have c6 := iv_nle (X := x0.toInt) (Y := v5.toInt) c6 rfl rfl
          refine pv_iconst (M := mX11_blank) (v := (-1)) dX11_blank_31 32 rfl (by decide) ?_
          exact pv_iret (M := mX11_blank) dX11_blank_32 rfl rfl ⟨_, _, _, rfl, rfl, I, Kp, by decide, by decide, trivial⟩

set_option maxHeartbeats 2000000 in
set_option maxRecDepth 20000 in
theorem s_X11_check_vd (g : pv_G) {T : List mv_T} {m : Nat → Nat → Int32} {n : Nat → Nat → Int64} {r : Nat → Value} {la lb : Nat} (hT : TX T) (I : IV BB m) (R : RX T r la lb) (x0 : Int32) (x1 : Int32) : PM g mX11_check yX11_check (sqI T BB wB r m (-2147483648) 2147483647 (fun m' v => True)) 2 0 0 [.ref 0, .int x0, .int x1] (mk T m n r) := by
  have Kp : fr wB m m := fr.rf
  have R0 := R
  have zR := R.2.2.2.2.1.1
  have zR2 := R.2.2.2.2.2.1
  refine PM.of 2 (lo := [.ref 0, .int x0, .int x1, pv_U, pv_U]) rfl (by decide) rfl rfl (Nat.le_of_ble_eq_true rfl) ?_
  refine pv_aload_n (M := mX11_check) 0 dX11_check_0 1 rfl rfl rfl ?_
  refine pv_iload_n (M := mX11_check) 1 dX11_check_1 2 rfl rfl rfl ?_
  refine pv_callv (M := mX11_check) (as := [.int x0]) (st := []) (kc2 := 0) (ks2 := 0) dX11_check_2 wd700 YX11_isBlank ⟨wd702, wd16⟩ (mk_get (tl0 hT)) rfl rfl (s_X11_isBlank g hT I R x0) rfl rfl (Nat.le_of_ble_eq_true rfl) (by decide) rfl rfl 5 rfl (fun rv h1 q1 => ?_)
  obtain ⟨v2, rfl, rfl, pv2, qv2, rv2⟩ := q1
  replace rv2 : v2 = 0 ∨ (0 ≤ x0.toInt ∧ x0.toInt ≤ 7) := rv2
  show PV _ _ _ _ _ _ _ 5 [.ref 0, .int x0, .int x1, pv_U, pv_U] [.int v2] _
  refine pv_if_eq (M := mX11_check) (tgt := 25) dX11_check_5 8 rfl (by decide) (fun c3 => ?_) (fun c3 => ?_)
  · have c3 := iv_eq (X := v2.toInt) (Y := 0) c3 rfl (by decide)
    refine pv_bipush (M := mX11_check) (v := (-2)) dX11_check_25 27 rfl (by decide) ?_
    exact pv_iret (M := mX11_check) dX11_check_27 rfl rfl ⟨_, _, _, rfl, rfl, I, Kp, by decide, by decide, trivial⟩
  · have pc3 := rv2.resolve_left c3
    have c3 := iv_ne (X := v2.toInt) (Y := 0) c3 rfl (by decide)
    refine pv_iload_n (M := mX11_check) 2 dX11_check_8 9 rfl rfl rfl ?_
    refine pv_if_lt (M := mX11_check) (tgt := 25) dX11_check_9 12 rfl (by decide) (fun c4 => ?_) (fun c4 => ?_)
    · have c4 := iv_lt (X := x1.toInt) (Y := 0) c4 rfl (by decide)
      refine pv_bipush (M := mX11_check) (v := (-2)) dX11_check_25 27 rfl (by decide) ?_
      exact pv_iret (M := mX11_check) dX11_check_27 rfl rfl ⟨_, _, _, rfl, rfl, I, Kp, by decide, by decide, trivial⟩
    · have c4 := iv_nlt (X := x1.toInt) (Y := 0) c4 rfl (by decide)
      refine pv_iload_n (M := mX11_check) 2 dX11_check_12 13 rfl rfl rfl ?_
      refine pv_aload_n (M := mX11_check) 0 dX11_check_13 14 rfl rfl rfl ?_
      refine mv_get (M := mX11_check) (v := .ref 1) dX11_check_14 FX11 0 wd407 (by decide) (tl0 hT) rfl rfl 17 rfl ?_
      refine iv_get (M := mX11_check) (l1 := 0) (l2 := 200) dX11_check_17 FX10 1 wd164 (by decide) (tl1 hT) rfl I rfl 20 rfl (fun v5 ev5 pv5 qv5 => ?_)
      refine pv_iconst (M := mX11_check) (v := 4) dX11_check_20 21 rfl (by decide) ?_
      refine iv_idiv (M := mX11_check) (X := v5.toInt) (Y := 4) dX11_check_21 22 rfl rfl (by decide) (by omega) (by omega) (fun v6 ev6 => ?_)
      refine pv_icmp_le (M := mX11_check) (tgt := 28) dX11_check_22 25 rfl (by decide) (fun c7 => ?_) (fun c7 => ?_)
      · have c7 := iv_le (X := x1.toInt) (Y := v6.toInt) c7 rfl rfl
        refine pv_aload_n (M := mX11_check) 0 dX11_check_28 29 rfl rfl rfl ?_
        refine mv_get (M := mX11_check) (v := .ref 3) dX11_check_29 FX11 1 wd408 (by decide) (tl0 hT) rfl rfl 32 rfl ?_
        refine pv_iload_n (M := mX11_check) 1 dX11_check_32 33 rfl rfl rfl ?_
        refine iv_qblank (M := mX11_check) (X := x0.toInt) dX11_check_33 hT R rfl (by omega) (by omega) 34 rfl (fun b8 eb8 hb8 => ?_)
        have zb8 := hb8.2.2.2.2.2.2.2
        refine mv_get (M := mX11_check) (v := .ref (b8 + 3)) dX11_check_34 FX0 1 wd210 (by decide) hb8.1 rfl rfl 37 rfl ?_
        refine pv_astore_n (M := mX11_check) 3 (lo2 := [.ref 0, .int x0, .int x1, .ref (b8 + 3), pv_U]) dX11_check_37 38 rfl rfl (by decide) rfl rfl ?_
        refine pv_iconst (M := mX11_check) (v := 0) dX11_check_38 39 rfl (by decide) ?_
        refine pv_istore (M := mX11_check) (lo2 := [.ref 0, .int x0, .int x1, .ref (b8 + 3), .int 0]) dX11_check_39 41 rfl (by decide) rfl rfl ?_
        have lp15 : ∀ (fuel14 : Nat) (y9 : Int32), (0 ≤ y9.toInt) → (y9.toInt ≤ 40) → ((40 - y9.toInt) : Int).toNat < fuel14 → PV none g mX11_check (sqI T BB wB r m (-2147483648) 2147483647 (fun m' v => True)) 2 0 0 41 [.ref 0, .int x0, .int x1, .ref (b8 + 3), .int y9] [] (mk T m n r) := by
          intro fuel14
          induction fuel14 with
          | zero => intro y9 b17 b18 z19; omega
          | succ fuel14 ih16 =>
            intro y9 b17 b18 z19
            refine pv_iload (M := mX11_check) dX11_check_41 43 rfl rfl ?_
            refine pv_iload_n (M := mX11_check) 2 dX11_check_43 44 rfl rfl rfl ?_
            refine pv_icmp_ge (M := mX11_check) (tgt := 80) dX11_check_44 47 rfl (by decide) (fun c20 => ?_) (fun c20 => ?_)
            · have c20 := iv_le (X := x1.toInt) (Y := y9.toInt) c20 rfl rfl
              refine pv_aload_n (M := mX11_check) 0 dX11_check_80 81 rfl rfl rfl ?_
              refine mv_get (M := mX11_check) (v := .ref 1) dX11_check_81 FX11 0 wd407 (by decide) (tl0 hT) rfl rfl 84 rfl ?_
              refine pv_iconst (M := mX11_check) (v := 0) dX11_check_84 85 rfl (by decide) ?_
              refine iv_put (M := mX11_check) (l1 := 0) (l2 := 200) dX11_check_85 FX10 1 wd164 (by decide) rfl (tl1 hT) rfl rfl rfl I rfl (by decide) (by decide) 88 rfl (fun m21 e24 I22 => ?_)
              have K23 := Kp.set e24 rfl
              refine pv_iload (M := mX11_check) dX11_check_88 90 rfl rfl ?_
              refine pv_iload_n (M := mX11_check) 2 dX11_check_90 91 rfl rfl rfl ?_
              refine pv_icmp_ne (M := mX11_check) (tgt := 107) dX11_check_91 94 rfl (by decide) (fun c25 => ?_) (fun c25 => ?_)
              · have c25 := iv_ne (X := y9.toInt) (Y := x1.toInt) c25 rfl rfl
                refine pv_iload (M := mX11_check) dX11_check_107 109 rfl rfl ?_
                exact pv_iret (M := mX11_check) dX11_check_109 rfl rfl ⟨_, _, _, rfl, rfl, I22, K23, (iv_rng y9).1, (iv_rng y9).2, trivial⟩
              · have c25 := iv_eq (X := y9.toInt) (Y := x1.toInt) c25 rfl rfl
                refine pv_iload (M := mX11_check) dX11_check_94 96 rfl rfl ?_
                refine pv_aload_n (M := mX11_check) 3 dX11_check_96 97 rfl rfl rfl ?_
                refine iv_get (M := mX11_check) (l1 := 0) (l2 := 40) dX11_check_97 FX8 1 wd200 (by decide) hb8.2.2.1.1 rfl I22 hb8.2.2.1.2.2.1 100 rfl (fun v26 ev26 pv26 qv26 => ?_)
                refine pv_icmp_ne (M := mX11_check) (tgt := 107) dX11_check_100 103 rfl (by decide) (fun c27 => ?_) (fun c27 => ?_)
                · have c27 := iv_ne (X := y9.toInt) (Y := v26.toInt) c27 rfl rfl
                  refine pv_iload (M := mX11_check) dX11_check_107 109 rfl rfl ?_
                  exact pv_iret (M := mX11_check) dX11_check_109 rfl rfl ⟨_, _, _, rfl, rfl, I22, K23, (iv_rng y9).1, (iv_rng y9).2, trivial⟩
                · have c27 := iv_eq (X := y9.toInt) (Y := v26.toInt) c27 rfl rfl
                  refine pv_iconst (M := mX11_check) (v := (-1)) dX11_check_103 104 rfl (by decide) ?_
                  refine pv_goto (M := mX11_check) (tgt := 109) dX11_check_104 (by decide) ?_
                  exact pv_iret (M := mX11_check) dX11_check_109 rfl rfl ⟨_, _, _, rfl, rfl, I22, K23, by decide, by decide, trivial⟩
            · have c20 := iv_nle (X := x1.toInt) (Y := y9.toInt) c20 rfl rfl
              refine pv_iload (M := mX11_check) dX11_check_47 49 rfl rfl ?_
              refine pv_aload_n (M := mX11_check) 3 dX11_check_49 50 rfl rfl rfl ?_
              refine iv_get (M := mX11_check) (l1 := 0) (l2 := 40) dX11_check_50 FX8 1 wd200 (by decide) hb8.2.2.1.1 rfl I hb8.2.2.1.2.2.1 53 rfl (fun v28 ev28 pv28 qv28 => ?_)
              refine pv_icmp_ge (M := mX11_check) (tgt := 80) dX11_check_53 56 rfl (by decide) (fun c29 => ?_) (fun c29 => ?_)
              · have c29 := iv_le (X := v28.toInt) (Y := y9.toInt) c29 rfl rfl
                refine pv_aload_n (M := mX11_check) 0 dX11_check_80 81 rfl rfl rfl ?_
                refine mv_get (M := mX11_check) (v := .ref 1) dX11_check_81 FX11 0 wd407 (by decide) (tl0 hT) rfl rfl 84 rfl ?_
                refine pv_iconst (M := mX11_check) (v := 0) dX11_check_84 85 rfl (by decide) ?_
                refine iv_put (M := mX11_check) (l1 := 0) (l2 := 200) dX11_check_85 FX10 1 wd164 (by decide) rfl (tl1 hT) rfl rfl rfl I rfl (by decide) (by decide) 88 rfl (fun m30 e33 I31 => ?_)
                have K32 := Kp.set e33 rfl
                refine pv_iload (M := mX11_check) dX11_check_88 90 rfl rfl ?_
                refine pv_iload_n (M := mX11_check) 2 dX11_check_90 91 rfl rfl rfl ?_
                refine pv_icmp_ne (M := mX11_check) (tgt := 107) dX11_check_91 94 rfl (by decide) (fun c34 => ?_) (fun c34 => ?_)
                · have c34 := iv_ne (X := y9.toInt) (Y := x1.toInt) c34 rfl rfl
                  refine pv_iload (M := mX11_check) dX11_check_107 109 rfl rfl ?_
                  exact pv_iret (M := mX11_check) dX11_check_109 rfl rfl ⟨_, _, _, rfl, rfl, I31, K32, (iv_rng y9).1, (iv_rng y9).2, trivial⟩
                · have c34 := iv_eq (X := y9.toInt) (Y := x1.toInt) c34 rfl rfl
                  refine pv_iload (M := mX11_check) dX11_check_94 96 rfl rfl ?_
                  refine pv_aload_n (M := mX11_check) 3 dX11_check_96 97 rfl rfl rfl ?_
                  refine iv_get (M := mX11_check) (l1 := 0) (l2 := 40) dX11_check_97 FX8 1 wd200 (by decide) hb8.2.2.1.1 rfl I31 hb8.2.2.1.2.2.1 100 rfl (fun v35 ev35 pv35 qv35 => ?_)
                  refine pv_icmp_ne (M := mX11_check) (tgt := 107) dX11_check_100 103 rfl (by decide) (fun c36 => ?_) (fun c36 => ?_)
                  · have c36 := iv_ne (X := y9.toInt) (Y := v35.toInt) c36 rfl rfl
                    refine pv_iload (M := mX11_check) dX11_check_107 109 rfl rfl ?_
                    exact pv_iret (M := mX11_check) dX11_check_109 rfl rfl ⟨_, _, _, rfl, rfl, I31, K32, (iv_rng y9).1, (iv_rng y9).2, trivial⟩
                  · have c36 := iv_eq (X := y9.toInt) (Y := v35.toInt) c36 rfl rfl
                    refine pv_iconst (M := mX11_check) (v := (-1)) dX11_check_103 104 rfl (by decide) ?_
                    refine pv_goto (M := mX11_check) (tgt := 109) dX11_check_104 (by decide) ?_
                    exact pv_iret (M := mX11_check) dX11_check_109 rfl rfl ⟨_, _, _, rfl, rfl, I31, K32, by decide, by decide, trivial⟩
              · have c29 := iv_nle (X := v28.toInt) (Y := y9.toInt) c29 rfl rfl
                refine pv_aload_n (M := mX11_check) 0 dX11_check_56 57 rfl rfl rfl ?_
                refine mv_get (M := mX11_check) (v := .ref 1) dX11_check_57 FX11 0 wd407 (by decide) (tl0 hT) rfl rfl 60 rfl ?_
                refine pv_iload (M := mX11_check) dX11_check_60 62 rfl rfl ?_
                refine pv_callv (M := mX11_check) (as := [.int y9]) (st := []) (kc2 := 0) (ks2 := 0) dX11_check_62 wd1155 YX10_numberAt ⟨wd1156, wd1157⟩ (mk_get (tl1 hT)) rfl rfl (s_X10_numberAt g hT I y9) rfl rfl (Nat.le_of_ble_eq_true rfl) (by decide) rfl rfl 65 rfl (fun rv h1 q37 => ?_)
                obtain ⟨v38, rfl, rfl, pv38, qv38, rv38⟩ := q37
                show PV _ _ _ _ _ _ _ 65 [.ref 0, .int x0, .int x1, .ref (b8 + 3), .int y9] [.int v38] _
                refine pv_aload_n (M := mX11_check) 3 dX11_check_65 66 rfl rfl rfl ?_
                refine pv_iload (M := mX11_check) dX11_check_66 68 rfl rfl ?_
                refine pv_callv (M := mX11_check) (as := [.int y9]) (st := [.int v38]) (kc2 := 0) (ks2 := 0) dX11_check_68 wd704 YX8_at ⟨wd705, wd706⟩ (mk_get hb8.2.2.1.1) rfl rfl (s_X8_at g hT I (b8 + 3) 40 hb8.2.2.1 y9) rfl rfl (Nat.le_of_ble_eq_true rfl) (by decide) rfl rfl 71 rfl (fun rv h1 q39 => ?_)
                obtain ⟨v40, rfl, rfl, pv40, qv40, rv40⟩ := q39
                replace rv40 : v40.toInt = atv m (b8 + 3) y9.toInt := rv40
                show PV _ _ _ _ _ _ _ 71 [.ref 0, .int x0, .int x1, .ref (b8 + 3), .int y9] [.int v40, .int v38] _
                refine pv_icmp_ne (M := mX11_check) (tgt := 80) dX11_check_71 74 rfl (by decide) (fun c41 => ?_) (fun c41 => ?_)
                · have c41 := iv_ne (X := v38.toInt) (Y := v40.toInt) c41 rfl rfl
                  refine pv_aload_n (M := mX11_check) 0 dX11_check_80 81 rfl rfl rfl ?_
                  refine mv_get (M := mX11_check) (v := .ref 1) dX11_check_81 FX11 0 wd407 (by decide) (tl0 hT) rfl rfl 84 rfl ?_
                  refine pv_iconst (M := mX11_check) (v := 0) dX11_check_84 85 rfl (by decide) ?_
                  refine iv_put (M := mX11_check) (l1 := 0) (l2 := 200) dX11_check_85 FX10 1 wd164 (by decide) rfl (tl1 hT) rfl rfl rfl I rfl (by decide) (by decide) 88 rfl (fun m42 e45 I43 => ?_)
                  have K44 := Kp.set e45 rfl
                  refine pv_iload (M := mX11_check) dX11_check_88 90 rfl rfl ?_
                  refine pv_iload_n (M := mX11_check) 2 dX11_check_90 91 rfl rfl rfl ?_
                  refine pv_icmp_ne (M := mX11_check) (tgt := 107) dX11_check_91 94 rfl (by decide) (fun c46 => ?_) (fun c46 => ?_)
                  · have c46 := iv_ne (X := y9.toInt) (Y := x1.toInt) c46 rfl rfl
                    refine pv_iload (M := mX11_check) dX11_check_107 109 rfl rfl ?_
                    exact pv_iret (M := mX11_check) dX11_check_109 rfl rfl ⟨_, _, _, rfl, rfl, I43, K44, (iv_rng y9).1, (iv_rng y9).2, trivial⟩
                  · have c46 := iv_eq (X := y9.toInt) (Y := x1.toInt) c46 rfl rfl
                    refine pv_iload (M := mX11_check) dX11_check_94 96 rfl rfl ?_
                    refine pv_aload_n (M := mX11_check) 3 dX11_check_96 97 rfl rfl rfl ?_
                    refine iv_get (M := mX11_check) (l1 := 0) (l2 := 40) dX11_check_97 FX8 1 wd200 (by decide) hb8.2.2.1.1 rfl I43 hb8.2.2.1.2.2.1 100 rfl (fun v47 ev47 pv47 qv47 => ?_)
                    refine pv_icmp_ne (M := mX11_check) (tgt := 107) dX11_check_100 103 rfl (by decide) (fun c48 => ?_) (fun c48 => ?_)
                    · have c48 := iv_ne (X := y9.toInt) (Y := v47.toInt) c48 rfl rfl
                      refine pv_iload (M := mX11_check) dX11_check_107 109 rfl rfl ?_
                      exact pv_iret (M := mX11_check) dX11_check_109 rfl rfl ⟨_, _, _, rfl, rfl, I43, K44, (iv_rng y9).1, (iv_rng y9).2, trivial⟩
                    · have c48 := iv_eq (X := y9.toInt) (Y := v47.toInt) c48 rfl rfl
                      refine pv_iconst (M := mX11_check) (v := (-1)) dX11_check_103 104 rfl (by decide) ?_
                      refine pv_goto (M := mX11_check) (tgt := 109) dX11_check_104 (by decide) ?_
                      exact pv_iret (M := mX11_check) dX11_check_109 rfl rfl ⟨_, _, _, rfl, rfl, I43, K44, by decide, by decide, trivial⟩
                · have c41 := iv_eq (X := v38.toInt) (Y := v40.toInt) c41 rfl rfl
                  refine iv_inc (M := mX11_check) (C := 1) dX11_check_74 77 rfl rfl (by decide) rfl rfl (by decide) (by omega) (by omega) (fun v49 ev49 => ?_)
                  show PV _ _ _ _ _ _ _ 77 [.ref 0, .int x0, .int x1, .ref (b8 + 3), .int v49] [] _
                  refine pv_goto (M := mX11_check) (tgt := 41) dX11_check_77 (by decide) ?_
                  exact ih16 v49 (by first | omega | assumption | exact (iv_rng _).2 | exact (iv_rng _).1 | decide) (by first | omega | assumption | exact (iv_rng _).2 | exact (iv_rng _).1 | decide) (by omega)
        have z50 : (0 : Int32).toInt = 0 := by decide
        exact lp15 (((40 - 0) : Int).toNat + 1) 0 (by first | omega | assumption | exact (iv_rng _).2 | exact (iv_rng _).1 | decide) (by first | omega | assumption | exact (iv_rng _).2 | exact (iv_rng _).1 | decide) (by omega)
      · have c7 := iv_nle (X := x1.toInt) (Y := v6.toInt) c7 rfl rfl
        refine pv_bipush (M := mX11_check) (v := (-2)) dX11_check_25 27 rfl (by decide) ?_
        exact pv_iret (M := mX11_check) dX11_check_27 rfl rfl ⟨_, _, _, rfl, rfl, I, Kp, by decide, by decide, trivial⟩

set_option maxHeartbeats 2000000 in
set_option maxRecDepth 20000 in
theorem s_X11_deed_v0d (g : pv_G) {T : List mv_T} {m : Nat → Nat → Int32} {n : Nat → Nat → Int64} {r : Nat → Value} {la lb : Nat} (hT : TX T) (I : IV BB m) (R : RX T r la lb) (hc0 : r 2 = .null) (x0 : Int32) (x1 : Int32) : PM g mX11_deed yX11_deed (sqI T BB wB r m (-2147483648) 2147483647 (fun m' v => True)) 3 0 0 [.ref 0, .int x0, .int x1] (mk T m n r) := by
  have Kp : fr wB m m := fr.rf
  have R0 := R
  have zR := R.2.2.2.2.1.1
  have zR2 := R.2.2.2.2.2.1
  refine PM.of 1 (lo := [.ref 0, .int x0, .int x1, pv_U]) rfl (by decide) rfl rfl (Nat.le_of_ble_eq_true rfl) ?_
  refine pv_iload_n (M := mX11_deed) 1 dX11_deed_0 1 rfl rfl rfl ?_
  refine pv_if_lt (M := mX11_deed) (tgt := 32) dX11_deed_1 4 rfl (by decide) (fun c1 => ?_) (fun c1 => ?_)
  · have c1 := iv_lt (X := x0.toInt) (Y := 0) c1 rfl (by decide)
    refine pv_iconst (M := mX11_deed) (v := (-1)) dX11_deed_32 33 rfl (by decide) ?_
    exact pv_iret (M := mX11_deed) dX11_deed_33 rfl rfl ⟨_, _, _, rfl, rfl, I, Kp, by decide, by decide, trivial⟩
  · have c1 := iv_nlt (X := x0.toInt) (Y := 0) c1 rfl (by decide)
    refine pv_iload_n (M := mX11_deed) 1 dX11_deed_4 5 rfl rfl rfl ?_
    refine pv_bipush (M := mX11_deed) (v := 8) dX11_deed_5 7 rfl (by decide) ?_
    refine pv_icmp_ge (M := mX11_deed) (tgt := 32) dX11_deed_7 10 rfl (by decide) (fun c2 => ?_) (fun c2 => ?_)
    · have c2 := iv_le (X := 8) (Y := x0.toInt) c2 (by decide) rfl
      refine pv_iconst (M := mX11_deed) (v := (-1)) dX11_deed_32 33 rfl (by decide) ?_
      exact pv_iret (M := mX11_deed) dX11_deed_33 rfl rfl ⟨_, _, _, rfl, rfl, I, Kp, by decide, by decide, trivial⟩
    · have c2 := iv_nle (X := 8) (Y := x0.toInt) c2 (by decide) rfl
      refine pv_iload_n (M := mX11_deed) 2 dX11_deed_10 11 rfl rfl rfl ?_
      refine pv_iconst (M := mX11_deed) (v := 1) dX11_deed_11 12 rfl (by decide) ?_
      refine pv_icmp_lt (M := mX11_deed) (tgt := 32) dX11_deed_12 15 rfl (by decide) (fun c3 => ?_) (fun c3 => ?_)
      · have c3 := iv_lt (X := x1.toInt) (Y := 1) c3 rfl (by decide)
        refine pv_iconst (M := mX11_deed) (v := (-1)) dX11_deed_32 33 rfl (by decide) ?_
        exact pv_iret (M := mX11_deed) dX11_deed_33 rfl rfl ⟨_, _, _, rfl, rfl, I, Kp, by decide, by decide, trivial⟩
      · have c3 := iv_nlt (X := x1.toInt) (Y := 1) c3 rfl (by decide)
        refine pv_iload_n (M := mX11_deed) 2 dX11_deed_15 16 rfl rfl rfl ?_
        refine pv_bipush (M := mX11_deed) (v := 16) dX11_deed_16 18 rfl (by decide) ?_
        refine pv_icmp_gt (M := mX11_deed) (tgt := 32) dX11_deed_18 21 rfl (by decide) (fun c4 => ?_) (fun c4 => ?_)
        · have c4 := iv_lt (X := 16) (Y := x1.toInt) c4 (by decide) rfl
          refine pv_iconst (M := mX11_deed) (v := (-1)) dX11_deed_32 33 rfl (by decide) ?_
          exact pv_iret (M := mX11_deed) dX11_deed_33 rfl rfl ⟨_, _, _, rfl, rfl, I, Kp, by decide, by decide, trivial⟩
        · have c4 := iv_nlt (X := 16) (Y := x1.toInt) c4 (by decide) rfl
          refine pv_iload_n (M := mX11_deed) 2 dX11_deed_21 22 rfl rfl rfl ?_
          refine pv_aload_n (M := mX11_deed) 0 dX11_deed_22 23 rfl rfl rfl ?_
          refine mv_get (M := mX11_deed) (v := .ref 1) dX11_deed_23 FX11 0 wd407 (by decide) (tl0 hT) rfl rfl 26 rfl ?_
          refine iv_get (M := mX11_deed) (l1 := 0) (l2 := 200) dX11_deed_26 FX10 1 wd164 (by decide) (tl1 hT) rfl I rfl 29 rfl (fun v5 ev5 pv5 qv5 => ?_)
          refine pv_icmp_le (M := mX11_deed) (tgt := 34) dX11_deed_29 32 rfl (by decide) (fun c6 => ?_) (fun c6 => ?_)
          · have c6 := iv_le (X := x1.toInt) (Y := v5.toInt) c6 rfl rfl
            refine pv_aload_n (M := mX11_deed) 0 dX11_deed_34 35 rfl rfl rfl ?_
            refine mv_get (M := mX11_deed) (v := .ref 1) dX11_deed_35 FX11 0 wd407 (by decide) (tl0 hT) rfl rfl 38 rfl ?_
            refine pv_iload_n (M := mX11_deed) 2 dX11_deed_38 39 rfl rfl rfl ?_
            refine pv_callv (M := mX11_deed) (as := [.int x1]) (st := []) (kc2 := 0) (ks2 := 0) dX11_deed_39 wd479 YX10_holdsLetters ⟨wd480, wd481⟩ (mk_get (tl1 hT)) rfl rfl (s_X10_holdsLetters g hT I x1) rfl rfl (Nat.le_of_ble_eq_true rfl) (by decide) rfl rfl 42 rfl (fun rv h1 q7 => ?_)
            obtain ⟨v8, rfl, rfl, pv8, qv8, rv8⟩ := q7
            show PV _ _ _ _ _ _ _ 42 [.ref 0, .int x0, .int x1, pv_U] [.int v8] _
            refine pv_istore_n (M := mX11_deed) 3 (lo2 := [.ref 0, .int x0, .int x1, .int v8]) dX11_deed_42 43 rfl rfl (by decide) rfl rfl ?_
            refine pv_iload_n (M := mX11_deed) 3 dX11_deed_43 44 rfl rfl rfl ?_
            refine pv_if_eq (M := mX11_deed) (tgt := 65) dX11_deed_44 47 rfl (by decide) (fun c9 => ?_) (fun c9 => ?_)
            · have c9 := iv_eq (X := v8.toInt) (Y := 0) c9 rfl (by decide)
              refine pv_aload_n (M := mX11_deed) 0 dX11_deed_65 66 rfl rfl rfl ?_
              refine mv_get (M := mX11_deed) (v := .ref 1) dX11_deed_66 FX11 0 wd407 (by decide) (tl0 hT) rfl rfl 69 rfl ?_
              refine pv_iconst (M := mX11_deed) (v := 0) dX11_deed_69 70 rfl (by decide) ?_
              refine iv_put (M := mX11_deed) (l1 := 0) (l2 := 200) dX11_deed_70 FX10 1 wd164 (by decide) rfl (tl1 hT) rfl rfl rfl I rfl (by decide) (by decide) 73 rfl (fun m10 e13 I11 => ?_)
              have K12 := Kp.set e13 rfl
              refine pv_iload_n (M := mX11_deed) 3 dX11_deed_73 74 rfl rfl rfl ?_
              refine pv_if_eq (M := mX11_deed) (tgt := 81) dX11_deed_74 77 rfl (by decide) (fun c14 => ?_) (fun c14 => ?_)
              · have c14 := iv_eq (X := v8.toInt) (Y := 0) c14 rfl (by decide)
                refine pv_bipush (M := mX11_deed) (v := (-2)) dX11_deed_81 83 rfl (by decide) ?_
                exact pv_iret (M := mX11_deed) dX11_deed_83 rfl rfl ⟨_, _, _, rfl, rfl, I11, K12, by decide, by decide, trivial⟩
              · have c14 := iv_ne (X := v8.toInt) (Y := 0) c14 rfl (by decide)
                omega
            · have c9 := iv_ne (X := v8.toInt) (Y := 0) c9 rfl (by decide)
              refine pv_aload_n (M := mX11_deed) 0 dX11_deed_47 48 rfl rfl rfl ?_
              refine mv_get (M := mX11_deed) (v := .ref 1) dX11_deed_48 FX11 0 wd407 (by decide) (tl0 hT) rfl rfl 51 rfl ?_
              refine pv_iload_n (M := mX11_deed) 2 dX11_deed_51 52 rfl rfl rfl ?_
              refine pv_aload_n (M := mX11_deed) 0 dX11_deed_52 53 rfl rfl rfl ?_
              refine mv_get (M := mX11_deed) (v := .ref 60) dX11_deed_53 FX11 3 wd410 (by decide) (tl0 hT) rfl rfl 56 rfl ?_
              refine pv_iload_n (M := mX11_deed) 1 dX11_deed_56 57 rfl rfl rfl ?_
              refine iv_qdeed (M := mX11_deed) (X := x0.toInt) dX11_deed_57 hT R rfl (by omega) (by omega) 58 rfl (fun b15 eb15 hb15 => ?_)
              have zb15 := hb15.2.2.2.2
              refine pv_callv (M := mX11_deed) (as := [.int x1, .ref b15]) (st := []) (kc2 := 0) (ks2 := 0) dX11_deed_58 wd483 YX10_copyLetters ⟨wd484, wd485⟩ (mk_get (tl1 hT)) rfl rfl (s_X10_copyLetters g hT I x1 b15 16 hb15) rfl rfl (Nat.le_of_ble_eq_true rfl) (by decide) rfl rfl 61 rfl (fun rv h1 q16 => ?_)
              obtain ⟨m17, n18, rfl, rfl, I19, K20, rm17⟩ := q16
              have K20c := K20
              have K20 := Kp.trans (K20.sub (wr_wB (by omega) (by omega)))
              show PV _ _ _ _ _ _ _ 61 [.ref 0, .int x0, .int x1, .int v8] [] _
              refine pv_aload_n (M := mX11_deed) 0 dX11_deed_61 62 rfl rfl rfl ?_
              refine pv_callv (M := mX11_deed) (as := []) (st := []) (kc2 := 0) (ks2 := 0) dX11_deed_62 wd500 YX11_forgetSolved ⟨wd502, wd0⟩ (mk_get (tl0 hT)) rfl rfl (s_X11_forgetSolved_v0 g hT I19 R hc0) rfl rfl (Nat.le_of_ble_eq_true rfl) (by decide) rfl rfl 65 rfl (fun rv h1 q21 => ?_)
              obtain ⟨m22, n23, rfl, rfl, I24, K25, rm22⟩ := q21
              have K25c := K25
              have K25 := K20.trans (K25.sub wC_wB)
              show PV _ _ _ _ _ _ _ 65 [.ref 0, .int x0, .int x1, .int v8] [] _
              refine pv_aload_n (M := mX11_deed) 0 dX11_deed_65 66 rfl rfl rfl ?_
              refine mv_get (M := mX11_deed) (v := .ref 1) dX11_deed_66 FX11 0 wd407 (by decide) (tl0 hT) rfl rfl 69 rfl ?_
              refine pv_iconst (M := mX11_deed) (v := 0) dX11_deed_69 70 rfl (by decide) ?_
              refine iv_put (M := mX11_deed) (l1 := 0) (l2 := 200) dX11_deed_70 FX10 1 wd164 (by decide) rfl (tl1 hT) rfl rfl rfl I24 rfl (by decide) (by decide) 73 rfl (fun m26 e29 I27 => ?_)
              have K28 := K25.set e29 rfl
              refine pv_iload_n (M := mX11_deed) 3 dX11_deed_73 74 rfl rfl rfl ?_
              refine pv_if_eq (M := mX11_deed) (tgt := 81) dX11_deed_74 77 rfl (by decide) (fun c30 => ?_) (fun c30 => ?_)
              · have c30 := iv_eq (X := v8.toInt) (Y := 0) c30 rfl (by decide)
                omega
              · have c30 := iv_ne (X := v8.toInt) (Y := 0) c30 rfl (by decide)
                refine pv_iload_n (M := mX11_deed) 2 dX11_deed_77 78 rfl rfl rfl ?_
                refine pv_goto (M := mX11_deed) (tgt := 83) dX11_deed_78 (by decide) ?_
                exact pv_iret (M := mX11_deed) dX11_deed_83 rfl rfl ⟨_, _, _, rfl, rfl, I27, K28, (iv_rng x1).1, (iv_rng x1).2, trivial⟩
          · have c6 := iv_nle (X := x1.toInt) (Y := v5.toInt) c6 rfl rfl
            refine pv_iconst (M := mX11_deed) (v := (-1)) dX11_deed_32 33 rfl (by decide) ?_
            exact pv_iret (M := mX11_deed) dX11_deed_33 rfl rfl ⟨_, _, _, rfl, rfl, I, Kp, by decide, by decide, trivial⟩

set_option maxHeartbeats 2000000 in
set_option maxRecDepth 20000 in
theorem s_X11_deed_vcd (g : pv_G) {T : List mv_T} {m : Nat → Nat → Int32} {n : Nat → Nat → Int64} {r : Nat → Value} {la lb : Nat} (hT : TX T) (I : IV BB m) (R : RX T r la lb) (hC : TC T) (hc2 : r 2 = .ref 169) (x0 : Int32) (x1 : Int32) : PM g mX11_deed yX11_deed (sqI T BB wB r m (-2147483648) 2147483647 (fun m' v => True)) 3 0 0 [.ref 0, .int x0, .int x1] (mk T m n r) := by
  have Kp : fr wB m m := fr.rf
  have R0 := R
  have zR := R.2.2.2.2.1.1
  have zR2 := R.2.2.2.2.2.1
  have hc20 := hc2
  refine PM.of 1 (lo := [.ref 0, .int x0, .int x1, pv_U]) rfl (by decide) rfl rfl (Nat.le_of_ble_eq_true rfl) ?_
  refine pv_iload_n (M := mX11_deed) 1 dX11_deed_0 1 rfl rfl rfl ?_
  refine pv_if_lt (M := mX11_deed) (tgt := 32) dX11_deed_1 4 rfl (by decide) (fun c1 => ?_) (fun c1 => ?_)
  · have c1 := iv_lt (X := x0.toInt) (Y := 0) c1 rfl (by decide)
    refine pv_iconst (M := mX11_deed) (v := (-1)) dX11_deed_32 33 rfl (by decide) ?_
    exact pv_iret (M := mX11_deed) dX11_deed_33 rfl rfl ⟨_, _, _, rfl, rfl, I, Kp, by decide, by decide, trivial⟩
  · have c1 := iv_nlt (X := x0.toInt) (Y := 0) c1 rfl (by decide)
    refine pv_iload_n (M := mX11_deed) 1 dX11_deed_4 5 rfl rfl rfl ?_
    refine pv_bipush (M := mX11_deed) (v := 8) dX11_deed_5 7 rfl (by decide) ?_
    refine pv_icmp_ge (M := mX11_deed) (tgt := 32) dX11_deed_7 10 rfl (by decide) (fun c2 => ?_) (fun c2 => ?_)
    · have c2 := iv_le (X := 8) (Y := x0.toInt) c2 (by decide) rfl
      refine pv_iconst (M := mX11_deed) (v := (-1)) dX11_deed_32 33 rfl (by decide) ?_
      exact pv_iret (M := mX11_deed) dX11_deed_33 rfl rfl ⟨_, _, _, rfl, rfl, I, Kp, by decide, by decide, trivial⟩
    · have c2 := iv_nle (X := 8) (Y := x0.toInt) c2 (by decide) rfl
      refine pv_iload_n (M := mX11_deed) 2 dX11_deed_10 11 rfl rfl rfl ?_
      refine pv_iconst (M := mX11_deed) (v := 1) dX11_deed_11 12 rfl (by decide) ?_
      refine pv_icmp_lt (M := mX11_deed) (tgt := 32) dX11_deed_12 15 rfl (by decide) (fun c3 => ?_) (fun c3 => ?_)
      · have c3 := iv_lt (X := x1.toInt) (Y := 1) c3 rfl (by decide)
        refine pv_iconst (M := mX11_deed) (v := (-1)) dX11_deed_32 33 rfl (by decide) ?_
        exact pv_iret (M := mX11_deed) dX11_deed_33 rfl rfl ⟨_, _, _, rfl, rfl, I, Kp, by decide, by decide, trivial⟩
      · have c3 := iv_nlt (X := x1.toInt) (Y := 1) c3 rfl (by decide)
        refine pv_iload_n (M := mX11_deed) 2 dX11_deed_15 16 rfl rfl rfl ?_
        refine pv_bipush (M := mX11_deed) (v := 16) dX11_deed_16 18 rfl (by decide) ?_
        refine pv_icmp_gt (M := mX11_deed) (tgt := 32) dX11_deed_18 21 rfl (by decide) (fun c4 => ?_) (fun c4 => ?_)
        · have c4 := iv_lt (X := 16) (Y := x1.toInt) c4 (by decide) rfl
          refine pv_iconst (M := mX11_deed) (v := (-1)) dX11_deed_32 33 rfl (by decide) ?_
          exact pv_iret (M := mX11_deed) dX11_deed_33 rfl rfl ⟨_, _, _, rfl, rfl, I, Kp, by decide, by decide, trivial⟩
        · have c4 := iv_nlt (X := 16) (Y := x1.toInt) c4 (by decide) rfl
          refine pv_iload_n (M := mX11_deed) 2 dX11_deed_21 22 rfl rfl rfl ?_
          refine pv_aload_n (M := mX11_deed) 0 dX11_deed_22 23 rfl rfl rfl ?_
          refine mv_get (M := mX11_deed) (v := .ref 1) dX11_deed_23 FX11 0 wd407 (by decide) (tl0 hT) rfl rfl 26 rfl ?_
          refine iv_get (M := mX11_deed) (l1 := 0) (l2 := 200) dX11_deed_26 FX10 1 wd164 (by decide) (tl1 hT) rfl I rfl 29 rfl (fun v5 ev5 pv5 qv5 => ?_)
          refine pv_icmp_le (M := mX11_deed) (tgt := 34) dX11_deed_29 32 rfl (by decide) (fun c6 => ?_) (fun c6 => ?_)
          · have c6 := iv_le (X := x1.toInt) (Y := v5.toInt) c6 rfl rfl
            refine pv_aload_n (M := mX11_deed) 0 dX11_deed_34 35 rfl rfl rfl ?_
            refine mv_get (M := mX11_deed) (v := .ref 1) dX11_deed_35 FX11 0 wd407 (by decide) (tl0 hT) rfl rfl 38 rfl ?_
            refine pv_iload_n (M := mX11_deed) 2 dX11_deed_38 39 rfl rfl rfl ?_
            refine pv_callv (M := mX11_deed) (as := [.int x1]) (st := []) (kc2 := 0) (ks2 := 0) dX11_deed_39 wd479 YX10_holdsLetters ⟨wd480, wd481⟩ (mk_get (tl1 hT)) rfl rfl (s_X10_holdsLetters g hT I x1) rfl rfl (Nat.le_of_ble_eq_true rfl) (by decide) rfl rfl 42 rfl (fun rv h1 q7 => ?_)
            obtain ⟨v8, rfl, rfl, pv8, qv8, rv8⟩ := q7
            show PV _ _ _ _ _ _ _ 42 [.ref 0, .int x0, .int x1, pv_U] [.int v8] _
            refine pv_istore_n (M := mX11_deed) 3 (lo2 := [.ref 0, .int x0, .int x1, .int v8]) dX11_deed_42 43 rfl rfl (by decide) rfl rfl ?_
            refine pv_iload_n (M := mX11_deed) 3 dX11_deed_43 44 rfl rfl rfl ?_
            refine pv_if_eq (M := mX11_deed) (tgt := 65) dX11_deed_44 47 rfl (by decide) (fun c9 => ?_) (fun c9 => ?_)
            · have c9 := iv_eq (X := v8.toInt) (Y := 0) c9 rfl (by decide)
              refine pv_aload_n (M := mX11_deed) 0 dX11_deed_65 66 rfl rfl rfl ?_
              refine mv_get (M := mX11_deed) (v := .ref 1) dX11_deed_66 FX11 0 wd407 (by decide) (tl0 hT) rfl rfl 69 rfl ?_
              refine pv_iconst (M := mX11_deed) (v := 0) dX11_deed_69 70 rfl (by decide) ?_
              refine iv_put (M := mX11_deed) (l1 := 0) (l2 := 200) dX11_deed_70 FX10 1 wd164 (by decide) rfl (tl1 hT) rfl rfl rfl I rfl (by decide) (by decide) 73 rfl (fun m10 e13 I11 => ?_)
              have K12 := Kp.set e13 rfl
              refine pv_iload_n (M := mX11_deed) 3 dX11_deed_73 74 rfl rfl rfl ?_
              refine pv_if_eq (M := mX11_deed) (tgt := 81) dX11_deed_74 77 rfl (by decide) (fun c14 => ?_) (fun c14 => ?_)
              · have c14 := iv_eq (X := v8.toInt) (Y := 0) c14 rfl (by decide)
                refine pv_bipush (M := mX11_deed) (v := (-2)) dX11_deed_81 83 rfl (by decide) ?_
                exact pv_iret (M := mX11_deed) dX11_deed_83 rfl rfl ⟨_, _, _, rfl, rfl, I11, K12, by decide, by decide, trivial⟩
              · have c14 := iv_ne (X := v8.toInt) (Y := 0) c14 rfl (by decide)
                omega
            · have c9 := iv_ne (X := v8.toInt) (Y := 0) c9 rfl (by decide)
              refine pv_aload_n (M := mX11_deed) 0 dX11_deed_47 48 rfl rfl rfl ?_
              refine mv_get (M := mX11_deed) (v := .ref 1) dX11_deed_48 FX11 0 wd407 (by decide) (tl0 hT) rfl rfl 51 rfl ?_
              refine pv_iload_n (M := mX11_deed) 2 dX11_deed_51 52 rfl rfl rfl ?_
              refine pv_aload_n (M := mX11_deed) 0 dX11_deed_52 53 rfl rfl rfl ?_
              refine mv_get (M := mX11_deed) (v := .ref 60) dX11_deed_53 FX11 3 wd410 (by decide) (tl0 hT) rfl rfl 56 rfl ?_
              refine pv_iload_n (M := mX11_deed) 1 dX11_deed_56 57 rfl rfl rfl ?_
              refine iv_qdeed (M := mX11_deed) (X := x0.toInt) dX11_deed_57 hT R rfl (by omega) (by omega) 58 rfl (fun b15 eb15 hb15 => ?_)
              have zb15 := hb15.2.2.2.2
              refine pv_callv (M := mX11_deed) (as := [.int x1, .ref b15]) (st := []) (kc2 := 0) (ks2 := 0) dX11_deed_58 wd483 YX10_copyLetters ⟨wd484, wd485⟩ (mk_get (tl1 hT)) rfl rfl (s_X10_copyLetters g hT I x1 b15 16 hb15) rfl rfl (Nat.le_of_ble_eq_true rfl) (by decide) rfl rfl 61 rfl (fun rv h1 q16 => ?_)
              obtain ⟨m17, n18, rfl, rfl, I19, K20, rm17⟩ := q16
              have K20c := K20
              have K20 := Kp.trans (K20.sub (wr_wB (by omega) (by omega)))
              show PV _ _ _ _ _ _ _ 61 [.ref 0, .int x0, .int x1, .int v8] [] _
              refine pv_aload_n (M := mX11_deed) 0 dX11_deed_61 62 rfl rfl rfl ?_
              refine pv_callv (M := mX11_deed) (as := []) (st := []) (kc2 := 0) (ks2 := 0) dX11_deed_62 wd500 YX11_forgetSolved ⟨wd502, wd0⟩ (mk_get (tl0 hT)) rfl rfl (s_X11_forgetSolved_vc g hT I19 R hC hc2) rfl rfl (Nat.le_of_ble_eq_true rfl) (by decide) rfl rfl 65 rfl (fun rv h1 q21 => ?_)
              obtain ⟨m22, n23, rfl, rfl, I24, K25, rm22⟩ := q21
              have K25c := K25
              have K25 := K20.trans (K25.sub wC_wB)
              show PV _ _ _ _ _ _ _ 65 [.ref 0, .int x0, .int x1, .int v8] [] _
              refine pv_aload_n (M := mX11_deed) 0 dX11_deed_65 66 rfl rfl rfl ?_
              refine mv_get (M := mX11_deed) (v := .ref 1) dX11_deed_66 FX11 0 wd407 (by decide) (tl0 hT) rfl rfl 69 rfl ?_
              refine pv_iconst (M := mX11_deed) (v := 0) dX11_deed_69 70 rfl (by decide) ?_
              refine iv_put (M := mX11_deed) (l1 := 0) (l2 := 200) dX11_deed_70 FX10 1 wd164 (by decide) rfl (tl1 hT) rfl rfl rfl I24 rfl (by decide) (by decide) 73 rfl (fun m26 e29 I27 => ?_)
              have K28 := K25.set e29 rfl
              refine pv_iload_n (M := mX11_deed) 3 dX11_deed_73 74 rfl rfl rfl ?_
              refine pv_if_eq (M := mX11_deed) (tgt := 81) dX11_deed_74 77 rfl (by decide) (fun c30 => ?_) (fun c30 => ?_)
              · have c30 := iv_eq (X := v8.toInt) (Y := 0) c30 rfl (by decide)
                omega
              · have c30 := iv_ne (X := v8.toInt) (Y := 0) c30 rfl (by decide)
                refine pv_iload_n (M := mX11_deed) 2 dX11_deed_77 78 rfl rfl rfl ?_
                refine pv_goto (M := mX11_deed) (tgt := 83) dX11_deed_78 (by decide) ?_
                exact pv_iret (M := mX11_deed) dX11_deed_83 rfl rfl ⟨_, _, _, rfl, rfl, I27, K28, (iv_rng x1).1, (iv_rng x1).2, trivial⟩
          · have c6 := iv_nle (X := x1.toInt) (Y := v5.toInt) c6 rfl rfl
            refine pv_iconst (M := mX11_deed) (v := (-1)) dX11_deed_32 33 rfl (by decide) ?_
            exact pv_iret (M := mX11_deed) dX11_deed_33 rfl rfl ⟨_, _, _, rfl, rfl, I, Kp, by decide, by decide, trivial⟩

set_option maxHeartbeats 2000000 in
set_option maxRecDepth 20000 in
theorem s_X11_law_vd (g : pv_G) {T : List mv_T} {m : Nat → Nat → Int32} {n : Nat → Nat → Int64} {r : Nat → Value} {la lb : Nat} (hT : TX T) (I : IV BB m) (R : RX T r la lb) (hK : TK T) (x0 : Int32) : PM g mX11_law yX11_law (sqIr T BB wB rl r m (-2147483648) 2147483647 (fun m' r' v => RXE T r')) 28 0 0 [.ref 0, .int x0] (mk T m n r) := by
  have Kp : fr wB m m := fr.rf
  have R0 := R
  have zR := R.2.2.2.2.1.1
  have zR2 := R.2.2.2.2.2.1
  refine PM.of 1 (lo := [.ref 0, .int x0, pv_U]) rfl (by decide) rfl rfl (Nat.le_of_ble_eq_true rfl) ?_
  refine pv_iload_n (M := mX11_law) 1 dX11_law_0 1 rfl rfl rfl ?_
  refine pv_iconst (M := mX11_law) (v := 1) dX11_law_1 2 rfl (by decide) ?_
  refine pv_icmp_lt (M := mX11_law) (tgt := 23) dX11_law_2 5 rfl (by decide) (fun c1 => ?_) (fun c1 => ?_)
  · have c1 := iv_lt (X := x0.toInt) (Y := 1) c1 rfl (by decide)
    refine pv_iconst (M := mX11_law) (v := (-1)) dX11_law_23 24 rfl (by decide) ?_
    have z2 : ((-1) : Int32).toInt = (-1) := by decide
    exact pv_iret (M := mX11_law) dX11_law_24 rfl rfl ⟨_, _, _, _, rfl, rfl, I, Kp, rl.rf, by decide, by decide, (by first | exact ⟨_, _, R⟩ | exact RX_swap R kx er)⟩
  · have c1 := iv_nlt (X := x0.toInt) (Y := 1) c1 rfl (by decide)
    refine pv_iload_n (M := mX11_law) 1 dX11_law_5 6 rfl rfl rfl ?_
    refine pv_sipush (M := mX11_law) (v := 160) dX11_law_6 9 rfl (by decide) ?_
    refine pv_icmp_gt (M := mX11_law) (tgt := 23) dX11_law_9 12 rfl (by decide) (fun c3 => ?_) (fun c3 => ?_)
    · have c3 := iv_lt (X := 160) (Y := x0.toInt) c3 (by decide) rfl
      refine pv_iconst (M := mX11_law) (v := (-1)) dX11_law_23 24 rfl (by decide) ?_
      have z4 : ((-1) : Int32).toInt = (-1) := by decide
      exact pv_iret (M := mX11_law) dX11_law_24 rfl rfl ⟨_, _, _, _, rfl, rfl, I, Kp, rl.rf, by decide, by decide, (by first | exact ⟨_, _, R⟩ | exact RX_swap R kx er)⟩
    · have c3 := iv_nlt (X := 160) (Y := x0.toInt) c3 (by decide) rfl
      refine pv_iload_n (M := mX11_law) 1 dX11_law_12 13 rfl rfl rfl ?_
      refine pv_aload_n (M := mX11_law) 0 dX11_law_13 14 rfl rfl rfl ?_
      refine mv_get (M := mX11_law) (v := .ref 1) dX11_law_14 FX11 0 wd407 (by decide) (tl0 hT) rfl rfl 17 rfl ?_
      refine iv_get (M := mX11_law) (l1 := 0) (l2 := 200) dX11_law_17 FX10 1 wd164 (by decide) (tl1 hT) rfl I rfl 20 rfl (fun v5 ev5 pv5 qv5 => ?_)
      refine pv_icmp_le (M := mX11_law) (tgt := 25) dX11_law_20 23 rfl (by decide) (fun c6 => ?_) (fun c6 => ?_)
      · have c6 := iv_le (X := x0.toInt) (Y := v5.toInt) c6 rfl rfl
        refine pv_aload_n (M := mX11_law) 0 dX11_law_25 26 rfl rfl rfl ?_
        refine mv_get (M := mX11_law) (v := .ref 86) dX11_law_26 FX11 5 wd412 (by decide) (tl0 hT) rfl rfl 29 rfl ?_
        refine pv_aload_n (M := mX11_law) 0 dX11_law_29 30 rfl rfl rfl ?_
        refine mv_get (M := mX11_law) (v := .ref 1) dX11_law_30 FX11 0 wd407 (by decide) (tl0 hT) rfl rfl 33 rfl ?_
        refine mv_get (M := mX11_law) (v := .ref 2) dX11_law_33 FX10 0 wd162 (by decide) (tl1 hT) rfl rfl 36 rfl ?_
        refine pv_iload_n (M := mX11_law) 1 dX11_law_36 37 rfl rfl rfl ?_
        refine pv_callv (M := mX11_law) (as := [.ref 2, .int x0]) (st := []) (kc2 := 0) (ks2 := 0) dX11_law_37 wd508 YX7_read ⟨wd509, wd510⟩ (mk_get (tl86 hT)) rfl rfl (s_X7_read g hT I R x0 (by omega) (by omega)) rfl rfl (Nat.le_of_ble_eq_true rfl) (by decide) rfl rfl 40 rfl (fun rv h1 q7 => ?_)
        obtain ⟨m8, n9, v12, rfl, rfl, I10, K11, pv12, qv12, rv12⟩ := q7
        have K11c := K11
        have K11 := Kp.trans (K11.sub (wr_wB (by omega) (by omega)))
        show PV _ _ _ _ _ _ _ 40 [.ref 0, .int x0, pv_U] [.int v12] _
        refine pv_istore_n (M := mX11_law) 2 (lo2 := [.ref 0, .int x0, .int v12]) dX11_law_40 41 rfl rfl (by decide) rfl rfl ?_
        refine pv_aload_n (M := mX11_law) 0 dX11_law_41 42 rfl rfl rfl ?_
        refine mv_get (M := mX11_law) (v := .ref 1) dX11_law_42 FX11 0 wd407 (by decide) (tl0 hT) rfl rfl 45 rfl ?_
        refine pv_iconst (M := mX11_law) (v := 0) dX11_law_45 46 rfl (by decide) ?_
        refine iv_put (M := mX11_law) (l1 := 0) (l2 := 200) dX11_law_46 FX10 1 wd164 (by decide) rfl (tl1 hT) rfl rfl rfl I10 rfl (by decide) (by decide) 49 rfl (fun m13 e16 I14 => ?_)
        have K15 := K11.set e16 rfl
        refine pv_iload_n (M := mX11_law) 2 dX11_law_49 50 rfl rfl rfl ?_
        refine pv_if_lt (M := mX11_law) (tgt := 68) dX11_law_50 53 rfl (by decide) (fun c17 => ?_) (fun c17 => ?_)
        · have c17 := iv_lt (X := v12.toInt) (Y := 0) c17 rfl (by decide)
          refine pv_iload_n (M := mX11_law) 2 dX11_law_68 69 rfl rfl rfl ?_
          exact pv_iret (M := mX11_law) dX11_law_69 rfl rfl ⟨_, _, _, _, rfl, rfl, I14, K15, rl.rf, (iv_rng v12).1, (iv_rng v12).2, (by first | exact ⟨_, _, R⟩ | exact RX_swap R kx er)⟩
        · have c17 := iv_nlt (X := v12.toInt) (Y := 0) c17 rfl (by decide)
          refine pv_aload_n (M := mX11_law) 0 dX11_law_53 54 rfl rfl rfl ?_
          refine pv_aload_n (M := mX11_law) 0 dX11_law_54 55 rfl rfl rfl ?_
          refine mv_get (M := mX11_law) (v := .ref 86) dX11_law_55 FX11 5 wd412 (by decide) (tl0 hT) rfl rfl 58 rfl ?_
          refine pv_aload_n (M := mX11_law) 0 dX11_law_58 59 rfl rfl rfl ?_
          refine mv_get (M := mX11_law) (v := .ref la) dX11_law_59 FX11 4 wd411 (by decide) (tl0 hT) rfl R.2.2.1 62 rfl ?_
          refine pv_callv (M := mX11_law) (as := [.ref la]) (st := [.ref 0]) (kc2 := 0) (ks2 := 0) dX11_law_62 wd687 YX7_exchange ⟨wd688, wd689⟩ (mk_get (tl86 hT)) rfl rfl (s_X7_exchange g hT I14 R hK la R.2.2.2.2.1) rfl rfl (Nat.le_of_ble_eq_true rfl) (by decide) rfl rfl 65 rfl (fun rv h1 q18 => ?_)
          obtain ⟨m19, n20, r23, rfl, rfl, I21, K22, qr23, rm19⟩ := q18
          replace rm19 : r23 = up1 r 3 (.ref la) := rm19
          have or23 := rl.trans rl.rf qr23
          have K22c := K22
          have K22 := K15.trans (K22.sub (wl_wB (by decide)))
          show PV _ _ _ _ _ _ _ 65 [.ref 0, .int x0, .int v12] [.ref lb, .ref 0] _
          have kx := rm19
          refine mv_putr (M := mX11_law) (j := 1) (v := .ref lb) dX11_law_65 FX11 4 wd411 (by decide) rfl (tl0 hT) rfl (hu_of (by decide)) (NM1k hK) (fun _ => rfl) (fun _ => rfl) 68 rfl (fun r25 er25 => ?_)
          have or25 := rl.set or23 er25 (by decide)
          refine pv_iload_n (M := mX11_law) 2 dX11_law_68 69 rfl rfl rfl ?_
          exact pv_iret (M := mX11_law) dX11_law_69 rfl rfl ⟨_, _, _, _, rfl, rfl, I21, K22, or25, (iv_rng v12).1, (iv_rng v12).2, (by first | exact ⟨_, _, R⟩ | exact RX_swap R kx er25)⟩
      · have c6 := iv_nle (X := x0.toInt) (Y := v5.toInt) c6 rfl rfl
        refine pv_iconst (M := mX11_law) (v := (-1)) dX11_law_23 24 rfl (by decide) ?_
        have z26 : ((-1) : Int32).toInt = (-1) := by decide
        exact pv_iret (M := mX11_law) dX11_law_24 rfl rfl ⟨_, _, _, _, rfl, rfl, I, Kp, rl.rf, by decide, by decide, (by first | exact ⟨_, _, R⟩ | exact RX_swap R kx er)⟩
