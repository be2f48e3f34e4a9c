set_option maxHeartbeats 2000000 in
set_option maxRecDepth 20000 in
theorem s_X11_isBlank (g : pv_G) {T : List mv_T} {m : Nat → Nat → Int32} {n : Nat → Nat → Int64} {r : Nat → Value} {la lb : Nat} (hT : TX T) (I : IV BB m) (R : RX T r la lb) (x0 : Int32) : PM g mX11_isBlank yX11_isBlank (sqP (mk T m n r) 0 1 (fun v => v = 0 ∨ (0 ≤ x0.toInt ∧ x0.toInt ≤ 7))) 1 0 0 [.ref 0, .int x0] (mk T m n r) := by
  have Kp : fr (wl []) m m := fr.rf
  have R0 := R
  have zR := R.2.2.2.2.1.1
  have zR2 := R.2.2.2.2.2.1
  refine PM.of 0 (lo := [.ref 0, .int x0]) rfl (by decide) rfl rfl (Nat.le_of_ble_eq_true rfl) ?_
  refine pv_iload_n (M := mX11_isBlank) 1 dX11_isBlank_0 1 rfl rfl rfl ?_
  refine pv_if_lt (M := mX11_isBlank) (tgt := 16) dX11_isBlank_1 4 rfl (by decide) (fun c1 => ?_) (fun c1 => ?_)
  · have c1 := iv_lt (X := x0.toInt) (Y := 0) c1 rfl (by decide)
    refine pv_iconst (M := mX11_isBlank) (v := 0) dX11_isBlank_16 17 rfl (by decide) ?_
    have z2 : (0 : Int32).toInt = 0 := by decide
    exact pv_iret (M := mX11_isBlank) dX11_isBlank_17 rfl rfl ⟨_, rfl, rfl, by decide, by decide, Or.inl rfl⟩
  · have c1 := iv_nlt (X := x0.toInt) (Y := 0) c1 rfl (by decide)
    refine pv_iload_n (M := mX11_isBlank) 1 dX11_isBlank_4 5 rfl rfl rfl ?_
    refine pv_aload_n (M := mX11_isBlank) 0 dX11_isBlank_5 6 rfl rfl rfl ?_
    refine iv_get (M := mX11_isBlank) (l1 := 0) (l2 := 8) dX11_isBlank_6 FX11 2 wd409 (by decide) (tl0 hT) rfl I rfl 9 rfl (fun v3 ev3 pv3 qv3 => ?_)
    refine pv_icmp_ge (M := mX11_isBlank) (tgt := 16) dX11_isBlank_9 12 rfl (by decide) (fun c4 => ?_) (fun c4 => ?_)
    · have c4 := iv_le (X := v3.toInt) (Y := x0.toInt) c4 rfl rfl
      refine pv_iconst (M := mX11_isBlank) (v := 0) dX11_isBlank_16 17 rfl (by decide) ?_
      have z5 : (0 : Int32).toInt = 0 := by decide
      exact pv_iret (M := mX11_isBlank) dX11_isBlank_17 rfl rfl ⟨_, rfl, rfl, by decide, by decide, Or.inl rfl⟩
    · have c4 := iv_nle (X := v3.toInt) (Y := x0.toInt) c4 rfl rfl
      refine pv_iconst (M := mX11_isBlank) (v := 1) dX11_isBlank_12 13 rfl (by decide) ?_
      refine pv_goto (M := mX11_isBlank) (tgt := 17) dX11_isBlank_13 (by decide) ?_
      have z6 : (1 : Int32).toInt = 1 := by decide
      exact pv_iret (M := mX11_isBlank) dX11_isBlank_17 rfl rfl ⟨_, rfl, rfl, by decide, by decide, (Or.inr (by omega))⟩

set_option maxHeartbeats 2000000 in
set_option maxRecDepth 20000 in
theorem s_X11_isPlace (g : pv_G) {T : List mv_T} {m : Nat → Nat → Int32} {n : Nat → Nat → Int64} {r : Nat → Value} {la lb : Nat} (hT : TX T) (I : IV BB m) (R : RX T r la lb) (x0 : Int32) (x1 : Int32) : PM g mX11_isPlace yX11_isPlace (sqP (mk T m n r) 0 1 (fun v => v = 0 ∨ ((0 ≤ x0.toInt ∧ x0.toInt ≤ 7) ∧ (0 ≤ x1.toInt ∧ x1.toInt ≤ 39)))) 2 0 0 [.ref 0, .int x0, .int x1] (mk T m n r) := by
  have Kp : fr (wl []) m m := fr.rf
  have R0 := R
  have zR := R.2.2.2.2.1.1
  have zR2 := R.2.2.2.2.2.1
  refine PM.of 0 (lo := [.ref 0, .int x0, .int x1]) rfl (by decide) rfl rfl (Nat.le_of_ble_eq_true rfl) ?_
  refine pv_aload_n (M := mX11_isPlace) 0 dX11_isPlace_0 1 rfl rfl rfl ?_
  refine pv_iload_n (M := mX11_isPlace) 1 dX11_isPlace_1 2 rfl rfl rfl ?_
  refine pv_callv (M := mX11_isPlace) (as := [.int x0]) (st := []) (kc2 := 0) (ks2 := 0) dX11_isPlace_2 wd700 YX11_isBlank ⟨wd702, wd16⟩ (mk_get (tl0 hT)) rfl rfl (s_X11_isBlank g hT I R x0) rfl rfl (Nat.le_of_ble_eq_true rfl) (by decide) rfl rfl 5 rfl (fun rv h1 q1 => ?_)
  obtain ⟨v2, rfl, rfl, pv2, qv2, rv2⟩ := q1
  replace rv2 : v2 = 0 ∨ (0 ≤ x0.toInt ∧ x0.toInt ≤ 7) := rv2
  show PV _ _ _ _ _ _ _ 5 [.ref 0, .int x0, .int x1] [.int v2] _
  refine pv_if_eq (M := mX11_isPlace) (tgt := 32) dX11_isPlace_5 8 rfl (by decide) (fun c3 => ?_) (fun c3 => ?_)
  · have c3 := iv_eq (X := v2.toInt) (Y := 0) c3 rfl (by decide)
    refine pv_iconst (M := mX11_isPlace) (v := 0) dX11_isPlace_32 33 rfl (by decide) ?_
    have z4 : (0 : Int32).toInt = 0 := by decide
    exact pv_iret (M := mX11_isPlace) dX11_isPlace_33 rfl rfl ⟨_, rfl, rfl, by decide, by decide, Or.inl rfl⟩
  · have pc3 := rv2.resolve_left c3
    have c3 := iv_ne (X := v2.toInt) (Y := 0) c3 rfl (by decide)
    refine pv_iload_n (M := mX11_isPlace) 2 dX11_isPlace_8 9 rfl rfl rfl ?_
    refine pv_if_lt (M := mX11_isPlace) (tgt := 32) dX11_isPlace_9 12 rfl (by decide) (fun c5 => ?_) (fun c5 => ?_)
    · have c5 := iv_lt (X := x1.toInt) (Y := 0) c5 rfl (by decide)
      refine pv_iconst (M := mX11_isPlace) (v := 0) dX11_isPlace_32 33 rfl (by decide) ?_
      have z6 : (0 : Int32).toInt = 0 := by decide
      exact pv_iret (M := mX11_isPlace) dX11_isPlace_33 rfl rfl ⟨_, rfl, rfl, by decide, by decide, Or.inl rfl⟩
    · have c5 := iv_nlt (X := x1.toInt) (Y := 0) c5 rfl (by decide)
      refine pv_iload_n (M := mX11_isPlace) 2 dX11_isPlace_12 13 rfl rfl rfl ?_
      refine pv_aload_n (M := mX11_isPlace) 0 dX11_isPlace_13 14 rfl rfl rfl ?_
      refine mv_get (M := mX11_isPlace) (v := .ref 3) dX11_isPlace_14 FX11 1 wd408 (by decide) (tl0 hT) rfl rfl 17 rfl ?_
      refine pv_iload_n (M := mX11_isPlace) 1 dX11_isPlace_17 18 rfl rfl rfl ?_
      refine iv_qblank (M := mX11_isPlace) (X := x0.toInt) dX11_isPlace_18 hT R rfl (by omega) (by omega) 19 rfl (fun b7 eb7 hb7 => ?_)
      have zb7 := hb7.2.2.2.2.2.2.2
      refine mv_get (M := mX11_isPlace) (v := .ref (b7 + 3)) dX11_isPlace_19 FX0 1 wd210 (by decide) hb7.1 rfl rfl 22 rfl ?_
      refine iv_get (M := mX11_isPlace) (l1 := 0) (l2 := 40) dX11_isPlace_22 FX8 1 wd200 (by decide) hb7.2.2.1.1 rfl I hb7.2.2.1.2.2.1 25 rfl (fun v8 ev8 pv8 qv8 => ?_)
      refine pv_icmp_ge (M := mX11_isPlace) (tgt := 32) dX11_isPlace_25 28 rfl (by decide) (fun c9 => ?_) (fun c9 => ?_)
      · have c9 := iv_le (X := v8.toInt) (Y := x1.toInt) c9 rfl rfl
        refine pv_iconst (M := mX11_isPlace) (v := 0) dX11_isPlace_32 33 rfl (by decide) ?_
        have z10 : (0 : Int32).toInt = 0 := by decide
        exact pv_iret (M := mX11_isPlace) dX11_isPlace_33 rfl rfl ⟨_, rfl, rfl, by decide, by decide, Or.inl rfl⟩
      · have c9 := iv_nle (X := v8.toInt) (Y := x1.toInt) c9 rfl rfl
        refine pv_iconst (M := mX11_isPlace) (v := 1) dX11_isPlace_28 29 rfl (by decide) ?_
        refine pv_goto (M := mX11_isPlace) (tgt := 33) dX11_isPlace_29 (by decide) ?_
        have z11 : (1 : Int32).toInt = 1 := by decide
        exact pv_iret (M := mX11_isPlace) dX11_isPlace_33 rfl rfl ⟨_, rfl, rfl, by decide, by decide, (Or.inr (by omega))⟩

set_option maxHeartbeats 2000000 in
set_option maxRecDepth 20000 in
theorem s_X11_isDeed (g : pv_G) {T : List mv_T} {m : Nat → Nat → Int32} {n : Nat → Nat → Int64} {r : Nat → Value} {la lb : Nat} (hT : TX T) (I : IV BB m) (R : RX T r la lb) (x0 : Int32) : PM g mX11_isDeed yX11_isDeed (sqP (mk T m n r) 0 1 (fun v => (v = 0 ∨ (0 ≤ x0.toInt ∧ x0.toInt ≤ 7)) ∧ v = ddv m x0)) 1 0 0 [.ref 0, .int x0] (mk T m n r) := by
  have Kp : fr (wl []) m m := fr.rf
  have R0 := R
  have zR := R.2.2.2.2.1.1
  have zR2 := R.2.2.2.2.2.1
  refine PM.of 0 (lo := [.ref 0, .int x0]) rfl (by decide) rfl rfl (Nat.le_of_ble_eq_true rfl) ?_
  refine pv_iload_n (M := mX11_isDeed) 1 dX11_isDeed_0 1 rfl rfl rfl ?_
  refine pv_if_lt (M := mX11_isDeed) (tgt := 26) dX11_isDeed_1 4 rfl (by decide) (fun c1 => ?_) (fun c1 => ?_)
  · have c1 := iv_lt (X := x0.toInt) (Y := 0) c1 rfl (by decide)
    refine pv_iconst (M := mX11_isDeed) (v := 0) dX11_isDeed_26 27 rfl (by decide) ?_
    have z2 : (0 : Int32).toInt = 0 := by decide
    exact pv_iret (M := mX11_isDeed) dX11_isDeed_27 rfl rfl ⟨_, rfl, rfl, by decide, by decide, ⟨Or.inl rfl, by unfold ddv; rw [if_neg (by omega)]⟩⟩
  · have c1 := iv_nlt (X := x0.toInt) (Y := 0) c1 rfl (by decide)
    refine pv_iload_n (M := mX11_isDeed) 1 dX11_isDeed_4 5 rfl rfl rfl ?_
    refine pv_bipush (M := mX11_isDeed) (v := 8) dX11_isDeed_5 7 rfl (by decide) ?_
    refine pv_icmp_ge (M := mX11_isDeed) (tgt := 26) dX11_isDeed_7 10 rfl (by decide) (fun c3 => ?_) (fun c3 => ?_)
    · have c3 := iv_le (X := 8) (Y := x0.toInt) c3 (by decide) rfl
      refine pv_iconst (M := mX11_isDeed) (v := 0) dX11_isDeed_26 27 rfl (by decide) ?_
      have z4 : (0 : Int32).toInt = 0 := by decide
      exact pv_iret (M := mX11_isDeed) dX11_isDeed_27 rfl rfl ⟨_, rfl, rfl, by decide, by decide, ⟨Or.inl rfl, by unfold ddv; rw [if_neg (by omega)]⟩⟩
    · have c3 := iv_nle (X := 8) (Y := x0.toInt) c3 (by decide) rfl
      refine pv_aload_n (M := mX11_isDeed) 0 dX11_isDeed_10 11 rfl rfl rfl ?_
      refine mv_get (M := mX11_isDeed) (v := .ref 60) dX11_isDeed_11 FX11 3 wd410 (by decide) (tl0 hT) rfl rfl 14 rfl ?_
      refine pv_iload_n (M := mX11_isDeed) 1 dX11_isDeed_14 15 rfl rfl rfl ?_
      refine iv_qdeed (M := mX11_isDeed) (X := x0.toInt) dX11_isDeed_15 hT R rfl (by omega) (by omega) 16 rfl (fun b5 eb5 hb5 => ?_)
      have zb5 := hb5.2.2.2.2
      refine iv_get (M := mX11_isDeed) (l1 := 0) (l2 := 16) dX11_isDeed_16 FX8 1 wd200 (by decide) hb5.1 rfl I hb5.2.2.1 19 rfl (fun v6 ev6 pv6 qv6 => ?_)
      have k19 : v6.toInt = (m (61 + 2 * x0.toInt.toNat) 1).toInt := (congrArg Int32.toInt ev6).trans (congrArg (fun z => (m z 1).toInt) (by omega))
      refine pv_if_le (M := mX11_isDeed) (tgt := 26) dX11_isDeed_19 22 rfl (by decide) (fun c8 => ?_) (fun c8 => ?_)
      · have c8 := iv_le (X := v6.toInt) (Y := 0) c8 rfl (by decide)
        refine pv_iconst (M := mX11_isDeed) (v := 0) dX11_isDeed_26 27 rfl (by decide) ?_
        have z9 : (0 : Int32).toInt = 0 := by decide
        exact pv_iret (M := mX11_isDeed) dX11_isDeed_27 rfl rfl ⟨_, rfl, rfl, by decide, by decide, ⟨Or.inl rfl, by unfold ddv; rw [if_neg (by omega)]⟩⟩
      · have c8 := iv_nle (X := v6.toInt) (Y := 0) c8 rfl (by decide)
        refine pv_iconst (M := mX11_isDeed) (v := 1) dX11_isDeed_22 23 rfl (by decide) ?_
        refine pv_goto (M := mX11_isDeed) (tgt := 27) dX11_isDeed_23 (by decide) ?_
        have z10 : (1 : Int32).toInt = 1 := by decide
        exact pv_iret (M := mX11_isDeed) dX11_isDeed_27 rfl rfl ⟨_, rfl, rfl, by decide, by decide, ⟨Or.inr (by omega), by unfold ddv; rw [if_pos (by omega)]⟩⟩

set_option maxHeartbeats 2000000 in
set_option maxRecDepth 20000 in
theorem s_X11_isClerk (g : pv_G) {T : List mv_T} {m : Nat → Nat → Int32} {n : Nat → Nat → Int64} {r : Nat → Value} (hT : TX T) (I : IV BB m) (x0 : Int32) : PM g mX11_isClerk yX11_isClerk (sqP (mk T m n r) 0 1 (fun v => v = 0 ∨ (0 ≤ x0.toInt ∧ x0.toInt ≤ 7))) 1 0 0 [.int x0] (mk T m n r) := by
  have Kp : fr (wl []) m m := fr.rf
  refine PM.of 0 (lo := [.int x0]) rfl (by decide) rfl rfl (Nat.le_of_ble_eq_true rfl) ?_
  refine pv_iload_n (M := mX11_isClerk) 0 dX11_isClerk_0 1 rfl rfl rfl ?_
  refine pv_if_lt (M := mX11_isClerk) (tgt := 14) dX11_isClerk_1 4 rfl (by decide) (fun c1 => ?_) (fun c1 => ?_)
  · have c1 := iv_lt (X := x0.toInt) (Y := 0) c1 rfl (by decide)
    refine pv_iconst (M := mX11_isClerk) (v := 0) dX11_isClerk_14 15 rfl (by decide) ?_
    have z2 : (0 : Int32).toInt = 0 := by decide
    exact pv_iret (M := mX11_isClerk) dX11_isClerk_15 rfl rfl ⟨_, rfl, rfl, by decide, by decide, Or.inl rfl⟩
  · have c1 := iv_nlt (X := x0.toInt) (Y := 0) c1 rfl (by decide)
    refine pv_iload_n (M := mX11_isClerk) 0 dX11_isClerk_4 5 rfl rfl rfl ?_
    refine pv_bipush (M := mX11_isClerk) (v := 8) dX11_isClerk_5 7 rfl (by decide) ?_
    refine pv_icmp_ge (M := mX11_isClerk) (tgt := 14) dX11_isClerk_7 10 rfl (by decide) (fun c3 => ?_) (fun c3 => ?_)
    · have c3 := iv_le (X := 8) (Y := x0.toInt) c3 (by decide) rfl
      refine pv_iconst (M := mX11_isClerk) (v := 0) dX11_isClerk_14 15 rfl (by decide) ?_
      have z4 : (0 : Int32).toInt = 0 := by decide
      exact pv_iret (M := mX11_isClerk) dX11_isClerk_15 rfl rfl ⟨_, rfl, rfl, by decide, by decide, Or.inl rfl⟩
    · have c3 := iv_nle (X := 8) (Y := x0.toInt) c3 (by decide) rfl
      refine pv_iconst (M := mX11_isClerk) (v := 1) dX11_isClerk_10 11 rfl (by decide) ?_
      refine pv_goto (M := mX11_isClerk) (tgt := 15) dX11_isClerk_11 (by decide) ?_
      have z5 : (1 : Int32).toInt = 1 := by decide
      exact pv_iret (M := mX11_isClerk) dX11_isClerk_15 rfl rfl ⟨_, rfl, rfl, by decide, by decide, (Or.inr (by omega))⟩

set_option maxHeartbeats 2000000 in
set_option maxRecDepth 20000 in
theorem s_X11_isWidth (g : pv_G) {T : List mv_T} {m : Nat → Nat → Int32} {n : Nat → Nat → Int64} {r : Nat → Value} (hT : TX T) (I : IV BB m) (x0 : Int32) : PM g mX11_isWidth yX11_isWidth (sqP (mk T m n r) 0 1 (fun v => v = 0 ∨ (1 ≤ x0.toInt ∧ x0.toInt ≤ 9))) 1 0 0 [.int x0] (mk T m n r) := by
  have Kp : fr (wl []) m m := fr.rf
  refine PM.of 0 (lo := [.int x0]) rfl (by decide) rfl rfl (Nat.le_of_ble_eq_true rfl) ?_
  refine pv_iload_n (M := mX11_isWidth) 0 dX11_isWidth_0 1 rfl rfl rfl ?_
  refine pv_iconst (M := mX11_isWidth) (v := 1) dX11_isWidth_1 2 rfl (by decide) ?_
  refine pv_icmp_lt (M := mX11_isWidth) (tgt := 15) dX11_isWidth_2 5 rfl (by decide) (fun c1 => ?_) (fun c1 => ?_)
  · have c1 := iv_lt (X := x0.toInt) (Y := 1) c1 rfl (by decide)
    refine pv_iconst (M := mX11_isWidth) (v := 0) dX11_isWidth_15 16 rfl (by decide) ?_
    have z2 : (0 : Int32).toInt = 0 := by decide
    exact pv_iret (M := mX11_isWidth) dX11_isWidth_16 rfl rfl ⟨_, rfl, rfl, by decide, by decide, Or.inl rfl⟩
  · have c1 := iv_nlt (X := x0.toInt) (Y := 1) c1 rfl (by decide)
    refine pv_iload_n (M := mX11_isWidth) 0 dX11_isWidth_5 6 rfl rfl rfl ?_
    refine pv_bipush (M := mX11_isWidth) (v := 9) dX11_isWidth_6 8 rfl (by decide) ?_
    refine pv_icmp_gt (M := mX11_isWidth) (tgt := 15) dX11_isWidth_8 11 rfl (by decide) (fun c3 => ?_) (fun c3 => ?_)
    · have c3 := iv_lt (X := 9) (Y := x0.toInt) c3 (by decide) rfl
      refine pv_iconst (M := mX11_isWidth) (v := 0) dX11_isWidth_15 16 rfl (by decide) ?_
      have z4 : (0 : Int32).toInt = 0 := by decide
      exact pv_iret (M := mX11_isWidth) dX11_isWidth_16 rfl rfl ⟨_, rfl, rfl, by decide, by decide, Or.inl rfl⟩
    · have c3 := iv_nlt (X := 9) (Y := x0.toInt) c3 (by decide) rfl
      refine pv_iconst (M := mX11_isWidth) (v := 1) dX11_isWidth_11 12 rfl (by decide) ?_
      refine pv_goto (M := mX11_isWidth) (tgt := 16) dX11_isWidth_12 (by decide) ?_
      have z5 : (1 : Int32).toInt = 1 := by decide
      exact pv_iret (M := mX11_isWidth) dX11_isWidth_16 rfl rfl ⟨_, rfl, rfl, by decide, by decide, (Or.inr (by omega))⟩

set_option maxHeartbeats 2000000 in
set_option maxRecDepth 20000 in
theorem s_X11_isAmong (g : pv_G) {T : List mv_T} {m : Nat → Nat → Int32} {n : Nat → Nat → Int64} {r : Nat → Value} (hT : TX T) (I : IV BB m) (x0 : Int32) (x1 : Int32) : PM g mX11_isAmong yX11_isAmong (sqP (mk T m n r) 0 1 (fun v => v = amv x0 x1)) 1 0 0 [.int x0, .int x1] (mk T m n r) := by
  have Kp : fr (wl []) m m := fr.rf
  refine PM.of 0 (lo := [.int x0, .int x1]) rfl (by decide) rfl rfl (Nat.le_of_ble_eq_true rfl) ?_
  refine pv_iload_n (M := mX11_isAmong) 0 dX11_isAmong_0 1 rfl rfl rfl ?_
  refine pv_iload_n (M := mX11_isAmong) 1 dX11_isAmong_1 2 rfl rfl rfl ?_
  refine iv_shrU (M := mX11_isAmong) dX11_isAmong_2 3 rfl (fun v1 ev1 => ?_)
  have k3 := ev1
  refine pv_iconst (M := mX11_isAmong) (v := 1) dX11_isAmong_3 4 rfl (by decide) ?_
  refine iv_iandm (M := mX11_isAmong) dX11_isAmong_4 5 rfl 1 (by decide) (by decide) (fun v3 ev3 pv3 qv3 => ?_)
  have qv3 : v3.toInt < 2 := qv3
  have k5 : ((x0 >>> (x1 &&& 31)) &&& 1).toInt = v3.toInt := by rw [ev3, k3]
  refine pv_iconst (M := mX11_isAmong) (v := 1) dX11_isAmong_5 6 rfl (by decide) ?_
  refine pv_icmp_ne (M := mX11_isAmong) (tgt := 13) dX11_isAmong_6 9 rfl (by decide) (fun c5 => ?_) (fun c5 => ?_)
  · have c5 := iv_ne (X := v3.toInt) (Y := 1) c5 rfl (by decide)
    refine pv_iconst (M := mX11_isAmong) (v := 0) dX11_isAmong_13 14 rfl (by decide) ?_
    have z6 : (0 : Int32).toInt = 0 := by decide
    exact pv_iret (M := mX11_isAmong) dX11_isAmong_14 rfl rfl ⟨_, rfl, rfl, by decide, by decide, (by unfold amv; rw [if_neg (by omega)])⟩
  · have c5 := iv_eq (X := v3.toInt) (Y := 1) c5 rfl (by decide)
    refine pv_iconst (M := mX11_isAmong) (v := 1) dX11_isAmong_9 10 rfl (by decide) ?_
    refine pv_goto (M := mX11_isAmong) (tgt := 14) dX11_isAmong_10 (by decide) ?_
    have z7 : (1 : Int32).toInt = 1 := by decide
    exact pv_iret (M := mX11_isAmong) dX11_isAmong_14 rfl rfl ⟨_, rfl, rfl, by decide, by decide, (by unfold amv; rw [if_pos (by omega)])⟩

set_option maxHeartbeats 2000000 in
set_option maxRecDepth 20000 in
theorem s_X11_toldDeeds (g : pv_G) {T : List mv_T} {m : Nat → Nat → Int32} {n : Nat → Nat → Int64} {r : Nat → Value} {la lb : Nat} (hT : TX T) (I : IV BB m) (R : RX T r la lb) : PM g mX11_toldDeeds yX11_toldDeeds (sqP (mk T m n r) (-2147483648) 2147483647 (fun v => v = tld m 8)) 2 0 0 [.ref 0] (mk T m n r) := by
  have Kp : fr (wl []) m m := fr.rf
  have R0 := R
  have zR := R.2.2.2.2.1.1
  have zR2 := R.2.2.2.2.2.1
  refine PM.of 2 (lo := [.ref 0, pv_U, pv_U]) rfl (by decide) rfl rfl (Nat.le_of_ble_eq_true rfl) ?_
  refine pv_iconst (M := mX11_toldDeeds) (v := 0) dX11_toldDeeds_0 1 rfl (by decide) ?_
  refine pv_istore_n (M := mX11_toldDeeds) 1 (lo2 := [.ref 0, .int 0, pv_U]) dX11_toldDeeds_1 2 rfl rfl (by decide) rfl rfl ?_
  refine pv_iconst (M := mX11_toldDeeds) (v := 0) dX11_toldDeeds_2 3 rfl (by decide) ?_
  refine pv_istore_n (M := mX11_toldDeeds) 2 (lo2 := [.ref 0, .int 0, .int 0]) dX11_toldDeeds_3 4 rfl rfl (by decide) rfl rfl ?_
  have lp8 : ∀ (fuel7 : Nat) (y1 : Int32) (y2 : Int32), (0 ≤ y1.toInt) → (y1.toInt ≤ 255) → (0 ≤ y2.toInt) → (y2.toInt ≤ 8) → (y1 = tld m y2.toInt.toNat) → ((8 - y2.toInt) : Int).toNat < fuel7 → PV none g mX11_toldDeeds (sqP (mk T m n r) (-2147483648) 2147483647 (fun v => v = tld m 8)) 2 0 0 4 [.ref 0, .int y1, .int y2] [] (mk T m n r) := by
    intro fuel7
    induction fuel7 with
    | zero => intro y1 y2 b10 b11 b12 b13 b14 z15; omega
    | succ fuel7 ih9 =>
      intro y1 y2 b10 b11 b12 b13 b14 z15
      have kg := (show y1 = tld m y2.toInt.toNat by assumption)
      refine pv_iload_n (M := mX11_toldDeeds) 2 dX11_toldDeeds_4 5 rfl rfl rfl ?_
      refine pv_bipush (M := mX11_toldDeeds) (v := 8) dX11_toldDeeds_5 7 rfl (by decide) ?_
      refine pv_icmp_ge (M := mX11_toldDeeds) (tgt := 30) dX11_toldDeeds_7 10 rfl (by decide) (fun c17 => ?_) (fun c17 => ?_)
      · have c17 := iv_le (X := 8) (Y := y2.toInt) c17 (by decide) rfl
        refine pv_iload_n (M := mX11_toldDeeds) 1 dX11_toldDeeds_30 31 rfl rfl rfl ?_
        exact pv_iret (M := mX11_toldDeeds) dX11_toldDeeds_31 rfl rfl ⟨_, rfl, rfl, (iv_rng y1).1, (iv_rng y1).2, (by rw [kg, show y2.toInt.toNat = 8 by omega])⟩
      · have c17 := iv_nle (X := 8) (Y := y2.toInt) c17 (by decide) rfl
        refine pv_aload_n (M := mX11_toldDeeds) 0 dX11_toldDeeds_10 11 rfl rfl rfl ?_
        refine pv_iload_n (M := mX11_toldDeeds) 2 dX11_toldDeeds_11 12 rfl rfl rfl ?_
        refine pv_callv (M := mX11_toldDeeds) (as := [.int y2]) (st := []) (kc2 := 0) (ks2 := 0) dX11_toldDeeds_12 wd828 YX11_isDeed ⟨wd830, wd25⟩ (mk_get (tl0 hT)) rfl rfl (s_X11_isDeed g hT I R y2) rfl rfl (Nat.le_of_ble_eq_true rfl) (by decide) rfl rfl 15 rfl (fun rv h1 q18 => ?_)
        obtain ⟨v19, rfl, rfl, pv19, qv19, rv19⟩ := q18
        replace rv19 : (v19 = 0 ∨ (0 ≤ y2.toInt ∧ y2.toInt ≤ 7)) ∧ v19 = ddv m y2 := rv19
        show PV _ _ _ _ _ _ _ 15 [.ref 0, .int y1, .int y2] [.int v19] _
        have k15 := rv19.2
        have k15b : (ddv m y2).toInt = v19.toInt := by rw [k15]
        refine pv_if_eq (M := mX11_toldDeeds) (tgt := 24) dX11_toldDeeds_15 18 rfl (by decide) (fun c22 => ?_) (fun c22 => ?_)
        · have c22 := iv_eq (X := v19.toInt) (Y := 0) c22 rfl (by decide)
          refine iv_inc (M := mX11_toldDeeds) (C := 1) dX11_toldDeeds_24 27 rfl rfl (by decide) rfl rfl (by decide) (by omega) (by omega) (fun v23 ev23 => ?_)
          show PV _ _ _ _ _ _ _ 27 [.ref 0, .int y1, .int v23] [] _
          refine pv_goto (M := mX11_toldDeeds) (tgt := 4) dX11_toldDeeds_27 (by decide) ?_
          have kb : y1 = tld m v23.toInt.toNat := by rw [tld_s (x := y2) (by omega) (by omega)]; first | (rw [if_pos (by omega)]; exact kg) | (rw [if_neg (by omega), ← kg]; exact k23)
          exact ih9 y1 v23 (by first | omega | assumption | exact (iv_rng _).2 | exact (iv_rng _).1 | decide) (by first | omega | assumption | exact (iv_rng _).2 | exact (iv_rng _).1 | decide) (by first | omega | assumption | exact (iv_rng _).2 | exact (iv_rng _).1 | decide) (by first | omega | assumption | exact (iv_rng _).2 | exact (iv_rng _).1 | decide) kb (by omega)
        · have pc22 := rv19.1.resolve_left c22
          have c22 := iv_ne (X := v19.toInt) (Y := 0) c22 rfl (by decide)
          refine pv_iload_n (M := mX11_toldDeeds) 1 dX11_toldDeeds_18 19 rfl rfl rfl ?_
          refine pv_iconst (M := mX11_toldDeeds) (v := 1) dX11_toldDeeds_19 20 rfl (by decide) ?_
          refine pv_iload_n (M := mX11_toldDeeds) 2 dX11_toldDeeds_20 21 rfl rfl rfl ?_
          refine iv_shlU (M := mX11_toldDeeds) dX11_toldDeeds_21 22 rfl (fun v25 ev25 => ?_)
          have pv25 : 1 ≤ v25.toInt ∧ v25.toInt ≤ 128 := by rw [ev25]; exact iv_sh17 (by omega) (by omega)
          have k22 := ev25
          refine iv_orU (M := mX11_toldDeeds) dX11_toldDeeds_22 23 rfl (fun v27 ev27 => ?_)
          have pv27 : 0 ≤ v27.toInt ∧ v27.toInt ≤ 255 := by rw [ev27]; exact iv_or8 (by omega) (by omega) (by omega) (by omega)
          have k23 : v27 = y1 ||| ((1 : Int32) <<< (y2 &&& 31)) := by rw [ev27, k22]
          refine pv_istore_n (M := mX11_toldDeeds) 1 (lo2 := [.ref 0, .int v27, .int y2]) dX11_toldDeeds_23 24 rfl rfl (by decide) rfl rfl ?_
          refine iv_inc (M := mX11_toldDeeds) (C := 1) dX11_toldDeeds_24 27 rfl rfl (by decide) rfl rfl (by decide) (by omega) (by omega) (fun v29 ev29 => ?_)
          show PV _ _ _ _ _ _ _ 27 [.ref 0, .int v27, .int v29] [] _
          refine pv_goto (M := mX11_toldDeeds) (tgt := 4) dX11_toldDeeds_27 (by decide) ?_
          have kb : v27 = tld m v29.toInt.toNat := by rw [tld_s (x := y2) (by omega) (by omega)]; first | (rw [if_pos (by omega)]; exact kg) | (rw [if_neg (by omega), ← kg]; exact k23)
          exact ih9 v27 v29 (by first | omega | assumption | exact (iv_rng _).2 | exact (iv_rng _).1 | decide) (by first | omega | assumption | exact (iv_rng _).2 | exact (iv_rng _).1 | decide) (by first | omega | assumption | exact (iv_rng _).2 | exact (iv_rng _).1 | decide) (by first | omega | assumption | exact (iv_rng _).2 | exact (iv_rng _).1 | decide) kb (by omega)
  have z31 : (0 : Int32).toInt = 0 := by decide
  have z32 : (0 : Int32).toInt = 0 := by decide
  exact lp8 (((8 - 0) : Int).toNat + 1) 0 0 (by first | omega | assumption | exact (iv_rng _).2 | exact (iv_rng _).1 | decide) (by first | omega | assumption | exact (iv_rng _).2 | exact (iv_rng _).1 | decide) (by first | omega | assumption | exact (iv_rng _).2 | exact (iv_rng _).1 | decide) (by first | omega | assumption | exact (iv_rng _).2 | exact (iv_rng _).1 | decide) (by rw [Int32.toInt_zero]; rfl) (by omega)

set_option maxHeartbeats 2000000 in
set_option maxRecDepth 20000 in
theorem s_X11_areDeeds (g : pv_G) {T : List mv_T} {m : Nat → Nat → Int32} {n : Nat → Nat → Int64} {r : Nat → Value} {la lb : Nat} (hT : TX T) (I : IV BB m) (R : RX T r la lb) (x0 : Int32) : PM g mX11_areDeeds yX11_areDeeds (sqP (mk T m n r) 0 1 (fun v => v = adv m x0)) 3 0 0 [.ref 0, .int x0] (mk T m n r) := by
  have Kp : fr (wl []) m m := fr.rf
  have R0 := R
  have zR := R.2.2.2.2.1.1
  have zR2 := R.2.2.2.2.2.1
  refine PM.of 0 (lo := [.ref 0, .int x0]) rfl (by decide) rfl rfl (Nat.le_of_ble_eq_true rfl) ?_
  refine pv_iload_n (M := mX11_areDeeds) 1 dX11_areDeeds_0 1 rfl rfl rfl ?_
  refine pv_aload_n (M := mX11_areDeeds) 0 dX11_areDeeds_1 2 rfl rfl rfl ?_
  refine pv_callv (M := mX11_areDeeds) (as := []) (st := [.int x0]) (kc2 := 0) (ks2 := 0) dX11_areDeeds_2 wd923 YX11_toldDeeds ⟨wd925, wd34⟩ (mk_get (tl0 hT)) rfl rfl (s_X11_toldDeeds g hT I R) rfl rfl (Nat.le_of_ble_eq_true rfl) (by decide) rfl rfl 5 rfl (fun rv h1 q1 => ?_)
  obtain ⟨v2, rfl, rfl, pv2, qv2, rv2⟩ := q1
  replace rv2 : v2 = tld m 8 := rv2
  show PV _ _ _ _ _ _ _ 5 [.ref 0, .int x0] [.int v2, .int x0] _
  have k5 : v2 = tld m 8 := rv2
  refine pv_iconst (M := mX11_areDeeds) (v := (-1)) dX11_areDeeds_5 6 rfl (by decide) ?_
  refine iv_xorU (M := mX11_areDeeds) dX11_areDeeds_6 7 rfl (fun v4 ev4 => ?_)
  have k7 := ev4
  refine iv_andU (M := mX11_areDeeds) dX11_areDeeds_7 8 rfl (fun v6 ev6 => ?_)
  have k8 : (x0 &&& (tld m 8 ^^^ -1)).toInt = v6.toInt := by rw [ev6, k7, k5]
  refine pv_if_ne (M := mX11_areDeeds) (tgt := 15) dX11_areDeeds_8 11 rfl (by decide) (fun c8 => ?_) (fun c8 => ?_)
  · have c8 := iv_ne (X := v6.toInt) (Y := 0) c8 rfl (by decide)
    refine pv_iconst (M := mX11_areDeeds) (v := 0) dX11_areDeeds_15 16 rfl (by decide) ?_
    have z9 : (0 : Int32).toInt = 0 := by decide
    exact pv_iret (M := mX11_areDeeds) dX11_areDeeds_16 rfl rfl ⟨_, rfl, rfl, by decide, by decide, (by unfold adv; rw [if_neg (by omega)])⟩
  · have c8 := iv_eq (X := v6.toInt) (Y := 0) c8 rfl (by decide)
    refine pv_iconst (M := mX11_areDeeds) (v := 1) dX11_areDeeds_11 12 rfl (by decide) ?_
    refine pv_goto (M := mX11_areDeeds) (tgt := 16) dX11_areDeeds_12 (by decide) ?_
    have z10 : (1 : Int32).toInt = 1 := by decide
    exact pv_iret (M := mX11_areDeeds) dX11_areDeeds_16 rfl rfl ⟨_, rfl, rfl, by decide, by decide, (by unfold adv; rw [if_pos (by omega)])⟩

set_option maxHeartbeats 2000000 in
set_option maxRecDepth 20000 in
theorem s_X11_deedAmong (g : pv_G) {T : List mv_T} {m : Nat → Nat → Int32} {n : Nat → Nat → Int64} {r : Nat → Value} {la lb : Nat} (hT : TX T) (I : IV BB m) (R : RX T r la lb) (x0 : Int32) (x1 : Int32) : PM g mX11_deedAmong yX11_deedAmong (sqPA (mk T m n r) (fun a => RowAt T a 16)) 2 0 0 [.ref 0, .int x0, .int x1] (mk T m n r) := by
  have Kp : fr (wl []) m m := fr.rf
  have R0 := R
  have zR := R.2.2.2.2.1.1
  have zR2 := R.2.2.2.2.2.1
  refine PM.of 3 (lo := [.ref 0, .int x0, .int x1, pv_U, pv_U, pv_U]) rfl (by decide) rfl rfl (Nat.le_of_ble_eq_true rfl) ?_
  refine pv_iconst (M := mX11_deedAmong) (v := 0) dX11_deedAmong_0 1 rfl (by decide) ?_
  refine pv_istore_n (M := mX11_deedAmong) 3 (lo2 := [.ref 0, .int x0, .int x1, .int 0, pv_U, pv_U]) dX11_deedAmong_1 2 rfl rfl (by decide) rfl rfl ?_
  refine pv_iconst (M := mX11_deedAmong) (v := 0) dX11_deedAmong_2 3 rfl (by decide) ?_
  refine pv_istore (M := mX11_deedAmong) (lo2 := [.ref 0, .int x0, .int x1, .int 0, .int 0, pv_U]) dX11_deedAmong_3 5 rfl (by decide) rfl rfl ?_
  refine pv_iconst (M := mX11_deedAmong) (v := 0) dX11_deedAmong_5 6 rfl (by decide) ?_
  refine pv_istore (M := mX11_deedAmong) (lo2 := [.ref 0, .int x0, .int x1, .int 0, .int 0, .int 0]) dX11_deedAmong_6 8 rfl (by decide) rfl rfl ?_
  have lp9 : ∀ (fuel8 : Nat) (y1 : Int32) (y2 : Int32) (y3 : Int32), (0 ≤ y1.toInt) → (y1.toInt ≤ 7) → (0 ≤ y3.toInt) → (y3.toInt ≤ 8) → ((8 - y3.toInt) : Int).toNat < fuel8 → PV none g mX11_deedAmong (sqPA (mk T m n r) (fun a => RowAt T a 16)) 2 0 0 8 [.ref 0, .int x0, .int x1, .int y1, .int y2, .int y3] [] (mk T m n r) := by
    intro fuel8
    induction fuel8 with
    | zero => intro y1 y2 y3 b11 b12 b13 b14 z15; omega
    | succ fuel8 ih10 =>
      intro y1 y2 y3 b11 b12 b13 b14 z15
      refine pv_iload (M := mX11_deedAmong) dX11_deedAmong_8 10 rfl rfl ?_
      refine pv_bipush (M := mX11_deedAmong) (v := 8) dX11_deedAmong_10 12 rfl (by decide) ?_
      refine pv_icmp_ge (M := mX11_deedAmong) (tgt := 42) dX11_deedAmong_12 15 rfl (by decide) (fun c16 => ?_) (fun c16 => ?_)
      · have c16 := iv_le (X := 8) (Y := y3.toInt) c16 (by decide) rfl
        refine pv_aload_n (M := mX11_deedAmong) 0 dX11_deedAmong_42 43 rfl rfl rfl ?_
        refine mv_get (M := mX11_deedAmong) (v := .ref 60) dX11_deedAmong_43 FX11 3 wd410 (by decide) (tl0 hT) rfl rfl 46 rfl ?_
        refine pv_iload_n (M := mX11_deedAmong) 3 dX11_deedAmong_46 47 rfl rfl rfl ?_
        refine iv_qdeed (M := mX11_deedAmong) (X := y1.toInt) dX11_deedAmong_47 hT R rfl (by omega) (by omega) 48 rfl (fun b17 eb17 hb17 => ?_)
        have zb17 := hb17.2.2.2.2
        exact pv_aret (M := mX11_deedAmong) dX11_deedAmong_48 rfl ⟨_, rfl, rfl, hb17⟩
      · have c16 := iv_nle (X := 8) (Y := y3.toInt) c16 (by decide) rfl
        refine pv_iload (M := mX11_deedAmong) dX11_deedAmong_15 17 rfl rfl ?_
        refine pv_iload_n (M := mX11_deedAmong) 2 dX11_deedAmong_17 18 rfl rfl rfl ?_
        refine pv_icmp_gt (M := mX11_deedAmong) (tgt := 42) dX11_deedAmong_18 21 rfl (by decide) (fun c18 => ?_) (fun c18 => ?_)
        · have c18 := iv_lt (X := x1.toInt) (Y := y2.toInt) c18 rfl rfl
          refine pv_aload_n (M := mX11_deedAmong) 0 dX11_deedAmong_42 43 rfl rfl rfl ?_
          refine mv_get (M := mX11_deedAmong) (v := .ref 60) dX11_deedAmong_43 FX11 3 wd410 (by decide) (tl0 hT) rfl rfl 46 rfl ?_
          refine pv_iload_n (M := mX11_deedAmong) 3 dX11_deedAmong_46 47 rfl rfl rfl ?_
          refine iv_qdeed (M := mX11_deedAmong) (X := y1.toInt) dX11_deedAmong_47 hT R rfl (by omega) (by omega) 48 rfl (fun b19 eb19 hb19 => ?_)
          have zb19 := hb19.2.2.2.2
          exact pv_aret (M := mX11_deedAmong) dX11_deedAmong_48 rfl ⟨_, rfl, rfl, hb19⟩
        · have c18 := iv_nlt (X := x1.toInt) (Y := y2.toInt) c18 rfl rfl
          refine pv_iload_n (M := mX11_deedAmong) 1 dX11_deedAmong_21 22 rfl rfl rfl ?_
          refine pv_iload (M := mX11_deedAmong) dX11_deedAmong_22 24 rfl rfl ?_
          refine pv_calls (M := mX11_deedAmong) (as := [.int x0, .int y3]) (st := []) (kc2 := 0) (ks2 := 0) dX11_deedAmong_24 wd931 YX11_isAmong wd932 (s_X11_isAmong g hT I x0 y3) rfl rfl (Nat.le_of_ble_eq_true rfl) (by decide) rfl rfl 27 rfl (fun rv h1 q20 => ?_)
          obtain ⟨v21, rfl, rfl, pv21, qv21, rv21⟩ := q20
          replace rv21 : v21 = amv x0 y3 := rv21
          show PV _ _ _ _ _ _ _ 27 [.ref 0, .int x0, .int x1, .int y1, .int y2, .int y3] [.int v21] _
          refine pv_if_eq (M := mX11_deedAmong) (tgt := 36) dX11_deedAmong_27 30 rfl (by decide) (fun c22 => ?_) (fun c22 => ?_)
          · have c22 := iv_eq (X := v21.toInt) (Y := 0) c22 rfl (by decide)
            refine iv_inc (M := mX11_deedAmong) (C := 1) dX11_deedAmong_36 39 rfl rfl (by decide) rfl rfl (by decide) (by omega) (by omega) (fun v23 ev23 => ?_)
            show PV _ _ _ _ _ _ _ 39 [.ref 0, .int x0, .int x1, .int y1, .int y2, .int v23] [] _
            refine pv_goto (M := mX11_deedAmong) (tgt := 8) dX11_deedAmong_39 (by decide) ?_
            exact ih10 y1 y2 v23 (by first | omega | assumption | exact (iv_rng _).2 | exact (iv_rng _).1 | decide) (by first | omega | assumption | exact (iv_rng _).2 | exact (iv_rng _).1 | decide) (by first | omega | assumption | exact (iv_rng _).2 | exact (iv_rng _).1 | decide) (by first | omega | assumption | exact (iv_rng _).2 | exact (iv_rng _).1 | decide) (by omega)
          · have c22 := iv_ne (X := v21.toInt) (Y := 0) c22 rfl (by decide)
            refine pv_iload (M := mX11_deedAmong) dX11_deedAmong_30 32 rfl rfl ?_
            refine pv_istore_n (M := mX11_deedAmong) 3 (lo2 := [.ref 0, .int x0, .int x1, .int y3, .int y2, .int y3]) dX11_deedAmong_32 33 rfl rfl (by decide) rfl rfl ?_
            have z25 := iv_rng y2
            refine iv_incU (M := mX11_deedAmong) dX11_deedAmong_33 36 rfl rfl (by decide) rfl (fun v24 ev24 => ?_)
            show PV _ _ _ _ _ _ _ 36 [.ref 0, .int x0, .int x1, .int y3, .int v24, .int y3] [] _
            refine iv_inc (M := mX11_deedAmong) (C := 1) dX11_deedAmong_36 39 rfl rfl (by decide) rfl rfl (by decide) (by omega) (by omega) (fun v26 ev26 => ?_)
            show PV _ _ _ _ _ _ _ 39 [.ref 0, .int x0, .int x1, .int y3, .int v24, .int v26] [] _
            refine pv_goto (M := mX11_deedAmong) (tgt := 8) dX11_deedAmong_39 (by decide) ?_
            exact ih10 y3 v24 v26 (by first | omega | assumption | exact (iv_rng _).2 | exact (iv_rng _).1 | decide) (by first | omega | assumption | exact (iv_rng _).2 | exact (iv_rng _).1 | decide) (by first | omega | assumption | exact (iv_rng _).2 | exact (iv_rng _).1 | decide) (by first | omega | assumption | exact (iv_rng _).2 | exact (iv_rng _).1 | decide) (by omega)
  have z27 : (0 : Int32).toInt = 0 := by decide
  have z28 : (0 : Int32).toInt = 0 := by decide
  have z29 : (0 : Int32).toInt = 0 := by decide
  exact lp9 (((8 - 0) : Int).toNat + 1) 0 0 0 (by first | omega | assumption | exact (iv_rng _).2 | exact (iv_rng _).1 | decide) (by first | omega | assumption | exact (iv_rng _).2 | exact (iv_rng _).1 | decide) (by first | omega | assumption | exact (iv_rng _).2 | exact (iv_rng _).1 | decide) (by first | omega | assumption | exact (iv_rng _).2 | exact (iv_rng _).1 | decide) (by omega)

set_option maxHeartbeats 2000000 in
set_option maxRecDepth 20000 in
theorem s_X11_allCome (g : pv_G) {T : List mv_T} {m : Nat → Nat → Int32} {n : Nat → Nat → Int64} {r : Nat → Value} {la lb : Nat} (hT : TX T) (I : IV BB m) (R : RX T r la lb) (x0 : Int32) (a1 : Nat) (rm1 : Nat) (ha1 : RowAt T a1 rm1) (x2 : Int32) : PM g mX11_allCome yX11_allCome (sqP (mk T m n r) 0 1 (fun v => True)) 2 0 0 [.ref 0, .int x0, .ref a1, .int x2] (mk T m n r) := by
  have Kp : fr (wl []) m m := fr.rf
  have R0 := R
  have zR := R.2.2.2.2.1.1
  have zR2 := R.2.2.2.2.2.1
  have zr1 := ha1.2.2.2.2
  refine PM.of 1 (lo := [.ref 0, .int x0, .ref a1, .int x2, pv_U]) rfl (by decide) rfl rfl (Nat.le_of_ble_eq_true rfl) ?_
  refine pv_iconst (M := mX11_allCome) (v := 0) dX11_allCome_0 1 rfl (by decide) ?_
  refine pv_istore (M := mX11_allCome) (lo2 := [.ref 0, .int x0, .ref a1, .int x2, .int 0]) dX11_allCome_1 3 rfl (by decide) rfl rfl ?_
  have lp7 : ∀ (fuel6 : Nat) (y1 : Int32), (0 ≤ y1.toInt) → (y1.toInt ≤ 8) → ((8 - y1.toInt) : Int).toNat < fuel6 → PV none g mX11_allCome (sqP (mk T m n r) 0 1 (fun v => True)) 2 0 0 3 [.ref 0, .int x0, .ref a1, .int x2, .int y1] [] (mk T m n r) := by
    intro fuel6
    induction fuel6 with
    | zero => intro y1 b9 b10 z11; omega
    | succ fuel6 ih8 =>
      intro y1 b9 b10 z11
      refine pv_iload (M := mX11_allCome) dX11_allCome_3 5 rfl rfl ?_
      refine pv_bipush (M := mX11_allCome) (v := 8) dX11_allCome_5 7 rfl (by decide) ?_
      refine pv_icmp_ge (M := mX11_allCome) (tgt := 42) dX11_allCome_7 10 rfl (by decide) (fun c12 => ?_) (fun c12 => ?_)
      · have c12 := iv_le (X := 8) (Y := y1.toInt) c12 (by decide) rfl
        refine pv_iconst (M := mX11_allCome) (v := 1) dX11_allCome_42 43 rfl (by decide) ?_
        exact pv_iret (M := mX11_allCome) dX11_allCome_43 rfl rfl ⟨_, rfl, rfl, by decide, by decide, trivial⟩
      · have c12 := iv_nle (X := 8) (Y := y1.toInt) c12 (by decide) rfl
        refine pv_iload_n (M := mX11_allCome) 1 dX11_allCome_10 11 rfl rfl rfl ?_
        refine pv_iload (M := mX11_allCome) dX11_allCome_11 13 rfl rfl ?_
        refine pv_calls (M := mX11_allCome) (as := [.int x0, .int y1]) (st := []) (kc2 := 0) (ks2 := 0) dX11_allCome_13 wd931 YX11_isAmong wd932 (s_X11_isAmong g hT I x0 y1) rfl rfl (Nat.le_of_ble_eq_true rfl) (by decide) rfl rfl 16 rfl (fun rv h1 q13 => ?_)
        obtain ⟨v14, rfl, rfl, pv14, qv14, rv14⟩ := q13
        replace rv14 : v14 = amv x0 y1 := rv14
        show PV _ _ _ _ _ _ _ 16 [.ref 0, .int x0, .ref a1, .int x2, .int y1] [.int v14] _
        refine pv_if_eq (M := mX11_allCome) (tgt := 36) dX11_allCome_16 19 rfl (by decide) (fun c15 => ?_) (fun c15 => ?_)
        · have c15 := iv_eq (X := v14.toInt) (Y := 0) c15 rfl (by decide)
          refine iv_inc (M := mX11_allCome) (C := 1) dX11_allCome_36 39 rfl rfl (by decide) rfl rfl (by decide) (by omega) (by omega) (fun v16 ev16 => ?_)
          show PV _ _ _ _ _ _ _ 39 [.ref 0, .int x0, .ref a1, .int x2, .int v16] [] _
          refine pv_goto (M := mX11_allCome) (tgt := 3) dX11_allCome_39 (by decide) ?_
          exact ih8 v16 (by first | omega | assumption | exact (iv_rng _).2 | exact (iv_rng _).1 | decide) (by first | omega | assumption | exact (iv_rng _).2 | exact (iv_rng _).1 | decide) (by omega)
        · have c15 := iv_ne (X := v14.toInt) (Y := 0) c15 rfl (by decide)
          refine pv_aload_n (M := mX11_allCome) 0 dX11_allCome_19 20 rfl rfl rfl ?_
          refine mv_get (M := mX11_allCome) (v := .ref 60) dX11_allCome_20 FX11 3 wd410 (by decide) (tl0 hT) rfl rfl 23 rfl ?_
          refine pv_iload (M := mX11_allCome) dX11_allCome_23 25 rfl rfl ?_
          refine iv_qdeed (M := mX11_allCome) (X := y1.toInt) dX11_allCome_25 hT R rfl (by omega) (by omega) 26 rfl (fun b17 eb17 hb17 => ?_)
          have zb17 := hb17.2.2.2.2
          refine pv_aload_n (M := mX11_allCome) 2 dX11_allCome_26 27 rfl rfl rfl ?_
          refine pv_iload_n (M := mX11_allCome) 3 dX11_allCome_27 28 rfl rfl rfl ?_
          refine pv_callv (M := mX11_allCome) (as := [.ref a1, .int x2]) (st := []) (kc2 := 0) (ks2 := 0) dX11_allCome_28 wd1076 YX8_comesWithout ⟨wd1065, wd1066⟩ (mk_get hb17.1) rfl rfl (s_X8_comesWithout g hT I b17 16 hb17 a1 rm1 ha1 x2) rfl rfl (Nat.le_of_ble_eq_true rfl) (by decide) rfl rfl 31 rfl (fun rv h1 q18 => ?_)
          obtain ⟨v19, rfl, rfl, pv19, qv19, rv19⟩ := q18
          show PV _ _ _ _ _ _ _ 31 [.ref 0, .int x0, .ref a1, .int x2, .int y1] [.int v19] _
          refine pv_if_ne (M := mX11_allCome) (tgt := 36) dX11_allCome_31 34 rfl (by decide) (fun c20 => ?_) (fun c20 => ?_)
          · have c20 := iv_ne (X := v19.toInt) (Y := 0) c20 rfl (by decide)
            refine iv_inc (M := mX11_allCome) (C := 1) dX11_allCome_36 39 rfl rfl (by decide) rfl rfl (by decide) (by omega) (by omega) (fun v21 ev21 => ?_)
            show PV _ _ _ _ _ _ _ 39 [.ref 0, .int x0, .ref a1, .int x2, .int v21] [] _
            refine pv_goto (M := mX11_allCome) (tgt := 3) dX11_allCome_39 (by decide) ?_
            exact ih8 v21 (by first | omega | assumption | exact (iv_rng _).2 | exact (iv_rng _).1 | decide) (by first | omega | assumption | exact (iv_rng _).2 | exact (iv_rng _).1 | decide) (by omega)
          · have c20 := iv_eq (X := v19.toInt) (Y := 0) c20 rfl (by decide)
            refine pv_iconst (M := mX11_allCome) (v := 0) dX11_allCome_34 35 rfl (by decide) ?_
            exact pv_iret (M := mX11_allCome) dX11_allCome_35 rfl rfl ⟨_, rfl, rfl, by decide, by decide, trivial⟩
  have z22 : (0 : Int32).toInt = 0 := by decide
  exact lp7 (((8 - 0) : Int).toNat + 1) 0 (by first | omega | assumption | exact (iv_rng _).2 | exact (iv_rng _).1 | decide) (by first | omega | assumption | exact (iv_rng _).2 | exact (iv_rng _).1 | decide) (by omega)

set_option maxHeartbeats 2000000 in
set_option maxRecDepth 20000 in
theorem s_X11_askLaw (g : pv_G) {T : List mv_T} {m : Nat → Nat → Int32} {n : Nat → Nat → Int64} {r : Nat → Value} {la lb : Nat} (hT : TX T) (I : IV BB m) (R : RX T r la lb) (x0 : Int32) (hl0 : 0 ≤ x0.toInt) (hh0 : x0.toInt ≤ 7) (x1 : Int32) (hl1 : 0 ≤ x1.toInt) (hh1 : x1.toInt ≤ 40) (x2 : Int32) (hl2 : 0 ≤ x2.toInt) (hh2 : x2.toInt ≤ 40) (x3 : Int32) : PM g mX11_askLaw yX11_askLaw (sqV T BB wN r m (fun m' => True)) 6 0 0 [.ref 0, .int x0, .int x1, .int x2, .int x3] (mk T m n r) := by
  have Kp : fr wN m m := fr.rf
  have R0 := R
  have zR := R.2.2.2.2.1.1
  have zR2 := R.2.2.2.2.2.1
  refine PM.of 1 (lo := [.ref 0, .int x0, .int x1, .int x2, .int x3, pv_U]) rfl (by decide) rfl rfl (Nat.le_of_ble_eq_true rfl) ?_
  refine pv_iload_n (M := mX11_askLaw) 2 dX11_askLaw_0 1 rfl rfl rfl ?_
  refine pv_istore (M := mX11_askLaw) (lo2 := [.ref 0, .int x0, .int x1, .int x2, .int x3, .int x1]) dX11_askLaw_1 3 rfl (by decide) rfl rfl ?_
  have lp7 : ∀ (fuel6 : Nat) (y1 : Int32) (m2 : Nat → Nat → Int32) (n3 : Nat → Nat → Int64), (0 ≤ y1.toInt) → (y1.toInt ≤ 40) → IV BB m2 → fr wN m m2 → ((40 - y1.toInt) : Int).toNat < fuel6 → PV none g mX11_askLaw (sqV T BB wN r m (fun m' => True)) 6 0 0 3 [.ref 0, .int x0, .int x1, .int x2, .int x3, .int y1] [] (mk T m2 n3 r) := by
    intro fuel6
    induction fuel6 with
    | zero => intro y1 m2 n3 b9 b10 I4 K5 z11; omega
    | succ fuel6 ih8 =>
      intro y1 m2 n3 b9 b10 I4 K5 z11
      refine pv_iload (M := mX11_askLaw) dX11_askLaw_3 5 rfl rfl ?_
      refine pv_iload_n (M := mX11_askLaw) 3 dX11_askLaw_5 6 rfl rfl rfl ?_
      refine pv_icmp_ge (M := mX11_askLaw) (tgt := 79) dX11_askLaw_6 9 rfl (by decide) (fun c12 => ?_) (fun c12 => ?_)
      · have c12 := iv_le (X := x2.toInt) (Y := y1.toInt) c12 rfl rfl
        exact pv_vret (M := mX11_askLaw) dX11_askLaw_79 rfl ⟨_, _, rfl, rfl, I4, K5, trivial⟩
      · have c12 := iv_nle (X := x2.toInt) (Y := y1.toInt) c12 rfl rfl
        refine pv_aload_n (M := mX11_askLaw) 0 dX11_askLaw_9 10 rfl rfl rfl ?_
        refine mv_get (M := mX11_askLaw) (v := .ref la) dX11_askLaw_10 FX11 4 wd411 (by decide) (tl0 hT) rfl R.2.2.1 13 rfl ?_
        refine pv_aload_n (M := mX11_askLaw) 0 dX11_askLaw_13 14 rfl rfl rfl ?_
        refine mv_get (M := mX11_askLaw) (v := .ref 3) dX11_askLaw_14 FX11 1 wd408 (by decide) (tl0 hT) rfl rfl 17 rfl ?_
        refine pv_iload_n (M := mX11_askLaw) 1 dX11_askLaw_17 18 rfl rfl rfl ?_
        refine iv_qblank (M := mX11_askLaw) (X := x0.toInt) dX11_askLaw_18 hT R rfl (by omega) (by omega) 19 rfl (fun b13 eb13 hb13 => ?_)
        have zb13 := hb13.2.2.2.2.2.2.2
        refine pv_iload_n (M := mX11_askLaw) 1 dX11_askLaw_19 20 rfl rfl rfl ?_
        refine pv_iload (M := mX11_askLaw) dX11_askLaw_20 22 rfl rfl ?_
        refine pv_iload (M := mX11_askLaw) dX11_askLaw_22 24 rfl rfl ?_
        refine pv_aload_n (M := mX11_askLaw) 0 dX11_askLaw_24 25 rfl rfl rfl ?_
        refine iv_get (M := mX11_askLaw) (l1 := 0) (l2 := 999) dX11_askLaw_25 FX11 7 wd414 (by decide) (tl0 hT) rfl I4 rfl 28 rfl (fun v14 ev14 pv14 qv14 => ?_)
        refine pv_callv (M := mX11_askLaw) (as := [.ref b13, .int x0, .int y1, .int x3, .int v14]) (st := []) (kc2 := 0) (ks2 := 0) dX11_askLaw_28 wd723 YX6_show ⟨wd724, wd725⟩ (mk_get R.2.2.2.2.1.2.1) rfl rfl (s_X6_show g hT I4 la R.2.2.2.2.1 b13 hb13 x0 y1 x3 v14) rfl rfl (Nat.le_of_ble_eq_true rfl) (by decide) rfl rfl 31 rfl (fun rv h1 q15 => ?_)
        obtain ⟨m16, n17, rfl, rfl, I18, K19, rm16⟩ := q15
        have K19c := K19
        have K19 := K5.trans (K19.sub (by first | exact wg_l (by decide) | exact wg_g (by decide) | exact WX_wg | exact la7_wg zR (by decide) | exact wsL_wg zR (by decide)))
        show PV _ _ _ _ _ _ _ 31 [.ref 0, .int x0, .int x1, .int x2, .int x3, .int y1] [] _
        refine pv_aload_n (M := mX11_askLaw) 0 dX11_askLaw_31 32 rfl rfl rfl ?_
        refine mv_get (M := mX11_askLaw) (v := .ref 107) dX11_askLaw_32 FX11 10 wd417 (by decide) (tl0 hT) rfl rfl 35 rfl ?_
        refine mv_get (M := mX11_askLaw) (v := .ref 108) dX11_askLaw_35 FX2 0 wd347 (by decide) (tl107 hT) rfl rfl 38 rfl ?_
        refine pv_iload (M := mX11_askLaw) dX11_askLaw_38 40 rfl rfl ?_
        refine pv_aload_n (M := mX11_askLaw) 0 dX11_askLaw_40 41 rfl rfl rfl ?_
        refine mv_get (M := mX11_askLaw) (v := .ref la) dX11_askLaw_41 FX11 4 wd411 (by decide) (tl0 hT) rfl R.2.2.1 44 rfl ?_
        refine pv_callv (M := mX11_askLaw) (as := []) (st := [.int y1, .ref 108]) (kc2 := 0) (ks2 := 0) dX11_askLaw_44 wd737 YX6_forbids ⟨wd738, wd739⟩ (mk_get R.2.2.2.2.1.2.1) rfl rfl (s_X6_forbids g hT I18 la R.2.2.2.2.1) rfl rfl (Nat.le_of_ble_eq_true rfl) (by decide) rfl rfl 47 rfl (fun rv h1 q20 => ?_)
        obtain ⟨m21, n22, v25, rfl, rfl, I23, K24, pv25, qv25, rv25⟩ := q20
        have K24c := K24
        have K24 := K19.trans (K24.sub (by first | exact wg_l (by decide) | exact wg_g (by decide) | exact WX_wg | exact la7_wg zR (by decide) | exact wsL_wg zR (by decide)))
        show PV _ _ _ _ _ _ _ 47 [.ref 0, .int x0, .int x1, .int x2, .int x3, .int y1] [.int v25, .int y1, .ref 108] _
        refine pv_if_ne (M := mX11_askLaw) (tgt := 54) dX11_askLaw_47 50 rfl (by decide) (fun c26 => ?_) (fun c26 => ?_)
        · have c26 := iv_ne (X := v25.toInt) (Y := 0) c26 rfl (by decide)
          refine pv_iconst (M := mX11_askLaw) (v := 0) dX11_askLaw_54 55 rfl (by decide) ?_
          refine iv_zast (M := mX11_askLaw) (X := y1.toInt) (l1 := 0) (l2 := 1) dX11_askLaw_55 (tl108 hT) rfl (by omega) (by omega) I23 (fun _ => rfl) (y := 0) (by decide) (by decide) (by decide) 56 rfl (fun m27 e30 I28 => ?_)
          have K29 := K24.set e30 (by first | rfl | decide)
          refine pv_aload_n (M := mX11_askLaw) 0 dX11_askLaw_56 57 rfl rfl rfl ?_
          refine mv_get (M := mX11_askLaw) (v := .ref 107) dX11_askLaw_57 FX11 10 wd417 (by decide) (tl0 hT) rfl rfl 60 rfl ?_
          refine mv_get (M := mX11_askLaw) (v := .ref 109) dX11_askLaw_60 FX2 1 wd349 (by decide) (tl107 hT) rfl rfl 63 rfl ?_
          refine pv_iload (M := mX11_askLaw) dX11_askLaw_63 65 rfl rfl ?_
          refine pv_aload_n (M := mX11_askLaw) 0 dX11_askLaw_65 66 rfl rfl rfl ?_
          refine mv_get (M := mX11_askLaw) (v := .ref la) dX11_askLaw_66 FX11 4 wd411 (by decide) (tl0 hT) rfl R.2.2.1 69 rfl ?_
          refine pv_callv (M := mX11_askLaw) (as := []) (st := [.int y1, .ref 109]) (kc2 := 0) (ks2 := 0) dX11_askLaw_69 wd764 YX6_priceNow ⟨wd765, wd766⟩ (mk_get R.2.2.2.2.1.2.1) rfl rfl (s_X6_priceNow g hT I28 la R.2.2.2.2.1) rfl rfl (Nat.le_of_ble_eq_true rfl) (by decide) rfl rfl 72 rfl (fun rv h1 q31 => ?_)
          obtain ⟨m32, n33, v36, rfl, rfl, I34, K35, pv36, qv36, rv36⟩ := q31
          have K35c := K35
          have K35 := K29.trans (K35.sub (by first | exact wg_l (by decide) | exact wg_g (by decide) | exact WX_wg | exact la7_wg zR (by decide) | exact wsL_wg zR (by decide)))
          show PV _ _ _ _ _ _ _ 72 [.ref 0, .int x0, .int x1, .int x2, .int x3, .int y1] [.int v36, .int y1, .ref 109] _
          refine iv_iast (M := mX11_askLaw) (X := y1.toInt) (l1 := (-2147483648)) (l2 := 2147483647) dX11_askLaw_72 (tl109 hT) rfl (by omega) (by omega) I34 (fun _ => rfl) (iv_rng v36).1 (iv_rng v36).2 73 rfl (fun m37 e40 I38 => ?_)
          have K39 := K35.set e40 (by first | rfl | decide)
          refine iv_inc (M := mX11_askLaw) (C := 1) dX11_askLaw_73 76 rfl rfl (by decide) rfl rfl (by decide) (by omega) (by omega) (fun v41 ev41 => ?_)
          show PV _ _ _ _ _ _ _ 76 [.ref 0, .int x0, .int x1, .int x2, .int x3, .int v41] [] _
          refine pv_goto (M := mX11_askLaw) (tgt := 3) dX11_askLaw_76 (by decide) ?_
          exact ih8 v41 m37 n33 (by first | omega | assumption | exact (iv_rng _).2 | exact (iv_rng _).1 | decide) (by first | omega | assumption | exact (iv_rng _).2 | exact (iv_rng _).1 | decide) I38 K39 (by omega)
        · have c26 := iv_eq (X := v25.toInt) (Y := 0) c26 rfl (by decide)
          refine pv_iconst (M := mX11_askLaw) (v := 1) dX11_askLaw_50 51 rfl (by decide) ?_
          refine pv_goto (M := mX11_askLaw) (tgt := 55) dX11_askLaw_51 (by decide) ?_
          refine iv_zast (M := mX11_askLaw) (X := y1.toInt) (l1 := 0) (l2 := 1) dX11_askLaw_55 (tl108 hT) rfl (by omega) (by omega) I23 (fun _ => rfl) (y := 1) (by decide) (by decide) (by decide) 56 rfl (fun m42 e45 I43 => ?_)
          have K44 := K24.set e45 (by first | rfl | decide)
          refine pv_aload_n (M := mX11_askLaw) 0 dX11_askLaw_56 57 rfl rfl rfl ?_
          refine mv_get (M := mX11_askLaw) (v := .ref 107) dX11_askLaw_57 FX11 10 wd417 (by decide) (tl0 hT) rfl rfl 60 rfl ?_
          refine mv_get (M := mX11_askLaw) (v := .ref 109) dX11_askLaw_60 FX2 1 wd349 (by decide) (tl107 hT) rfl rfl 63 rfl ?_
          refine pv_iload (M := mX11_askLaw) dX11_askLaw_63 65 rfl rfl ?_
          refine pv_aload_n (M := mX11_askLaw) 0 dX11_askLaw_65 66 rfl rfl rfl ?_
          refine mv_get (M := mX11_askLaw) (v := .ref la) dX11_askLaw_66 FX11 4 wd411 (by decide) (tl0 hT) rfl R.2.2.1 69 rfl ?_
          refine pv_callv (M := mX11_askLaw) (as := []) (st := [.int y1, .ref 109]) (kc2 := 0) (ks2 := 0) dX11_askLaw_69 wd764 YX6_priceNow ⟨wd765, wd766⟩ (mk_get R.2.2.2.2.1.2.1) rfl rfl (s_X6_priceNow g hT I43 la R.2.2.2.2.1) rfl rfl (Nat.le_of_ble_eq_true rfl) (by decide) rfl rfl 72 rfl (fun rv h1 q46 => ?_)
          obtain ⟨m47, n48, v51, rfl, rfl, I49, K50, pv51, qv51, rv51⟩ := q46
          have K50c := K50
          have K50 := K44.trans (K50.sub (by first | exact wg_l (by decide) | exact wg_g (by decide) | exact WX_wg | exact la7_wg zR (by decide) | exact wsL_wg zR (by decide)))
          show PV _ _ _ _ _ _ _ 72 [.ref 0, .int x0, .int x1, .int x2, .int x3, .int y1] [.int v51, .int y1, .ref 109] _
          refine iv_iast (M := mX11_askLaw) (X := y1.toInt) (l1 := (-2147483648)) (l2 := 2147483647) dX11_askLaw_72 (tl109 hT) rfl (by omega) (by omega) I49 (fun _ => rfl) (iv_rng v51).1 (iv_rng v51).2 73 rfl (fun m52 e55 I53 => ?_)
          have K54 := K50.set e55 (by first | rfl | decide)
          refine iv_inc (M := mX11_askLaw) (C := 1) dX11_askLaw_73 76 rfl rfl (by decide) rfl rfl (by decide) (by omega) (by omega) (fun v56 ev56 => ?_)
          show PV _ _ _ _ _ _ _ 76 [.ref 0, .int x0, .int x1, .int x2, .int x3, .int v56] [] _
          refine pv_goto (M := mX11_askLaw) (tgt := 3) dX11_askLaw_76 (by decide) ?_
          exact ih8 v56 m52 n48 (by first | omega | assumption | exact (iv_rng _).2 | exact (iv_rng _).1 | decide) (by first | omega | assumption | exact (iv_rng _).2 | exact (iv_rng _).1 | decide) I53 K54 (by omega)
  exact lp7 (((40 - x1.toInt) : Int).toNat + 1) x1 m n (by first | omega | assumption | exact (iv_rng _).2 | exact (iv_rng _).1 | decide) (by first | omega | assumption | exact (iv_rng _).2 | exact (iv_rng _).1 | decide) I Kp (by omega)

set_option maxHeartbeats 2000000 in
set_option maxRecDepth 20000 in
theorem s_X11_left (g : pv_G) {T : List mv_T} {m : Nat → Nat → Int32} {n : Nat → Nat → Int64} {r : Nat → Value} {la lb : Nat} (hT : TX T) (I : IV BB m) (R : RX T r la lb) (x0 : Int32) (x1 : Int32) (x2 : Int32) : PM g mX11_left yX11_left (sqP (mk T m n r) (-2147483648) 2147483647 (fun v => True)) 3 0 0 [.ref 0, .int x0, .int x1, .int x2] (mk T m n r) := by
  have Kp : fr (wl []) m m := fr.rf
  have R0 := R
  have zR := R.2.2.2.2.1.1
  have zR2 := R.2.2.2.2.2.1
  refine PM.of 0 (lo := [.ref 0, .int x0, .int x1, .int x2]) rfl (by decide) rfl rfl (Nat.le_of_ble_eq_true rfl) ?_
  refine pv_aload_n (M := mX11_left) 0 dX11_left_0 1 rfl rfl rfl ?_
  refine pv_iload_n (M := mX11_left) 1 dX11_left_1 2 rfl rfl rfl ?_
  refine pv_iload_n (M := mX11_left) 2 dX11_left_2 3 rfl rfl rfl ?_
  refine pv_callv (M := mX11_left) (as := [.int x0, .int x1]) (st := []) (kc2 := 0) (ks2 := 0) dX11_left_3 wd696 YX11_isPlace ⟨wd698, wd15⟩ (mk_get (tl0 hT)) rfl rfl (s_X11_isPlace g hT I R x0 x1) rfl rfl (Nat.le_of_ble_eq_true rfl) (by decide) rfl rfl 6 rfl (fun rv h1 q1 => ?_)
  obtain ⟨v2, rfl, rfl, pv2, qv2, rv2⟩ := q1
  replace rv2 : v2 = 0 ∨ ((0 ≤ x0.toInt ∧ x0.toInt ≤ 7) ∧ (0 ≤ x1.toInt ∧ x1.toInt ≤ 39)) := rv2
  show PV _ _ _ _ _ _ _ 6 [.ref 0, .int x0, .int x1, .int x2] [.int v2] _
  refine pv_if_ne (M := mX11_left) (tgt := 11) dX11_left_6 9 rfl (by decide) (fun c3 => ?_) (fun c3 => ?_)
  · have pc3 := rv2.resolve_left c3
    have c3 := iv_ne (X := v2.toInt) (Y := 0) c3 rfl (by decide)
    refine pv_iload_n (M := mX11_left) 3 dX11_left_11 12 rfl rfl rfl ?_
    refine pv_if_ne (M := mX11_left) (tgt := 29) dX11_left_12 15 rfl (by decide) (fun c4 => ?_) (fun c4 => ?_)
    · have c4 := iv_ne (X := x2.toInt) (Y := 0) c4 rfl (by decide)
      refine pv_iload_n (M := mX11_left) 3 dX11_left_29 30 rfl rfl rfl ?_
      refine pv_iconst (M := mX11_left) (v := 1) dX11_left_30 31 rfl (by decide) ?_
      refine pv_icmp_ne (M := mX11_left) (tgt := 47) dX11_left_31 34 rfl (by decide) (fun c5 => ?_) (fun c5 => ?_)
      · have c5 := iv_ne (X := x2.toInt) (Y := 1) c5 rfl (by decide)
        refine pv_iconst (M := mX11_left) (v := (-1)) dX11_left_47 48 rfl (by decide) ?_
        exact pv_iret (M := mX11_left) dX11_left_48 rfl rfl ⟨_, rfl, rfl, by decide, by decide, trivial⟩
      · have c5 := iv_eq (X := x2.toInt) (Y := 1) c5 rfl (by decide)
        refine pv_aload_n (M := mX11_left) 0 dX11_left_34 35 rfl rfl rfl ?_
        refine mv_get (M := mX11_left) (v := .ref 3) dX11_left_35 FX11 1 wd408 (by decide) (tl0 hT) rfl rfl 38 rfl ?_
        refine pv_iload_n (M := mX11_left) 1 dX11_left_38 39 rfl rfl rfl ?_
        refine iv_qblank (M := mX11_left) (X := x0.toInt) dX11_left_39 hT R rfl (by omega) (by omega) 40 rfl (fun b6 eb6 hb6 => ?_)
        have zb6 := hb6.2.2.2.2.2.2.2
        refine pv_iload_n (M := mX11_left) 2 dX11_left_40 41 rfl rfl rfl ?_
        refine pv_callv (M := mX11_left) (as := [.int x1]) (st := []) (kc2 := 0) (ks2 := 0) dX11_left_41 wd708 YX0_ownAt ⟨wd709, wd710⟩ (mk_get hb6.1) rfl rfl (s_X0_ownAt g hT I b6 hb6 x1) rfl rfl (Nat.le_of_ble_eq_true rfl) (by decide) rfl rfl 44 rfl (fun rv h1 q7 => ?_)
        obtain ⟨v8, rfl, rfl, pv8, qv8, rv8⟩ := q7
        show PV _ _ _ _ _ _ _ 44 [.ref 0, .int x0, .int x1, .int x2] [.int v8] _
        refine pv_goto (M := mX11_left) (tgt := 48) dX11_left_44 (by decide) ?_
        exact pv_iret (M := mX11_left) dX11_left_48 rfl rfl ⟨_, rfl, rfl, (iv_rng v8).1, (iv_rng v8).2, trivial⟩
    · have c4 := iv_eq (X := x2.toInt) (Y := 0) c4 rfl (by decide)
      refine pv_aload_n (M := mX11_left) 0 dX11_left_15 16 rfl rfl rfl ?_
      refine mv_get (M := mX11_left) (v := .ref 3) dX11_left_16 FX11 1 wd408 (by decide) (tl0 hT) rfl rfl 19 rfl ?_
      refine pv_iload_n (M := mX11_left) 1 dX11_left_19 20 rfl rfl rfl ?_
      refine iv_qblank (M := mX11_left) (X := x0.toInt) dX11_left_20 hT R rfl (by omega) (by omega) 21 rfl (fun b9 eb9 hb9 => ?_)
      have zb9 := hb9.2.2.2.2.2.2.2
      refine mv_get (M := mX11_left) (v := .ref (b9 + 3)) dX11_left_21 FX0 1 wd210 (by decide) hb9.1 rfl rfl 24 rfl ?_
      refine pv_iload_n (M := mX11_left) 2 dX11_left_24 25 rfl rfl rfl ?_
      refine pv_callv (M := mX11_left) (as := [.int x1]) (st := []) (kc2 := 0) (ks2 := 0) dX11_left_25 wd704 YX8_at ⟨wd705, wd706⟩ (mk_get hb9.2.2.1.1) rfl rfl (s_X8_at g hT I (b9 + 3) 40 hb9.2.2.1 x1) rfl rfl (Nat.le_of_ble_eq_true rfl) (by decide) rfl rfl 28 rfl (fun rv h1 q10 => ?_)
      obtain ⟨v11, rfl, rfl, pv11, qv11, rv11⟩ := q10
      replace rv11 : v11.toInt = atv m (b9 + 3) x1.toInt := rv11
      show PV _ _ _ _ _ _ _ 28 [.ref 0, .int x0, .int x1, .int x2] [.int v11] _
      exact pv_iret (M := mX11_left) dX11_left_28 rfl rfl ⟨_, rfl, rfl, (iv_rng v11).1, (iv_rng v11).2, trivial⟩
  · have c3 := iv_eq (X := v2.toInt) (Y := 0) c3 rfl (by decide)
    refine pv_iconst (M := mX11_left) (v := (-1)) dX11_left_9 10 rfl (by decide) ?_
    exact pv_iret (M := mX11_left) dX11_left_10 rfl rfl ⟨_, rfl, rfl, by decide, by decide, trivial⟩

set_option maxHeartbeats 2000000 in
set_option maxRecDepth 20000 in
theorem s_X11_may (g : pv_G) {T : List mv_T} {m : Nat → Nat → Int32} {n : Nat → Nat → Int64} {r : Nat → Value} {la lb : Nat} (hT : TX T) (I : IV BB m) (R : RX T r la lb) (x0 : Int32) (x1 : Int32) (x2 : Int32) (x3 : Int32) : PM g mX11_may yX11_may (sqI T BB wN r m (-2147483648) 2147483647 (fun m' v => True)) 7 0 0 [.ref 0, .int x0, .int x1, .int x2, .int x3] (mk T m n r) := by
  have Kp : fr wN m m := fr.rf
  have R0 := R
  have zR := R.2.2.2.2.1.1
  have zR2 := R.2.2.2.2.2.1
  refine PM.of 0 (lo := [.ref 0, .int x0, .int x1, .int x2, .int x3]) rfl (by decide) rfl rfl (Nat.le_of_ble_eq_true rfl) ?_
  refine pv_aload_n (M := mX11_may) 0 dX11_may_0 1 rfl rfl rfl ?_
  refine pv_iload_n (M := mX11_may) 1 dX11_may_1 2 rfl rfl rfl ?_
  refine pv_iload_n (M := mX11_may) 2 dX11_may_2 3 rfl rfl rfl ?_
  refine pv_callv (M := mX11_may) (as := [.int x0, .int x1]) (st := []) (kc2 := 0) (ks2 := 0) dX11_may_3 wd696 YX11_isPlace ⟨wd698, wd15⟩ (mk_get (tl0 hT)) rfl rfl (s_X11_isPlace g hT I R x0 x1) rfl rfl (Nat.le_of_ble_eq_true rfl) (by decide) rfl rfl 6 rfl (fun rv h1 q1 => ?_)
  obtain ⟨v2, rfl, rfl, pv2, qv2, rv2⟩ := q1
  replace rv2 : v2 = 0 ∨ ((0 ≤ x0.toInt ∧ x0.toInt ≤ 7) ∧ (0 ≤ x1.toInt ∧ x1.toInt ≤ 39)) := rv2
  show PV _ _ _ _ _ _ _ 6 [.ref 0, .int x0, .int x1, .int x2, .int x3] [.int v2] _
  refine pv_if_eq (M := mX11_may) (tgt := 27) dX11_may_6 9 rfl (by decide) (fun c3 => ?_) (fun c3 => ?_)
  · have c3 := iv_eq (X := v2.toInt) (Y := 0) c3 rfl (by decide)
    refine pv_iconst (M := mX11_may) (v := (-1)) dX11_may_27 28 rfl (by decide) ?_
    exact pv_iret (M := mX11_may) dX11_may_28 rfl rfl ⟨_, _, _, rfl, rfl, I, Kp, by decide, by decide, trivial⟩
  · have pc3 := rv2.resolve_left c3
    have c3 := iv_ne (X := v2.toInt) (Y := 0) c3 rfl (by decide)
    refine pv_iload_n (M := mX11_may) 3 dX11_may_9 10 rfl rfl rfl ?_
    refine pv_calls (M := mX11_may) (as := [.int x2]) (st := []) (kc2 := 0) (ks2 := 0) dX11_may_10 wd716 YX11_isClerk wd717 (s_X11_isClerk g hT I x2) rfl rfl (Nat.le_of_ble_eq_true rfl) (by decide) rfl rfl 13 rfl (fun rv h1 q4 => ?_)
    obtain ⟨v5, rfl, rfl, pv5, qv5, rv5⟩ := q4
    replace rv5 : v5 = 0 ∨ (0 ≤ x2.toInt ∧ x2.toInt ≤ 7) := rv5
    show PV _ _ _ _ _ _ _ 13 [.ref 0, .int x0, .int x1, .int x2, .int x3] [.int v5] _
    refine pv_if_eq (M := mX11_may) (tgt := 27) dX11_may_13 16 rfl (by decide) (fun c6 => ?_) (fun c6 => ?_)
    · have c6 := iv_eq (X := v5.toInt) (Y := 0) c6 rfl (by decide)
      refine pv_iconst (M := mX11_may) (v := (-1)) dX11_may_27 28 rfl (by decide) ?_
      exact pv_iret (M := mX11_may) dX11_may_28 rfl rfl ⟨_, _, _, rfl, rfl, I, Kp, by decide, by decide, trivial⟩
    · have pc6 := rv5.resolve_left c6
      have c6 := iv_ne (X := v5.toInt) (Y := 0) c6 rfl (by decide)
      refine pv_iload (M := mX11_may) dX11_may_16 18 rfl rfl ?_
      refine pv_if_lt (M := mX11_may) (tgt := 27) dX11_may_18 21 rfl (by decide) (fun c7 => ?_) (fun c7 => ?_)
      · have c7 := iv_lt (X := x3.toInt) (Y := 0) c7 rfl (by decide)
        refine pv_iconst (M := mX11_may) (v := (-1)) dX11_may_27 28 rfl (by decide) ?_
        exact pv_iret (M := mX11_may) dX11_may_28 rfl rfl ⟨_, _, _, rfl, rfl, I, Kp, by decide, by decide, trivial⟩
      · have c7 := iv_nlt (X := x3.toInt) (Y := 0) c7 rfl (by decide)
        refine pv_iload (M := mX11_may) dX11_may_21 23 rfl rfl ?_
        refine pv_iconst (M := mX11_may) (v := 1) dX11_may_23 24 rfl (by decide) ?_
        refine pv_icmp_le (M := mX11_may) (tgt := 29) dX11_may_24 27 rfl (by decide) (fun c8 => ?_) (fun c8 => ?_)
        · have c8 := iv_le (X := x3.toInt) (Y := 1) c8 rfl (by decide)
          refine pv_aload_n (M := mX11_may) 0 dX11_may_29 30 rfl rfl rfl ?_
          refine pv_iload_n (M := mX11_may) 1 dX11_may_30 31 rfl rfl rfl ?_
          refine pv_iload_n (M := mX11_may) 2 dX11_may_31 32 rfl rfl rfl ?_
          refine pv_iload_n (M := mX11_may) 2 dX11_may_32 33 rfl rfl rfl ?_
          refine pv_iconst (M := mX11_may) (v := 1) dX11_may_33 34 rfl (by decide) ?_
          refine iv_iadd (M := mX11_may) (X := x1.toInt) (Y := 1) dX11_may_34 35 rfl rfl (by decide) (by omega) (by omega) (fun v9 ev9 => ?_)
          refine pv_iload_n (M := mX11_may) 3 dX11_may_35 36 rfl rfl rfl ?_
          refine pv_callv (M := mX11_may) (as := [.int x0, .int x1, .int v9, .int x2]) (st := []) (kc2 := 0) (ks2 := 0) dX11_may_36 wd719 YX11_askLaw ⟨wd721, wd17⟩ (mk_get (tl0 hT)) rfl rfl (s_X11_askLaw g hT I R x0 (by omega) (by omega) x1 (by omega) (by omega) v9 (by omega) (by omega) x2) rfl rfl (Nat.le_of_ble_eq_true rfl) (by decide) rfl rfl 39 rfl (fun rv h1 q10 => ?_)
          obtain ⟨m11, n12, rfl, rfl, I13, K14, rm11⟩ := q10
          have K14c := K14
          have K14 := Kp.trans (K14.sub (fun _ _ q => q))
          show PV _ _ _ _ _ _ _ 39 [.ref 0, .int x0, .int x1, .int x2, .int x3] [] _
          refine pv_iload (M := mX11_may) dX11_may_39 41 rfl rfl ?_
          refine pv_if_ne (M := mX11_may) (tgt := 62) dX11_may_41 44 rfl (by decide) (fun c15 => ?_) (fun c15 => ?_)
          · have c15 := iv_ne (X := x3.toInt) (Y := 0) c15 rfl (by decide)
            refine pv_aload_n (M := mX11_may) 0 dX11_may_62 63 rfl rfl rfl ?_
            refine mv_get (M := mX11_may) (v := .ref 107) dX11_may_63 FX11 10 wd417 (by decide) (tl0 hT) rfl rfl 66 rfl ?_
            refine mv_get (M := mX11_may) (v := .ref 109) dX11_may_66 FX2 1 wd349 (by decide) (tl107 hT) rfl rfl 69 rfl ?_
            refine pv_iload_n (M := mX11_may) 2 dX11_may_69 70 rfl rfl rfl ?_
            refine iv_iald (M := mX11_may) (X := x1.toInt) (l1 := (-2147483648)) (l2 := 2147483647) dX11_may_70 (tl109 hT) rfl (by omega) (by omega) I13 (fun _ => rfl) 71 rfl (fun v16 ev16 pv16 qv16 => ?_)
            exact pv_iret (M := mX11_may) dX11_may_71 rfl rfl ⟨_, _, _, rfl, rfl, I13, K14, (iv_rng v16).1, (iv_rng v16).2, trivial⟩
          · have c15 := iv_eq (X := x3.toInt) (Y := 0) c15 rfl (by decide)
            refine pv_aload_n (M := mX11_may) 0 dX11_may_44 45 rfl rfl rfl ?_
            refine mv_get (M := mX11_may) (v := .ref 107) dX11_may_45 FX11 10 wd417 (by decide) (tl0 hT) rfl rfl 48 rfl ?_
            refine mv_get (M := mX11_may) (v := .ref 108) dX11_may_48 FX2 0 wd347 (by decide) (tl107 hT) rfl rfl 51 rfl ?_
            refine pv_iload_n (M := mX11_may) 2 dX11_may_51 52 rfl rfl rfl ?_
            refine iv_zald (M := mX11_may) (X := x1.toInt) (l1 := 0) (l2 := 1) dX11_may_52 (tl108 hT) rfl (by omega) (by omega) I13 (fun _ => rfl) 53 rfl (fun v17 ev17 pv17 qv17 => ?_)
            refine pv_if_eq (M := mX11_may) (tgt := 60) dX11_may_53 56 rfl (by decide) (fun c18 => ?_) (fun c18 => ?_)
            · have c18 := iv_eq (X := v17.toInt) (Y := 0) c18 rfl (by decide)
              refine pv_iconst (M := mX11_may) (v := 0) dX11_may_60 61 rfl (by decide) ?_
              exact pv_iret (M := mX11_may) dX11_may_61 rfl rfl ⟨_, _, _, rfl, rfl, I13, K14, by decide, by decide, trivial⟩
            · have c18 := iv_ne (X := v17.toInt) (Y := 0) c18 rfl (by decide)
              refine pv_iconst (M := mX11_may) (v := 1) dX11_may_56 57 rfl (by decide) ?_
              refine pv_goto (M := mX11_may) (tgt := 61) dX11_may_57 (by decide) ?_
              exact pv_iret (M := mX11_may) dX11_may_61 rfl rfl ⟨_, _, _, rfl, rfl, I13, K14, by decide, by decide, trivial⟩
        · have c8 := iv_nle (X := x3.toInt) (Y := 1) c8 rfl (by decide)
          refine pv_iconst (M := mX11_may) (v := (-1)) dX11_may_27 28 rfl (by decide) ?_
          exact pv_iret (M := mX11_may) dX11_may_28 rfl rfl ⟨_, _, _, rfl, rfl, I, Kp, by decide, by decide, trivial⟩

set_option maxHeartbeats 2000000 in
set_option maxRecDepth 20000 in
theorem s_X11_book (g : pv_G) {T : List mv_T} {m : Nat → Nat → Int32} {n : Nat → Nat → Int64} {r : Nat → Value} {la lb : Nat} (hT : TX T) (I : IV BB m) (R : RX T r la lb) (x0 : Int32) (x1 : Int32) : PM g mX11_book yX11_book (sqP (mk T m n r) (-2147483648) 2147483647 (fun v => True)) 3 0 0 [.ref 0, .int x0, .int x1] (mk T m n r) := by
  have Kp : fr (wl []) m m := fr.rf
  have R0 := R
  have zR := R.2.2.2.2.1.1
  have zR2 := R.2.2.2.2.2.1
  refine PM.of 0 (lo := [.ref 0, .int x0, .int x1]) rfl (by decide) rfl rfl (Nat.le_of_ble_eq_true rfl) ?_
  refine pv_aload_n (M := mX11_book) 0 dX11_book_0 1 rfl rfl rfl ?_
  refine mv_get (M := mX11_book) (v := .ref 97) dX11_book_1 FX11 6 wd413 (by decide) (tl0 hT) rfl rfl 4 rfl ?_
  refine pv_iload_n (M := mX11_book) 1 dX11_book_4 5 rfl rfl rfl ?_
  refine pv_iload_n (M := mX11_book) 2 dX11_book_5 6 rfl rfl rfl ?_
  refine pv_callv (M := mX11_book) (as := [.int x0, .int x1]) (st := []) (kc2 := 0) (ks2 := 0) dX11_book_6 wd819 YX1_tell ⟨wd820, wd821⟩ (mk_get (tl97 hT)) rfl rfl (s_X1_tell g hT I x0 x1) rfl rfl (Nat.le_of_ble_eq_true rfl) (by decide) rfl rfl 9 rfl (fun rv h1 q1 => ?_)
  obtain ⟨v2, rfl, rfl, pv2, qv2, rv2⟩ := q1
  show PV _ _ _ _ _ _ _ 9 [.ref 0, .int x0, .int x1] [.int v2] _
  exact pv_iret (M := mX11_book) dX11_book_9 rfl rfl ⟨_, rfl, rfl, (iv_rng v2).1, (iv_rng v2).2, trivial⟩

set_option maxHeartbeats 2000000 in
set_option maxRecDepth 20000 in
theorem s_X11_ways (g : pv_G) {T : List mv_T} {m : Nat → Nat → Int32} {n : Nat → Nat → Int64} {r : Nat → Value} {la lb : Nat} (hT : TX T) (I : IV BB m) (R : RX T r la lb) (x0 : Int32) (x1 : Int32) : PM g mX11_ways yX11_ways (sqJ T BB wN r m (fun m' => True)) 3 0 0 [.ref 0, .int x0, .int x1] (mk T m n r) := by
  have Kp : fr wN m m := fr.rf
  have R0 := R
  have zR := R.2.2.2.2.1.1
  have zR2 := R.2.2.2.2.2.1
  refine PM.of 0 (lo := [.ref 0, .int x0, .int x1]) rfl (by decide) rfl rfl (Nat.le_of_ble_eq_true rfl) ?_
  refine pv_aload_n (M := mX11_ways) 0 dX11_ways_0 1 rfl rfl rfl ?_
  refine pv_iload_n (M := mX11_ways) 1 dX11_ways_1 2 rfl rfl rfl ?_
  refine pv_callv (M := mX11_ways) (as := [.int x0]) (st := []) (kc2 := 0) (ks2 := 0) dX11_ways_2 wd700 YX11_isBlank ⟨wd702, wd16⟩ (mk_get (tl0 hT)) rfl rfl (s_X11_isBlank g hT I R x0) rfl rfl (Nat.le_of_ble_eq_true rfl) (by decide) rfl rfl 5 rfl (fun rv h1 q1 => ?_)
  obtain ⟨v2, rfl, rfl, pv2, qv2, rv2⟩ := q1
  replace rv2 : v2 = 0 ∨ (0 ≤ x0.toInt ∧ x0.toInt ≤ 7) := rv2
  show PV _ _ _ _ _ _ _ 5 [.ref 0, .int x0, .int x1] [.int v2] _
  refine pv_if_eq (M := mX11_ways) (tgt := 16) dX11_ways_5 8 rfl (by decide) (fun c3 => ?_) (fun c3 => ?_)
  · have c3 := iv_eq (X := v2.toInt) (Y := 0) c3 rfl (by decide)
    refine pv_ldc2 (M := mX11_ways) (v := (-1)) dX11_ways_16 19 rfl wd832 ?_
    exact pv_lret (M := mX11_ways) dX11_ways_19 rfl ⟨_, _, _, rfl, rfl, I, Kp, trivial⟩
  · have pc3 := rv2.resolve_left c3
    have c3 := iv_ne (X := v2.toInt) (Y := 0) c3 rfl (by decide)
    refine pv_aload_n (M := mX11_ways) 0 dX11_ways_8 9 rfl rfl rfl ?_
    refine pv_iload_n (M := mX11_ways) 2 dX11_ways_9 10 rfl rfl rfl ?_
    refine pv_callv (M := mX11_ways) (as := [.int x1]) (st := []) (kc2 := 0) (ks2 := 0) dX11_ways_10 wd828 YX11_isDeed ⟨wd830, wd25⟩ (mk_get (tl0 hT)) rfl rfl (s_X11_isDeed g hT I R x1) rfl rfl (Nat.le_of_ble_eq_true rfl) (by decide) rfl rfl 13 rfl (fun rv h1 q4 => ?_)
    obtain ⟨v5, rfl, rfl, pv5, qv5, rv5⟩ := q4
    replace rv5 : (v5 = 0 ∨ (0 ≤ x1.toInt ∧ x1.toInt ≤ 7)) ∧ v5 = ddv m x1 := rv5
    show PV _ _ _ _ _ _ _ 13 [.ref 0, .int x0, .int x1] [.int v5] _
    refine pv_if_ne (M := mX11_ways) (tgt := 20) dX11_ways_13 16 rfl (by decide) (fun c6 => ?_) (fun c6 => ?_)
    · have pc6 := rv5.1.resolve_left c6
      have c6 := iv_ne (X := v5.toInt) (Y := 0) c6 rfl (by decide)
      refine pv_aload_n (M := mX11_ways) 0 dX11_ways_20 21 rfl rfl rfl ?_
      refine mv_get (M := mX11_ways) (v := .ref 104) dX11_ways_21 FX11 9 wd416 (by decide) (tl0 hT) rfl rfl 24 rfl ?_
      refine pv_aload_n (M := mX11_ways) 0 dX11_ways_24 25 rfl rfl rfl ?_
      refine mv_get (M := mX11_ways) (v := .ref 3) dX11_ways_25 FX11 1 wd408 (by decide) (tl0 hT) rfl rfl 28 rfl ?_
      refine pv_iload_n (M := mX11_ways) 1 dX11_ways_28 29 rfl rfl rfl ?_
      refine iv_qblank (M := mX11_ways) (X := x0.toInt) dX11_ways_29 hT R rfl (by omega) (by omega) 30 rfl (fun b7 eb7 hb7 => ?_)
      have zb7 := hb7.2.2.2.2.2.2.2
      refine mv_get (M := mX11_ways) (v := .ref (b7 + 3)) dX11_ways_30 FX0 1 wd210 (by decide) hb7.1 rfl rfl 33 rfl ?_
      refine pv_aload_n (M := mX11_ways) 0 dX11_ways_33 34 rfl rfl rfl ?_
      refine mv_get (M := mX11_ways) (v := .ref 60) dX11_ways_34 FX11 3 wd410 (by decide) (tl0 hT) rfl rfl 37 rfl ?_
      refine pv_iload_n (M := mX11_ways) 2 dX11_ways_37 38 rfl rfl rfl ?_
      refine iv_qdeed (M := mX11_ways) (X := x1.toInt) dX11_ways_38 hT R rfl (by omega) (by omega) 39 rfl (fun b8 eb8 hb8 => ?_)
      have zb8 := hb8.2.2.2.2
      refine pv_iconst (M := mX11_ways) (v := 1) dX11_ways_39 40 rfl (by decide) ?_
      refine pv_callv (M := mX11_ways) (as := [.ref (b7 + 3), .ref b8, .int 1]) (st := []) (kc2 := 0) (ks2 := 0) dX11_ways_40 wd833 YX4_evenChoices ⟨wd834, wd835⟩ (mk_get (tl104 hT)) rfl rfl (s_X4_evenChoices g hT I (b7 + 3) 40 hb7.2.2.1 (by omega) b8 16 hb8 1) rfl rfl (Nat.le_of_ble_eq_true rfl) (by decide) rfl rfl 43 rfl (fun rv h1 q9 => ?_)
      obtain ⟨m10, n11, v14, rfl, rfl, I12, K13, rm10⟩ := q9
      have K13c := K13
      have K13 := Kp.trans (K13.sub (by first | exact wg_l (by decide) | exact wg_g (by decide) | exact WX_wg | exact la7_wg zR (by decide) | exact wsL_wg zR (by decide)))
      show PV _ _ _ _ _ _ _ 43 [.ref 0, .int x0, .int x1] [.long v14] _
      exact pv_lret (M := mX11_ways) dX11_ways_43 rfl ⟨_, _, _, rfl, rfl, I12, K13, trivial⟩
    · have c6 := iv_eq (X := v5.toInt) (Y := 0) c6 rfl (by decide)
      refine pv_ldc2 (M := mX11_ways) (v := (-1)) dX11_ways_16 19 rfl wd832 ?_
      exact pv_lret (M := mX11_ways) dX11_ways_19 rfl ⟨_, _, _, rfl, rfl, I, Kp, trivial⟩

set_option maxHeartbeats 2000000 in
set_option maxRecDepth 20000 in
theorem s_X11_cheapest (g : pv_G) {T : List mv_T} {m : Nat → Nat → Int32} {n : Nat → Nat → Int64} {r : Nat → Value} {la lb : Nat} (hT : TX T) (I : IV BB m) (R : RX T r la lb) (x0 : Int32) (x1 : Int32) (x2 : Int32) (x3 : Int32) : PM g mX11_cheapest yX11_cheapest (sqI T BB wN r m (-2147483648) 2147483647 (fun m' v => True)) 7 0 0 [.ref 0, .int x0, .int x1, .int x2, .int x3] (mk T m n r) := by
  have Kp : fr wN m m := fr.rf
  have R0 := R
  have zR := R.2.2.2.2.1.1
  have zR2 := R.2.2.2.2.2.1
  refine PM.of 1 (lo := [.ref 0, .int x0, .int x1, .int x2, .int x3, pv_U]) rfl (by decide) rfl rfl (Nat.le_of_ble_eq_true rfl) ?_
  refine pv_aload_n (M := mX11_cheapest) 0 dX11_cheapest_0 1 rfl rfl rfl ?_
  refine pv_iload_n (M := mX11_cheapest) 1 dX11_cheapest_1 2 rfl rfl rfl ?_
  refine pv_callv (M := mX11_cheapest) (as := [.int x0]) (st := []) (kc2 := 0) (ks2 := 0) dX11_cheapest_2 wd700 YX11_isBlank ⟨wd702, wd16⟩ (mk_get (tl0 hT)) rfl rfl (s_X11_isBlank g hT I R x0) rfl rfl (Nat.le_of_ble_eq_true rfl) (by decide) rfl rfl 5 rfl (fun rv h1 q1 => ?_)
  obtain ⟨v2, rfl, rfl, pv2, qv2, rv2⟩ := q1
  replace rv2 : v2 = 0 ∨ (0 ≤ x0.toInt ∧ x0.toInt ≤ 7) := rv2
  show PV _ _ _ _ _ _ _ 5 [.ref 0, .int x0, .int x1, .int x2, .int x3, pv_U] [.int v2] _
  refine pv_if_eq (M := mX11_cheapest) (tgt := 23) dX11_cheapest_5 8 rfl (by decide) (fun c3 => ?_) (fun c3 => ?_)
  · have c3 := iv_eq (X := v2.toInt) (Y := 0) c3 rfl (by decide)
    refine pv_iconst (M := mX11_cheapest) (v := (-1)) dX11_cheapest_23 24 rfl (by decide) ?_
    exact pv_iret (M := mX11_cheapest) dX11_cheapest_24 rfl rfl ⟨_, _, _, rfl, rfl, I, Kp, by decide, by decide, trivial⟩
  · have pc3 := rv2.resolve_left c3
    have c3 := iv_ne (X := v2.toInt) (Y := 0) c3 rfl (by decide)
    refine pv_aload_n (M := mX11_cheapest) 0 dX11_cheapest_8 9 rfl rfl rfl ?_
    refine pv_iload_n (M := mX11_cheapest) 2 dX11_cheapest_9 10 rfl rfl rfl ?_
    refine pv_callv (M := mX11_cheapest) (as := [.int x1]) (st := []) (kc2 := 0) (ks2 := 0) dX11_cheapest_10 wd828 YX11_isDeed ⟨wd830, wd25⟩ (mk_get (tl0 hT)) rfl rfl (s_X11_isDeed g hT I R x1) rfl rfl (Nat.le_of_ble_eq_true rfl) (by decide) rfl rfl 13 rfl (fun rv h1 q4 => ?_)
    obtain ⟨v5, rfl, rfl, pv5, qv5, rv5⟩ := q4
    replace rv5 : (v5 = 0 ∨ (0 ≤ x1.toInt ∧ x1.toInt ≤ 7)) ∧ v5 = ddv m x1 := rv5
    show PV _ _ _ _ _ _ _ 13 [.ref 0, .int x0, .int x1, .int x2, .int x3, pv_U] [.int v5] _
    refine pv_if_eq (M := mX11_cheapest) (tgt := 23) dX11_cheapest_13 16 rfl (by decide) (fun c6 => ?_) (fun c6 => ?_)
    · have c6 := iv_eq (X := v5.toInt) (Y := 0) c6 rfl (by decide)
      refine pv_iconst (M := mX11_cheapest) (v := (-1)) dX11_cheapest_23 24 rfl (by decide) ?_
      exact pv_iret (M := mX11_cheapest) dX11_cheapest_24 rfl rfl ⟨_, _, _, rfl, rfl, I, Kp, by decide, by decide, trivial⟩
    · have pc6 := rv5.1.resolve_left c6
      have c6 := iv_ne (X := v5.toInt) (Y := 0) c6 rfl (by decide)
      refine pv_iload_n (M := mX11_cheapest) 3 dX11_cheapest_16 17 rfl rfl rfl ?_
      refine pv_calls (M := mX11_cheapest) (as := [.int x2]) (st := []) (kc2 := 0) (ks2 := 0) dX11_cheapest_17 wd716 YX11_isClerk wd717 (s_X11_isClerk g hT I x2) rfl rfl (Nat.le_of_ble_eq_true rfl) (by decide) rfl rfl 20 rfl (fun rv h1 q7 => ?_)
      obtain ⟨v8, rfl, rfl, pv8, qv8, rv8⟩ := q7
      replace rv8 : v8 = 0 ∨ (0 ≤ x2.toInt ∧ x2.toInt ≤ 7) := rv8
      show PV _ _ _ _ _ _ _ 20 [.ref 0, .int x0, .int x1, .int x2, .int x3, pv_U] [.int v8] _
      refine pv_if_ne (M := mX11_cheapest) (tgt := 25) dX11_cheapest_20 23 rfl (by decide) (fun c9 => ?_) (fun c9 => ?_)
      · have pc9 := rv8.resolve_left c9
        have c9 := iv_ne (X := v8.toInt) (Y := 0) c9 rfl (by decide)
        refine pv_iload (M := mX11_cheapest) dX11_cheapest_25 27 rfl rfl ?_
        refine pv_iconst (M := mX11_cheapest) (v := (-1)) dX11_cheapest_27 28 rfl (by decide) ?_
        refine pv_icmp_lt (M := mX11_cheapest) (tgt := 45) dX11_cheapest_28 31 rfl (by decide) (fun c10 => ?_) (fun c10 => ?_)
        · have c10 := iv_lt (X := x3.toInt) (Y := (-1)) c10 rfl (by decide)
          refine pv_iconst (M := mX11_cheapest) (v := (-1)) dX11_cheapest_45 46 rfl (by decide) ?_
          exact pv_iret (M := mX11_cheapest) dX11_cheapest_46 rfl rfl ⟨_, _, _, rfl, rfl, I, Kp, by decide, by decide, trivial⟩
        · have c10 := iv_nlt (X := x3.toInt) (Y := (-1)) c10 rfl (by decide)
          refine pv_iload (M := mX11_cheapest) dX11_cheapest_31 33 rfl rfl ?_
          refine pv_aload_n (M := mX11_cheapest) 0 dX11_cheapest_33 34 rfl rfl rfl ?_
          refine mv_get (M := mX11_cheapest) (v := .ref 60) dX11_cheapest_34 FX11 3 wd410 (by decide) (tl0 hT) rfl rfl 37 rfl ?_
          refine pv_iload_n (M := mX11_cheapest) 2 dX11_cheapest_37 38 rfl rfl rfl ?_
          refine iv_qdeed (M := mX11_cheapest) (X := x1.toInt) dX11_cheapest_38 hT R rfl (by omega) (by omega) 39 rfl (fun b11 eb11 hb11 => ?_)
          have zb11 := hb11.2.2.2.2
          refine iv_get (M := mX11_cheapest) (l1 := 0) (l2 := 16) dX11_cheapest_39 FX8 1 wd200 (by decide) hb11.1 rfl I hb11.2.2.1 42 rfl (fun v12 ev12 pv12 qv12 => ?_)
          refine pv_icmp_lt (M := mX11_cheapest) (tgt := 47) dX11_cheapest_42 45 rfl (by decide) (fun c13 => ?_) (fun c13 => ?_)
          · have c13 := iv_lt (X := x3.toInt) (Y := v12.toInt) c13 rfl rfl
            refine pv_aload_n (M := mX11_cheapest) 0 dX11_cheapest_47 48 rfl rfl rfl ?_
            refine pv_iload_n (M := mX11_cheapest) 1 dX11_cheapest_48 49 rfl rfl rfl ?_
            refine pv_iconst (M := mX11_cheapest) (v := 0) dX11_cheapest_49 50 rfl (by decide) ?_
            refine pv_aload_n (M := mX11_cheapest) 0 dX11_cheapest_50 51 rfl rfl rfl ?_
            refine mv_get (M := mX11_cheapest) (v := .ref 3) dX11_cheapest_51 FX11 1 wd408 (by decide) (tl0 hT) rfl rfl 54 rfl ?_
            refine pv_iload_n (M := mX11_cheapest) 1 dX11_cheapest_54 55 rfl rfl rfl ?_
            refine iv_qblank (M := mX11_cheapest) (X := x0.toInt) dX11_cheapest_55 hT R rfl (by omega) (by omega) 56 rfl (fun b14 eb14 hb14 => ?_)
            have zb14 := hb14.2.2.2.2.2.2.2
            refine mv_get (M := mX11_cheapest) (v := .ref (b14 + 3)) dX11_cheapest_56 FX0 1 wd210 (by decide) hb14.1 rfl rfl 59 rfl ?_
            refine iv_get (M := mX11_cheapest) (l1 := 0) (l2 := 40) dX11_cheapest_59 FX8 1 wd200 (by decide) hb14.2.2.1.1 rfl I hb14.2.2.1.2.2.1 62 rfl (fun v15 ev15 pv15 qv15 => ?_)
            refine pv_iload_n (M := mX11_cheapest) 3 dX11_cheapest_62 63 rfl rfl rfl ?_
            refine pv_callv (M := mX11_cheapest) (as := [.int x0, .int 0, .int v15, .int x2]) (st := []) (kc2 := 0) (ks2 := 0) dX11_cheapest_63 wd719 YX11_askLaw ⟨wd721, wd17⟩ (mk_get (tl0 hT)) rfl rfl (s_X11_askLaw g hT I R x0 (by omega) (by omega) 0 (by decide) (by decide) v15 (by omega) (by omega) x2) rfl rfl (Nat.le_of_ble_eq_true rfl) (by decide) rfl rfl 66 rfl (fun rv h1 q16 => ?_)
            obtain ⟨m17, n18, rfl, rfl, I19, K20, rm17⟩ := q16
            have K20c := K20
            have K20 := Kp.trans (K20.sub (fun _ _ q => q))
            show PV _ _ _ _ _ _ _ 66 [.ref 0, .int x0, .int x1, .int x2, .int x3, pv_U] [] _
            refine pv_aload_n (M := mX11_cheapest) 0 dX11_cheapest_66 67 rfl rfl rfl ?_
            refine mv_get (M := mX11_cheapest) (v := .ref 107) dX11_cheapest_67 FX11 10 wd417 (by decide) (tl0 hT) rfl rfl 70 rfl ?_
            refine pv_aload_n (M := mX11_cheapest) 0 dX11_cheapest_70 71 rfl rfl rfl ?_
            refine mv_get (M := mX11_cheapest) (v := .ref 3) dX11_cheapest_71 FX11 1 wd408 (by decide) (tl0 hT) rfl rfl 74 rfl ?_
            refine pv_iload_n (M := mX11_cheapest) 1 dX11_cheapest_74 75 rfl rfl rfl ?_
            refine iv_qblank (M := mX11_cheapest) (X := x0.toInt) dX11_cheapest_75 hT R rfl (by omega) (by omega) 76 rfl (fun b21 eb21 hb21 => ?_)
            have zb21 := hb21.2.2.2.2.2.2.2
            refine mv_get (M := mX11_cheapest) (v := .ref (b21 + 3)) dX11_cheapest_76 FX0 1 wd210 (by decide) hb21.1 rfl rfl 79 rfl ?_
            refine pv_aload_n (M := mX11_cheapest) 0 dX11_cheapest_79 80 rfl rfl rfl ?_
            refine mv_get (M := mX11_cheapest) (v := .ref 60) dX11_cheapest_80 FX11 3 wd410 (by decide) (tl0 hT) rfl rfl 83 rfl ?_
            refine pv_iload_n (M := mX11_cheapest) 2 dX11_cheapest_83 84 rfl rfl rfl ?_
            refine iv_qdeed (M := mX11_cheapest) (X := x1.toInt) dX11_cheapest_84 hT R rfl (by omega) (by omega) 85 rfl (fun b22 eb22 hb22 => ?_)
            have zb22 := hb22.2.2.2.2
            refine pv_callv (M := mX11_cheapest) (as := [.ref (b21 + 3), .ref b22]) (st := []) (kc2 := 0) (ks2 := 0) dX11_cheapest_85 wd849 YX2_choose ⟨wd850, wd851⟩ (mk_get (tl107 hT)) rfl rfl (s_X2_choose g hT I19 (b21 + 3) hb21.2.2.1 b22 hb22) rfl rfl (Nat.le_of_ble_eq_true rfl) (by decide) rfl rfl 88 rfl (fun rv h1 q23 => ?_)
            obtain ⟨m24, n25, v28, rfl, rfl, I26, K27, pv28, qv28, rv28⟩ := q23
            have K27c := K27
            have K27 := K20.trans (K27.sub (by first | exact wg_l (by decide) | exact wg_g (by decide) | exact WX_wg | exact la7_wg zR (by decide) | exact wsL_wg zR (by decide)))
            show PV _ _ _ _ _ _ _ 88 [.ref 0, .int x0, .int x1, .int x2, .int x3, pv_U] [.int v28] _
            refine pv_istore (M := mX11_cheapest) (lo2 := [.ref 0, .int x0, .int x1, .int x2, .int x3, .int v28]) dX11_cheapest_88 90 rfl (by decide) rfl rfl ?_
            refine pv_iload (M := mX11_cheapest) dX11_cheapest_90 92 rfl rfl ?_
            refine pv_iconst (M := mX11_cheapest) (v := (-1)) dX11_cheapest_92 93 rfl (by decide) ?_
            refine pv_icmp_ne (M := mX11_cheapest) (tgt := 99) dX11_cheapest_93 96 rfl (by decide) (fun c29 => ?_) (fun c29 => ?_)
            · have c29 := iv_ne (X := v28.toInt) (Y := (-1)) c29 rfl (by decide)
              refine pv_iload (M := mX11_cheapest) dX11_cheapest_99 101 rfl rfl ?_
              refine pv_iconst (M := mX11_cheapest) (v := (-1)) dX11_cheapest_101 102 rfl (by decide) ?_
              refine pv_icmp_ne (M := mX11_cheapest) (tgt := 110) dX11_cheapest_102 105 rfl (by decide) (fun c30 => ?_) (fun c30 => ?_)
              · have c30 := iv_ne (X := x3.toInt) (Y := (-1)) c30 rfl (by decide)
                refine pv_aload_n (M := mX11_cheapest) 0 dX11_cheapest_110 111 rfl rfl rfl ?_
                refine mv_get (M := mX11_cheapest) (v := .ref 107) dX11_cheapest_111 FX11 10 wd417 (by decide) (tl0 hT) rfl rfl 114 rfl ?_
                refine mv_get (M := mX11_cheapest) (v := .ref 110) dX11_cheapest_114 FX2 2 wd351 (by decide) (tl107 hT) rfl rfl 117 rfl ?_
                refine pv_iload (M := mX11_cheapest) dX11_cheapest_117 119 rfl rfl ?_
                refine iv_iald (M := mX11_cheapest) (X := x3.toInt) (l1 := 0) (l2 := 39) dX11_cheapest_119 (tl110 hT) rfl (by omega) (by omega) I26 (fun _ => rfl) 120 rfl (fun v31 ev31 pv31 qv31 => ?_)
                exact pv_iret (M := mX11_cheapest) dX11_cheapest_120 rfl rfl ⟨_, _, _, rfl, rfl, I26, K27, (iv_rng v31).1, (iv_rng v31).2, trivial⟩
              · have c30 := iv_eq (X := x3.toInt) (Y := (-1)) c30 rfl (by decide)
                refine pv_iload (M := mX11_cheapest) dX11_cheapest_105 107 rfl rfl ?_
                refine pv_goto (M := mX11_cheapest) (tgt := 120) dX11_cheapest_107 (by decide) ?_
                exact pv_iret (M := mX11_cheapest) dX11_cheapest_120 rfl rfl ⟨_, _, _, rfl, rfl, I26, K27, (iv_rng v28).1, (iv_rng v28).2, trivial⟩
            · have c29 := iv_eq (X := v28.toInt) (Y := (-1)) c29 rfl (by decide)
              refine pv_bipush (M := mX11_cheapest) (v := (-2)) dX11_cheapest_96 98 rfl (by decide) ?_
              exact pv_iret (M := mX11_cheapest) dX11_cheapest_98 rfl rfl ⟨_, _, _, rfl, rfl, I26, K27, by decide, by decide, trivial⟩
          · have c13 := iv_nlt (X := x3.toInt) (Y := v12.toInt) c13 rfl rfl
            refine pv_iconst (M := mX11_cheapest) (v := (-1)) dX11_cheapest_45 46 rfl (by decide) ?_
            exact pv_iret (M := mX11_cheapest) dX11_cheapest_46 rfl rfl ⟨_, _, _, rfl, rfl, I, Kp, by decide, by decide, trivial⟩
      · have c9 := iv_eq (X := v8.toInt) (Y := 0) c9 rfl (by decide)
        refine pv_iconst (M := mX11_cheapest) (v := (-1)) dX11_cheapest_23 24 rfl (by decide) ?_
        exact pv_iret (M := mX11_cheapest) dX11_cheapest_24 rfl rfl ⟨_, _, _, rfl, rfl, I, Kp, by decide, by decide, trivial⟩

set_option maxHeartbeats 2000000 in
set_option maxRecDepth 20000 in
theorem s_X11_strokes (g : pv_G) {T : List mv_T} {m : Nat → Nat → Int32} {n : Nat → Nat → Int64} {r : Nat → Value} {la lb : Nat} (hT : TX T) (I : IV BB m) (R : RX T r la lb) (x0 : Int32) (x1 : Int32) (x2 : Int32) : PM g mX11_strokes yX11_strokes (sqI T BB wN r m (-2147483648) 2147483647 (fun m' v => True)) 4 0 0 [.ref 0, .int x0, .int x1, .int x2] (mk T m n r) := by
  have Kp : fr wN m m := fr.rf
  have R0 := R
  have zR := R.2.2.2.2.1.1
  have zR2 := R.2.2.2.2.2.1
  refine PM.of 1 (lo := [.ref 0, .int x0, .int x1, .int x2, pv_U]) rfl (by decide) rfl rfl (Nat.le_of_ble_eq_true rfl) ?_
  refine pv_aload_n (M := mX11_strokes) 0 dX11_strokes_0 1 rfl rfl rfl ?_
  refine pv_iload_n (M := mX11_strokes) 1 dX11_strokes_1 2 rfl rfl rfl ?_
  refine pv_callv (M := mX11_strokes) (as := [.int x0]) (st := []) (kc2 := 0) (ks2 := 0) dX11_strokes_2 wd700 YX11_isBlank ⟨wd702, wd16⟩ (mk_get (tl0 hT)) rfl rfl (s_X11_isBlank g hT I R x0) rfl rfl (Nat.le_of_ble_eq_true rfl) (by decide) rfl rfl 5 rfl (fun rv h1 q1 => ?_)
  obtain ⟨v2, rfl, rfl, pv2, qv2, rv2⟩ := q1
  replace rv2 : v2 = 0 ∨ (0 ≤ x0.toInt ∧ x0.toInt ≤ 7) := rv2
  show PV _ _ _ _ _ _ _ 5 [.ref 0, .int x0, .int x1, .int x2, pv_U] [.int v2] _
  refine pv_if_eq (M := mX11_strokes) (tgt := 23) dX11_strokes_5 8 rfl (by decide) (fun c3 => ?_) (fun c3 => ?_)
  · have c3 := iv_eq (X := v2.toInt) (Y := 0) c3 rfl (by decide)
    refine pv_iconst (M := mX11_strokes) (v := (-1)) dX11_strokes_23 24 rfl (by decide) ?_
    exact pv_iret (M := mX11_strokes) dX11_strokes_24 rfl rfl ⟨_, _, _, rfl, rfl, I, Kp, by decide, by decide, trivial⟩
  · have pc3 := rv2.resolve_left c3
    have c3 := iv_ne (X := v2.toInt) (Y := 0) c3 rfl (by decide)
    refine pv_aload_n (M := mX11_strokes) 0 dX11_strokes_8 9 rfl rfl rfl ?_
    refine pv_iload_n (M := mX11_strokes) 2 dX11_strokes_9 10 rfl rfl rfl ?_
    refine pv_callv (M := mX11_strokes) (as := [.int x1]) (st := []) (kc2 := 0) (ks2 := 0) dX11_strokes_10 wd828 YX11_isDeed ⟨wd830, wd25⟩ (mk_get (tl0 hT)) rfl rfl (s_X11_isDeed g hT I R x1) rfl rfl (Nat.le_of_ble_eq_true rfl) (by decide) rfl rfl 13 rfl (fun rv h1 q4 => ?_)
    obtain ⟨v5, rfl, rfl, pv5, qv5, rv5⟩ := q4
    replace rv5 : (v5 = 0 ∨ (0 ≤ x1.toInt ∧ x1.toInt ≤ 7)) ∧ v5 = ddv m x1 := rv5
    show PV _ _ _ _ _ _ _ 13 [.ref 0, .int x0, .int x1, .int x2, pv_U] [.int v5] _
    refine pv_if_eq (M := mX11_strokes) (tgt := 23) dX11_strokes_13 16 rfl (by decide) (fun c6 => ?_) (fun c6 => ?_)
    · have c6 := iv_eq (X := v5.toInt) (Y := 0) c6 rfl (by decide)
      refine pv_iconst (M := mX11_strokes) (v := (-1)) dX11_strokes_23 24 rfl (by decide) ?_
      exact pv_iret (M := mX11_strokes) dX11_strokes_24 rfl rfl ⟨_, _, _, rfl, rfl, I, Kp, by decide, by decide, trivial⟩
    · have pc6 := rv5.1.resolve_left c6
      have c6 := iv_ne (X := v5.toInt) (Y := 0) c6 rfl (by decide)
      refine pv_iload_n (M := mX11_strokes) 3 dX11_strokes_16 17 rfl rfl rfl ?_
      refine pv_calls (M := mX11_strokes) (as := [.int x2]) (st := []) (kc2 := 0) (ks2 := 0) dX11_strokes_17 wd888 YX11_isWidth wd889 (s_X11_isWidth g hT I x2) rfl rfl (Nat.le_of_ble_eq_true rfl) (by decide) rfl rfl 20 rfl (fun rv h1 q7 => ?_)
      obtain ⟨v8, rfl, rfl, pv8, qv8, rv8⟩ := q7
      replace rv8 : v8 = 0 ∨ (1 ≤ x2.toInt ∧ x2.toInt ≤ 9) := rv8
      show PV _ _ _ _ _ _ _ 20 [.ref 0, .int x0, .int x1, .int x2, pv_U] [.int v8] _
      refine pv_if_ne (M := mX11_strokes) (tgt := 25) dX11_strokes_20 23 rfl (by decide) (fun c9 => ?_) (fun c9 => ?_)
      · have pc9 := rv8.resolve_left c9
        have c9 := iv_ne (X := v8.toInt) (Y := 0) c9 rfl (by decide)
        refine pv_aload_n (M := mX11_strokes) 0 dX11_strokes_25 26 rfl rfl rfl ?_
        refine mv_get (M := mX11_strokes) (v := .ref 104) dX11_strokes_26 FX11 9 wd416 (by decide) (tl0 hT) rfl rfl 29 rfl ?_
        refine pv_aload_n (M := mX11_strokes) 0 dX11_strokes_29 30 rfl rfl rfl ?_
        refine mv_get (M := mX11_strokes) (v := .ref 3) dX11_strokes_30 FX11 1 wd408 (by decide) (tl0 hT) rfl rfl 33 rfl ?_
        refine pv_iload_n (M := mX11_strokes) 1 dX11_strokes_33 34 rfl rfl rfl ?_
        refine iv_qblank (M := mX11_strokes) (X := x0.toInt) dX11_strokes_34 hT R rfl (by omega) (by omega) 35 rfl (fun b10 eb10 hb10 => ?_)
        have zb10 := hb10.2.2.2.2.2.2.2
        refine mv_get (M := mX11_strokes) (v := .ref (b10 + 3)) dX11_strokes_35 FX0 1 wd210 (by decide) hb10.1 rfl rfl 38 rfl ?_
        refine pv_aload_n (M := mX11_strokes) 0 dX11_strokes_38 39 rfl rfl rfl ?_
        refine mv_get (M := mX11_strokes) (v := .ref 60) dX11_strokes_39 FX11 3 wd410 (by decide) (tl0 hT) rfl rfl 42 rfl ?_
        refine pv_iload_n (M := mX11_strokes) 2 dX11_strokes_42 43 rfl rfl rfl ?_
        refine iv_qdeed (M := mX11_strokes) (X := x1.toInt) dX11_strokes_43 hT R rfl (by omega) (by omega) 44 rfl (fun b11 eb11 hb11 => ?_)
        have zb11 := hb11.2.2.2.2
        refine pv_iload_n (M := mX11_strokes) 3 dX11_strokes_44 45 rfl rfl rfl ?_
        refine pv_callv (M := mX11_strokes) (as := [.ref (b10 + 3), .ref b11, .int x2]) (st := []) (kc2 := 0) (ks2 := 0) dX11_strokes_45 wd891 YX4_fewestStrokes ⟨wd892, wd893⟩ (mk_get (tl104 hT)) rfl rfl (s_X4_fewestStrokes g hT I (b10 + 3) 40 hb10.2.2.1 (by omega) b11 16 hb11 x2) rfl rfl (Nat.le_of_ble_eq_true rfl) (by decide) rfl rfl 48 rfl (fun rv h1 q12 => ?_)
        obtain ⟨m13, n14, v17, rfl, rfl, I15, K16, pv17, qv17, rv17⟩ := q12
        have K16c := K16
        have K16 := Kp.trans (K16.sub (by first | exact wg_l (by decide) | exact wg_g (by decide) | exact WX_wg | exact la7_wg zR (by decide) | exact wsL_wg zR (by decide)))
        show PV _ _ _ _ _ _ _ 48 [.ref 0, .int x0, .int x1, .int x2, pv_U] [.int v17] _
        refine pv_istore (M := mX11_strokes) (lo2 := [.ref 0, .int x0, .int x1, .int x2, .int v17]) dX11_strokes_48 50 rfl (by decide) rfl rfl ?_
        refine pv_iload (M := mX11_strokes) dX11_strokes_50 52 rfl rfl ?_
        refine pv_ldc (M := mX11_strokes) (v := 1000000) dX11_strokes_52 54 rfl wd904 ?_
        refine pv_icmp_lt (M := mX11_strokes) (tgt := 62) dX11_strokes_54 57 rfl (by decide) (fun c18 => ?_) (fun c18 => ?_)
        · have c18 := iv_lt (X := v17.toInt) (Y := 1000000) c18 rfl (by decide)
          refine pv_iload (M := mX11_strokes) dX11_strokes_62 64 rfl rfl ?_
          exact pv_iret (M := mX11_strokes) dX11_strokes_64 rfl rfl ⟨_, _, _, rfl, rfl, I15, K16, (iv_rng v17).1, (iv_rng v17).2, trivial⟩
        · have c18 := iv_nlt (X := v17.toInt) (Y := 1000000) c18 rfl (by decide)
          refine pv_bipush (M := mX11_strokes) (v := (-2)) dX11_strokes_57 59 rfl (by decide) ?_
          refine pv_goto (M := mX11_strokes) (tgt := 64) dX11_strokes_59 (by decide) ?_
          exact pv_iret (M := mX11_strokes) dX11_strokes_64 rfl rfl ⟨_, _, _, rfl, rfl, I15, K16, by decide, by decide, trivial⟩
      · have c9 := iv_eq (X := v8.toInt) (Y := 0) c9 rfl (by decide)
        refine pv_iconst (M := mX11_strokes) (v := (-1)) dX11_strokes_23 24 rfl (by decide) ?_
        exact pv_iret (M := mX11_strokes) dX11_strokes_24 rfl rfl ⟨_, _, _, rfl, rfl, I, Kp, by decide, by decide, trivial⟩

set_option maxHeartbeats 2000000 in
set_option maxRecDepth 20000 in
theorem s_X11_even (g : pv_G) {T : List mv_T} {m : Nat → Nat → Int32} {n : Nat → Nat → Int64} {r : Nat → Value} {la lb : Nat} (hT : TX T) (I : IV BB m) (R : RX T r la lb) (x0 : Int32) (x1 : Int32) (x2 : Int32) : PM g mX11_even yX11_even (sqJ T BB wN r m (fun m' => True)) 3 0 0 [.ref 0, .int x0, .int x1, .int x2] (mk T m n r) := by
  have Kp : fr wN m m := fr.rf
  have R0 := R
  have zR := R.2.2.2.2.1.1
  have zR2 := R.2.2.2.2.2.1
  refine PM.of 0 (lo := [.ref 0, .int x0, .int x1, .int x2]) rfl (by decide) rfl rfl (Nat.le_of_ble_eq_true rfl) ?_
  refine pv_aload_n (M := mX11_even) 0 dX11_even_0 1 rfl rfl rfl ?_
  refine pv_iload_n (M := mX11_even) 1 dX11_even_1 2 rfl rfl rfl ?_
  refine pv_callv (M := mX11_even) (as := [.int x0]) (st := []) (kc2 := 0) (ks2 := 0) dX11_even_2 wd700 YX11_isBlank ⟨wd702, wd16⟩ (mk_get (tl0 hT)) rfl rfl (s_X11_isBlank g hT I R x0) rfl rfl (Nat.le_of_ble_eq_true rfl) (by decide) rfl rfl 5 rfl (fun rv h1 q1 => ?_)
  obtain ⟨v2, rfl, rfl, pv2, qv2, rv2⟩ := q1
  replace rv2 : v2 = 0 ∨ (0 ≤ x0.toInt ∧ x0.toInt ≤ 7) := rv2
  show PV _ _ _ _ _ _ _ 5 [.ref 0, .int x0, .int x1, .int x2] [.int v2] _
  refine pv_if_eq (M := mX11_even) (tgt := 23) dX11_even_5 8 rfl (by decide) (fun c3 => ?_) (fun c3 => ?_)
  · have c3 := iv_eq (X := v2.toInt) (Y := 0) c3 rfl (by decide)
    refine pv_ldc2 (M := mX11_even) (v := (-1)) dX11_even_23 26 rfl wd832 ?_
    exact pv_lret (M := mX11_even) dX11_even_26 rfl ⟨_, _, _, rfl, rfl, I, Kp, trivial⟩
  · have pc3 := rv2.resolve_left c3
    have c3 := iv_ne (X := v2.toInt) (Y := 0) c3 rfl (by decide)
    refine pv_aload_n (M := mX11_even) 0 dX11_even_8 9 rfl rfl rfl ?_
    refine pv_iload_n (M := mX11_even) 2 dX11_even_9 10 rfl rfl rfl ?_
    refine pv_callv (M := mX11_even) (as := [.int x1]) (st := []) (kc2 := 0) (ks2 := 0) dX11_even_10 wd828 YX11_isDeed ⟨wd830, wd25⟩ (mk_get (tl0 hT)) rfl rfl (s_X11_isDeed g hT I R x1) rfl rfl (Nat.le_of_ble_eq_true rfl) (by decide) rfl rfl 13 rfl (fun rv h1 q4 => ?_)
    obtain ⟨v5, rfl, rfl, pv5, qv5, rv5⟩ := q4
    replace rv5 : (v5 = 0 ∨ (0 ≤ x1.toInt ∧ x1.toInt ≤ 7)) ∧ v5 = ddv m x1 := rv5
    show PV _ _ _ _ _ _ _ 13 [.ref 0, .int x0, .int x1, .int x2] [.int v5] _
    refine pv_if_eq (M := mX11_even) (tgt := 23) dX11_even_13 16 rfl (by decide) (fun c6 => ?_) (fun c6 => ?_)
    · have c6 := iv_eq (X := v5.toInt) (Y := 0) c6 rfl (by decide)
      refine pv_ldc2 (M := mX11_even) (v := (-1)) dX11_even_23 26 rfl wd832 ?_
      exact pv_lret (M := mX11_even) dX11_even_26 rfl ⟨_, _, _, rfl, rfl, I, Kp, trivial⟩
    · have pc6 := rv5.1.resolve_left c6
      have c6 := iv_ne (X := v5.toInt) (Y := 0) c6 rfl (by decide)
      refine pv_iload_n (M := mX11_even) 3 dX11_even_16 17 rfl rfl rfl ?_
      refine pv_calls (M := mX11_even) (as := [.int x2]) (st := []) (kc2 := 0) (ks2 := 0) dX11_even_17 wd888 YX11_isWidth wd889 (s_X11_isWidth g hT I x2) rfl rfl (Nat.le_of_ble_eq_true rfl) (by decide) rfl rfl 20 rfl (fun rv h1 q7 => ?_)
      obtain ⟨v8, rfl, rfl, pv8, qv8, rv8⟩ := q7
      replace rv8 : v8 = 0 ∨ (1 ≤ x2.toInt ∧ x2.toInt ≤ 9) := rv8
      show PV _ _ _ _ _ _ _ 20 [.ref 0, .int x0, .int x1, .int x2] [.int v8] _
      refine pv_if_ne (M := mX11_even) (tgt := 27) dX11_even_20 23 rfl (by decide) (fun c9 => ?_) (fun c9 => ?_)
      · have pc9 := rv8.resolve_left c9
        have c9 := iv_ne (X := v8.toInt) (Y := 0) c9 rfl (by decide)
        refine pv_aload_n (M := mX11_even) 0 dX11_even_27 28 rfl rfl rfl ?_
        refine mv_get (M := mX11_even) (v := .ref 104) dX11_even_28 FX11 9 wd416 (by decide) (tl0 hT) rfl rfl 31 rfl ?_
        refine pv_aload_n (M := mX11_even) 0 dX11_even_31 32 rfl rfl rfl ?_
        refine mv_get (M := mX11_even) (v := .ref 3) dX11_even_32 FX11 1 wd408 (by decide) (tl0 hT) rfl rfl 35 rfl ?_
        refine pv_iload_n (M := mX11_even) 1 dX11_even_35 36 rfl rfl rfl ?_
        refine iv_qblank (M := mX11_even) (X := x0.toInt) dX11_even_36 hT R rfl (by omega) (by omega) 37 rfl (fun b10 eb10 hb10 => ?_)
        have zb10 := hb10.2.2.2.2.2.2.2
        refine mv_get (M := mX11_even) (v := .ref (b10 + 3)) dX11_even_37 FX0 1 wd210 (by decide) hb10.1 rfl rfl 40 rfl ?_
        refine pv_aload_n (M := mX11_even) 0 dX11_even_40 41 rfl rfl rfl ?_
        refine mv_get (M := mX11_even) (v := .ref 60) dX11_even_41 FX11 3 wd410 (by decide) (tl0 hT) rfl rfl 44 rfl ?_
        refine pv_iload_n (M := mX11_even) 2 dX11_even_44 45 rfl rfl rfl ?_
        refine iv_qdeed (M := mX11_even) (X := x1.toInt) dX11_even_45 hT R rfl (by omega) (by omega) 46 rfl (fun b11 eb11 hb11 => ?_)
        have zb11 := hb11.2.2.2.2
        refine pv_iload_n (M := mX11_even) 3 dX11_even_46 47 rfl rfl rfl ?_
        refine pv_callv (M := mX11_even) (as := [.ref (b10 + 3), .ref b11, .int x2]) (st := []) (kc2 := 0) (ks2 := 0) dX11_even_47 wd833 YX4_evenChoices ⟨wd834, wd835⟩ (mk_get (tl104 hT)) rfl rfl (s_X4_evenChoices g hT I (b10 + 3) 40 hb10.2.2.1 (by omega) b11 16 hb11 x2) rfl rfl (Nat.le_of_ble_eq_true rfl) (by decide) rfl rfl 50 rfl (fun rv h1 q12 => ?_)
        obtain ⟨m13, n14, v17, rfl, rfl, I15, K16, rm13⟩ := q12
        have K16c := K16
        have K16 := Kp.trans (K16.sub (by first | exact wg_l (by decide) | exact wg_g (by decide) | exact WX_wg | exact la7_wg zR (by decide) | exact wsL_wg zR (by decide)))
        show PV _ _ _ _ _ _ _ 50 [.ref 0, .int x0, .int x1, .int x2] [.long v17] _
        exact pv_lret (M := mX11_even) dX11_even_50 rfl ⟨_, _, _, rfl, rfl, I15, K16, trivial⟩
      · have c9 := iv_eq (X := v8.toInt) (Y := 0) c9 rfl (by decide)
        refine pv_ldc2 (M := mX11_even) (v := (-1)) dX11_even_23 26 rfl wd832 ?_
        exact pv_lret (M := mX11_even) dX11_even_26 rfl ⟨_, _, _, rfl, rfl, I, Kp, trivial⟩

set_option maxHeartbeats 2000000 in
set_option maxRecDepth 20000 in
theorem s_X11_hidden (g : pv_G) {T : List mv_T} {m : Nat → Nat → Int32} {n : Nat → Nat → Int64} {r : Nat → Value} {la lb : Nat} (hT : TX T) (I : IV BB m) (R : RX T r la lb) (x0 : Int32) (x1 : Int32) : PM g mX11_hidden yX11_hidden (sqI T BB wN r m (-2147483648) 2147483647 (fun m' v => True)) 4 0 0 [.ref 0, .int x0, .int x1] (mk T m n r) := by
  have Kp : fr wN m m := fr.rf
  have R0 := R
  have zR := R.2.2.2.2.1.1
  have zR2 := R.2.2.2.2.2.1
  refine PM.of 2 (lo := [.ref 0, .int x0, .int x1, pv_U, pv_U]) rfl (by decide) rfl rfl (Nat.le_of_ble_eq_true rfl) ?_
  refine pv_iload_n (M := mX11_hidden) 1 dX11_hidden_0 1 rfl rfl rfl ?_
  refine pv_calls (M := mX11_hidden) (as := [.int x0]) (st := []) (kc2 := 0) (ks2 := 0) dX11_hidden_1 wd913 YJ6_bitCount_0f7a4 wd914 (s_J6_bitCount_0f7a4 g hT I x0) rfl rfl (Nat.le_of_ble_eq_true rfl) (by decide) rfl rfl 4 rfl (fun rv h1 q1 => ?_)
  obtain ⟨v2, rfl, rfl, pv2, qv2, rv2⟩ := q1
  replace rv2 : v2 = bcn x0 := rv2
  show PV _ _ _ _ _ _ _ 4 [.ref 0, .int x0, .int x1, pv_U, pv_U] [.int v2] _
  refine pv_istore_n (M := mX11_hidden) 3 (lo2 := [.ref 0, .int x0, .int x1, .int v2, pv_U]) dX11_hidden_4 5 rfl rfl (by decide) rfl rfl ?_
  refine pv_aload_n (M := mX11_hidden) 0 dX11_hidden_5 6 rfl rfl rfl ?_
  refine pv_iload_n (M := mX11_hidden) 1 dX11_hidden_6 7 rfl rfl rfl ?_
  refine pv_callv (M := mX11_hidden) (as := [.int x0]) (st := []) (kc2 := 0) (ks2 := 0) dX11_hidden_7 wd919 YX11_areDeeds ⟨wd921, wd33⟩ (mk_get (tl0 hT)) rfl rfl (s_X11_areDeeds g hT I R x0) rfl rfl (Nat.le_of_ble_eq_true rfl) (by decide) rfl rfl 10 rfl (fun rv h1 q3 => ?_)
  obtain ⟨v4, rfl, rfl, pv4, qv4, rv4⟩ := q3
  replace rv4 : v4 = adv m x0 := rv4
  show PV _ _ _ _ _ _ _ 10 [.ref 0, .int x0, .int x1, .int v2, pv_U] [.int v4] _
  refine pv_if_eq (M := mX11_hidden) (tgt := 28) dX11_hidden_10 13 rfl (by decide) (fun c5 => ?_) (fun c5 => ?_)
  · have c5 := iv_eq (X := v4.toInt) (Y := 0) c5 rfl (by decide)
    refine pv_iconst (M := mX11_hidden) (v := (-1)) dX11_hidden_28 29 rfl (by decide) ?_
    exact pv_iret (M := mX11_hidden) dX11_hidden_29 rfl rfl ⟨_, _, _, rfl, rfl, I, Kp, by decide, by decide, trivial⟩
  · have c5 := iv_ne (X := v4.toInt) (Y := 0) c5 rfl (by decide)
    refine pv_iload_n (M := mX11_hidden) 3 dX11_hidden_13 14 rfl rfl rfl ?_
    refine pv_iconst (M := mX11_hidden) (v := 2) dX11_hidden_14 15 rfl (by decide) ?_
    refine pv_icmp_lt (M := mX11_hidden) (tgt := 28) dX11_hidden_15 18 rfl (by decide) (fun c6 => ?_) (fun c6 => ?_)
    · have c6 := iv_lt (X := v2.toInt) (Y := 2) c6 rfl (by decide)
      refine pv_iconst (M := mX11_hidden) (v := (-1)) dX11_hidden_28 29 rfl (by decide) ?_
      exact pv_iret (M := mX11_hidden) dX11_hidden_29 rfl rfl ⟨_, _, _, rfl, rfl, I, Kp, by decide, by decide, trivial⟩
    · have c6 := iv_nlt (X := v2.toInt) (Y := 2) c6 rfl (by decide)
      refine pv_iload_n (M := mX11_hidden) 3 dX11_hidden_18 19 rfl rfl rfl ?_
      refine pv_iconst (M := mX11_hidden) (v := 3) dX11_hidden_19 20 rfl (by decide) ?_
      refine pv_icmp_gt (M := mX11_hidden) (tgt := 28) dX11_hidden_20 23 rfl (by decide) (fun c7 => ?_) (fun c7 => ?_)
      · have c7 := iv_lt (X := 3) (Y := v2.toInt) c7 (by decide) rfl
        refine pv_iconst (M := mX11_hidden) (v := (-1)) dX11_hidden_28 29 rfl (by decide) ?_
        exact pv_iret (M := mX11_hidden) dX11_hidden_29 rfl rfl ⟨_, _, _, rfl, rfl, I, Kp, by decide, by decide, trivial⟩
      · have c7 := iv_nlt (X := 3) (Y := v2.toInt) c7 (by decide) rfl
        refine pv_iload_n (M := mX11_hidden) 2 dX11_hidden_23 24 rfl rfl rfl ?_
        refine pv_iconst (M := mX11_hidden) (v := (-1)) dX11_hidden_24 25 rfl (by decide) ?_
        refine pv_icmp_ge (M := mX11_hidden) (tgt := 30) dX11_hidden_25 28 rfl (by decide) (fun c8 => ?_) (fun c8 => ?_)
        · have c8 := iv_le (X := (-1)) (Y := x1.toInt) c8 (by decide) rfl
          refine pv_aload_n (M := mX11_hidden) 0 dX11_hidden_30 31 rfl rfl rfl ?_
          refine mv_get (M := mX11_hidden) (v := .ref 112) dX11_hidden_31 FX11 11 wd418 (by decide) (tl0 hT) rfl rfl 34 rfl ?_
          refine iv_get (M := mX11_hidden) (l1 := (-2147483648)) (l2 := 2147483647) dX11_hidden_34 FX5 1 wd373 (by decide) (tl112 hT) rfl I rfl 37 rfl (fun v9 ev9 pv9 qv9 => ?_)
          refine pv_iload_n (M := mX11_hidden) 1 dX11_hidden_37 38 rfl rfl rfl ?_
          refine pv_icmp_eq (M := mX11_hidden) (tgt := 88) dX11_hidden_38 41 rfl (by decide) (fun c10 => ?_) (fun c10 => ?_)
          · have c10 := iv_eq (X := v9.toInt) (Y := x0.toInt) c10 rfl rfl
            refine pv_iload_n (M := mX11_hidden) 2 dX11_hidden_88 89 rfl rfl rfl ?_
            refine pv_iconst (M := mX11_hidden) (v := (-1)) dX11_hidden_89 90 rfl (by decide) ?_
            refine pv_icmp_ne (M := mX11_hidden) (tgt := 106) dX11_hidden_90 93 rfl (by decide) (fun c11 => ?_) (fun c11 => ?_)
            · have c11 := iv_ne (X := x1.toInt) (Y := (-1)) c11 rfl (by decide)
              refine pv_aload_n (M := mX11_hidden) 0 dX11_hidden_106 107 rfl rfl rfl ?_
              refine mv_get (M := mX11_hidden) (v := .ref 112) dX11_hidden_107 FX11 11 wd418 (by decide) (tl0 hT) rfl rfl 110 rfl ?_
              refine mv_get (M := mX11_hidden) (v := .ref 113) dX11_hidden_110 FX5 0 wd371 (by decide) (tl112 hT) rfl rfl 113 rfl ?_
              refine pv_iload_n (M := mX11_hidden) 2 dX11_hidden_113 114 rfl rfl rfl ?_
              refine pv_callv (M := mX11_hidden) (as := [.int x1]) (st := []) (kc2 := 0) (ks2 := 0) dX11_hidden_114 wd704 YX8_at ⟨wd705, wd706⟩ (mk_get (tl113 hT)) rfl rfl (s_X8_at g hT I 113 16 (row113 hT) x1) rfl rfl (Nat.le_of_ble_eq_true rfl) (by decide) rfl rfl 117 rfl (fun rv h1 q12 => ?_)
              obtain ⟨v13, rfl, rfl, pv13, qv13, rv13⟩ := q12
              replace rv13 : v13.toInt = atv m 113 x1.toInt := rv13
              show PV _ _ _ _ _ _ _ 117 [.ref 0, .int x0, .int x1, .int v2, pv_U] [.int v13] _
              exact pv_iret (M := mX11_hidden) dX11_hidden_117 rfl rfl ⟨_, _, _, rfl, rfl, I, Kp, (iv_rng v13).1, (iv_rng v13).2, trivial⟩
            · have c11 := iv_eq (X := x1.toInt) (Y := (-1)) c11 rfl (by decide)
              refine pv_aload_n (M := mX11_hidden) 0 dX11_hidden_93 94 rfl rfl rfl ?_
              refine mv_get (M := mX11_hidden) (v := .ref 112) dX11_hidden_94 FX11 11 wd418 (by decide) (tl0 hT) rfl rfl 97 rfl ?_
              refine mv_get (M := mX11_hidden) (v := .ref 113) dX11_hidden_97 FX5 0 wd371 (by decide) (tl112 hT) rfl rfl 100 rfl ?_
              refine iv_get (M := mX11_hidden) (l1 := 0) (l2 := 16) dX11_hidden_100 FX8 1 wd200 (by decide) (tl113 hT) rfl I rfl 103 rfl (fun v14 ev14 pv14 qv14 => ?_)
              refine pv_goto (M := mX11_hidden) (tgt := 117) dX11_hidden_103 (by decide) ?_
              exact pv_iret (M := mX11_hidden) dX11_hidden_117 rfl rfl ⟨_, _, _, rfl, rfl, I, Kp, (iv_rng v14).1, (iv_rng v14).2, trivial⟩
          · have c10 := iv_ne (X := v9.toInt) (Y := x0.toInt) c10 rfl rfl
            refine pv_aload_n (M := mX11_hidden) 0 dX11_hidden_41 42 rfl rfl rfl ?_
            refine pv_iload_n (M := mX11_hidden) 1 dX11_hidden_42 43 rfl rfl rfl ?_
            refine pv_iconst (M := mX11_hidden) (v := 0) dX11_hidden_43 44 rfl (by decide) ?_
            have z15 : (0 : Int32).toInt = 0 := by decide
            refine pv_callv (M := mX11_hidden) (as := [.int x0, .int 0]) (st := []) (kc2 := 0) (ks2 := 0) dX11_hidden_44 wd927 YX11_deedAmong ⟨wd929, wd35⟩ (mk_get (tl0 hT)) rfl rfl (s_X11_deedAmong g hT I R x0 0) rfl rfl (Nat.le_of_ble_eq_true rfl) (by decide) rfl rfl 47 rfl (fun rv h1 q16 => ?_)
            obtain ⟨v17, rfl, rfl, hv17⟩ := q16
            have zv17 := hv17.2.2.2.2
            show PV _ _ _ _ _ _ _ 47 [.ref 0, .int x0, .int x1, .int v2, pv_U] [.ref v17] _
            refine pv_astore (M := mX11_hidden) (lo2 := [.ref 0, .int x0, .int x1, .int v2, .ref v17]) dX11_hidden_47 49 rfl (by decide) rfl rfl ?_
            refine pv_aload_n (M := mX11_hidden) 0 dX11_hidden_49 50 rfl rfl rfl ?_
            refine mv_get (M := mX11_hidden) (v := .ref 112) dX11_hidden_50 FX11 11 wd418 (by decide) (tl0 hT) rfl rfl 53 rfl ?_
            refine pv_aload (M := mX11_hidden) dX11_hidden_53 55 rfl rfl ?_
            refine pv_aload_n (M := mX11_hidden) 0 dX11_hidden_55 56 rfl rfl rfl ?_
            refine pv_iload_n (M := mX11_hidden) 1 dX11_hidden_56 57 rfl rfl rfl ?_
            refine pv_iconst (M := mX11_hidden) (v := 1) dX11_hidden_57 58 rfl (by decide) ?_
            have z18 : (1 : Int32).toInt = 1 := by decide
            refine pv_callv (M := mX11_hidden) (as := [.int x0, .int 1]) (st := [.ref v17, .ref 112]) (kc2 := 0) (ks2 := 0) dX11_hidden_58 wd927 YX11_deedAmong ⟨wd929, wd35⟩ (mk_get (tl0 hT)) rfl rfl (s_X11_deedAmong g hT I R x0 1) rfl rfl (Nat.le_of_ble_eq_true rfl) (by decide) rfl rfl 61 rfl (fun rv h1 q19 => ?_)
            obtain ⟨v20, rfl, rfl, hv20⟩ := q19
            have zv20 := hv20.2.2.2.2
            show PV _ _ _ _ _ _ _ 61 [.ref 0, .int x0, .int x1, .int v2, .ref v17] [.ref v20, .ref v17, .ref 112] _
            refine pv_iload_n (M := mX11_hidden) 3 dX11_hidden_61 62 rfl rfl rfl ?_
            refine pv_iconst (M := mX11_hidden) (v := 3) dX11_hidden_62 63 rfl (by decide) ?_
            refine pv_icmp_ne (M := mX11_hidden) (tgt := 75) dX11_hidden_63 66 rfl (by decide) (fun c21 => ?_) (fun c21 => ?_)
            · have c21 := iv_ne (X := v2.toInt) (Y := 3) c21 rfl (by decide)
              refine pv_aload (M := mX11_hidden) dX11_hidden_75 77 rfl rfl ?_
              refine pv_callv (M := mX11_hidden) (as := [.ref v17, .ref v20, .ref v17]) (st := []) (kc2 := 0) (ks2 := 0) dX11_hidden_77 wd934 YX5_solve ⟨wd935, wd936⟩ (mk_get (tl112 hT)) rfl rfl (s_X5_solve g hT I v17 hv17 v20 hv20 v17 hv17) rfl rfl (Nat.le_of_ble_eq_true rfl) (by decide) rfl rfl 80 rfl (fun rv h1 q22 => ?_)
              obtain ⟨m23, n24, rfl, rfl, I25, K26, rm23⟩ := q22
              have K26c := K26
              have K26 := Kp.trans (K26.sub (by first | exact wg_l (by decide) | exact wg_g (by decide) | exact WX_wg | exact la7_wg zR (by decide) | exact wsL_wg zR (by decide)))
              show PV _ _ _ _ _ _ _ 80 [.ref 0, .int x0, .int x1, .int v2, .ref v17] [] _
              refine pv_aload_n (M := mX11_hidden) 0 dX11_hidden_80 81 rfl rfl rfl ?_
              refine mv_get (M := mX11_hidden) (v := .ref 112) dX11_hidden_81 FX11 11 wd418 (by decide) (tl0 hT) rfl rfl 84 rfl ?_
              refine pv_iload_n (M := mX11_hidden) 1 dX11_hidden_84 85 rfl rfl rfl ?_
              refine iv_put (M := mX11_hidden) (l1 := (-2147483648)) (l2 := 2147483647) dX11_hidden_85 FX5 1 wd373 (by decide) rfl (tl112 hT) rfl rfl rfl I25 rfl (iv_rng x0).1 (iv_rng x0).2 88 rfl (fun m27 e30 I28 => ?_)
              have K29 := K26.set e30 (by first | rfl | decide)
              refine pv_iload_n (M := mX11_hidden) 2 dX11_hidden_88 89 rfl rfl rfl ?_
              refine pv_iconst (M := mX11_hidden) (v := (-1)) dX11_hidden_89 90 rfl (by decide) ?_
              refine pv_icmp_ne (M := mX11_hidden) (tgt := 106) dX11_hidden_90 93 rfl (by decide) (fun c31 => ?_) (fun c31 => ?_)
              · have c31 := iv_ne (X := x1.toInt) (Y := (-1)) c31 rfl (by decide)
                refine pv_aload_n (M := mX11_hidden) 0 dX11_hidden_106 107 rfl rfl rfl ?_
                refine mv_get (M := mX11_hidden) (v := .ref 112) dX11_hidden_107 FX11 11 wd418 (by decide) (tl0 hT) rfl rfl 110 rfl ?_
                refine mv_get (M := mX11_hidden) (v := .ref 113) dX11_hidden_110 FX5 0 wd371 (by decide) (tl112 hT) rfl rfl 113 rfl ?_
                refine pv_iload_n (M := mX11_hidden) 2 dX11_hidden_113 114 rfl rfl rfl ?_
                refine pv_callv (M := mX11_hidden) (as := [.int x1]) (st := []) (kc2 := 0) (ks2 := 0) dX11_hidden_114 wd704 YX8_at ⟨wd705, wd706⟩ (mk_get (tl113 hT)) rfl rfl (s_X8_at g hT I28 113 16 (row113 hT) x1) rfl rfl (Nat.le_of_ble_eq_true rfl) (by decide) rfl rfl 117 rfl (fun rv h1 q32 => ?_)
                obtain ⟨v33, rfl, rfl, pv33, qv33, rv33⟩ := q32
                replace rv33 : v33.toInt = atv m27 113 x1.toInt := rv33
                show PV _ _ _ _ _ _ _ 117 [.ref 0, .int x0, .int x1, .int v2, .ref v17] [.int v33] _
                exact pv_iret (M := mX11_hidden) dX11_hidden_117 rfl rfl ⟨_, _, _, rfl, rfl, I28, K29, (iv_rng v33).1, (iv_rng v33).2, trivial⟩
              · have c31 := iv_eq (X := x1.toInt) (Y := (-1)) c31 rfl (by decide)
                refine pv_aload_n (M := mX11_hidden) 0 dX11_hidden_93 94 rfl rfl rfl ?_
                refine mv_get (M := mX11_hidden) (v := .ref 112) dX11_hidden_94 FX11 11 wd418 (by decide) (tl0 hT) rfl rfl 97 rfl ?_
                refine mv_get (M := mX11_hidden) (v := .ref 113) dX11_hidden_97 FX5 0 wd371 (by decide) (tl112 hT) rfl rfl 100 rfl ?_
                refine iv_get (M := mX11_hidden) (l1 := 0) (l2 := 16) dX11_hidden_100 FX8 1 wd200 (by decide) (tl113 hT) rfl I28 rfl 103 rfl (fun v34 ev34 pv34 qv34 => ?_)
                refine pv_goto (M := mX11_hidden) (tgt := 117) dX11_hidden_103 (by decide) ?_
                exact pv_iret (M := mX11_hidden) dX11_hidden_117 rfl rfl ⟨_, _, _, rfl, rfl, I28, K29, (iv_rng v34).1, (iv_rng v34).2, trivial⟩
            · have c21 := iv_eq (X := v2.toInt) (Y := 3) c21 rfl (by decide)
              refine pv_aload_n (M := mX11_hidden) 0 dX11_hidden_66 67 rfl rfl rfl ?_
              refine pv_iload_n (M := mX11_hidden) 1 dX11_hidden_67 68 rfl rfl rfl ?_
              refine pv_iconst (M := mX11_hidden) (v := 2) dX11_hidden_68 69 rfl (by decide) ?_
              have z35 : (2 : Int32).toInt = 2 := by decide
              refine pv_callv (M := mX11_hidden) (as := [.int x0, .int 2]) (st := [.ref v20, .ref v17, .ref 112]) (kc2 := 0) (ks2 := 0) dX11_hidden_69 wd927 YX11_deedAmong ⟨wd929, wd35⟩ (mk_get (tl0 hT)) rfl rfl (s_X11_deedAmong g hT I R x0 2) rfl rfl (Nat.le_of_ble_eq_true rfl) (by decide) rfl rfl 72 rfl (fun rv h1 q36 => ?_)
              obtain ⟨v37, rfl, rfl, hv37⟩ := q36
              have zv37 := hv37.2.2.2.2
              show PV _ _ _ _ _ _ _ 72 [.ref 0, .int x0, .int x1, .int v2, .ref v17] [.ref v37, .ref v20, .ref v17, .ref 112] _
              refine pv_goto (M := mX11_hidden) (tgt := 77) dX11_hidden_72 (by decide) ?_
              refine pv_callv (M := mX11_hidden) (as := [.ref v17, .ref v20, .ref v37]) (st := []) (kc2 := 0) (ks2 := 0) dX11_hidden_77 wd934 YX5_solve ⟨wd935, wd936⟩ (mk_get (tl112 hT)) rfl rfl (s_X5_solve g hT I v17 hv17 v20 hv20 v37 hv37) rfl rfl (Nat.le_of_ble_eq_true rfl) (by decide) rfl rfl 80 rfl (fun rv h1 q38 => ?_)
              obtain ⟨m39, n40, rfl, rfl, I41, K42, rm39⟩ := q38
              have K42c := K42
              have K42 := Kp.trans (K42.sub (by first | exact wg_l (by decide) | exact wg_g (by decide) | exact WX_wg | exact la7_wg zR (by decide) | exact wsL_wg zR (by decide)))
              show PV _ _ _ _ _ _ _ 80 [.ref 0, .int x0, .int x1, .int v2, .ref v17] [] _
              refine pv_aload_n (M := mX11_hidden) 0 dX11_hidden_80 81 rfl rfl rfl ?_
              refine mv_get (M := mX11_hidden) (v := .ref 112) dX11_hidden_81 FX11 11 wd418 (by decide) (tl0 hT) rfl rfl 84 rfl ?_
              refine pv_iload_n (M := mX11_hidden) 1 dX11_hidden_84 85 rfl rfl rfl ?_
              refine iv_put (M := mX11_hidden) (l1 := (-2147483648)) (l2 := 2147483647) dX11_hidden_85 FX5 1 wd373 (by decide) rfl (tl112 hT) rfl rfl rfl I41 rfl (iv_rng x0).1 (iv_rng x0).2 88 rfl (fun m43 e46 I44 => ?_)
              have K45 := K42.set e46 (by first | rfl | decide)
              refine pv_iload_n (M := mX11_hidden) 2 dX11_hidden_88 89 rfl rfl rfl ?_
              refine pv_iconst (M := mX11_hidden) (v := (-1)) dX11_hidden_89 90 rfl (by decide) ?_
              refine pv_icmp_ne (M := mX11_hidden) (tgt := 106) dX11_hidden_90 93 rfl (by decide) (fun c47 => ?_) (fun c47 => ?_)
              · have c47 := iv_ne (X := x1.toInt) (Y := (-1)) c47 rfl (by decide)
                refine pv_aload_n (M := mX11_hidden) 0 dX11_hidden_106 107 rfl rfl rfl ?_
                refine mv_get (M := mX11_hidden) (v := .ref 112) dX11_hidden_107 FX11 11 wd418 (by decide) (tl0 hT) rfl rfl 110 rfl ?_
                refine mv_get (M := mX11_hidden) (v := .ref 113) dX11_hidden_110 FX5 0 wd371 (by decide) (tl112 hT) rfl rfl 113 rfl ?_
                refine pv_iload_n (M := mX11_hidden) 2 dX11_hidden_113 114 rfl rfl rfl ?_
                refine pv_callv (M := mX11_hidden) (as := [.int x1]) (st := []) (kc2 := 0) (ks2 := 0) dX11_hidden_114 wd704 YX8_at ⟨wd705, wd706⟩ (mk_get (tl113 hT)) rfl rfl (s_X8_at g hT I44 113 16 (row113 hT) x1) rfl rfl (Nat.le_of_ble_eq_true rfl) (by decide) rfl rfl 117 rfl (fun rv h1 q48 => ?_)
                obtain ⟨v49, rfl, rfl, pv49, qv49, rv49⟩ := q48
                replace rv49 : v49.toInt = atv m43 113 x1.toInt := rv49
                show PV _ _ _ _ _ _ _ 117 [.ref 0, .int x0, .int x1, .int v2, .ref v17] [.int v49] _
                exact pv_iret (M := mX11_hidden) dX11_hidden_117 rfl rfl ⟨_, _, _, rfl, rfl, I44, K45, (iv_rng v49).1, (iv_rng v49).2, trivial⟩
              · have c47 := iv_eq (X := x1.toInt) (Y := (-1)) c47 rfl (by decide)
                refine pv_aload_n (M := mX11_hidden) 0 dX11_hidden_93 94 rfl rfl rfl ?_
                refine mv_get (M := mX11_hidden) (v := .ref 112) dX11_hidden_94 FX11 11 wd418 (by decide) (tl0 hT) rfl rfl 97 rfl ?_
                refine mv_get (M := mX11_hidden) (v := .ref 113) dX11_hidden_97 FX5 0 wd371 (by decide) (tl112 hT) rfl rfl 100 rfl ?_
                refine iv_get (M := mX11_hidden) (l1 := 0) (l2 := 16) dX11_hidden_100 FX8 1 wd200 (by decide) (tl113 hT) rfl I44 rfl 103 rfl (fun v50 ev50 pv50 qv50 => ?_)
                refine pv_goto (M := mX11_hidden) (tgt := 117) dX11_hidden_103 (by decide) ?_
                exact pv_iret (M := mX11_hidden) dX11_hidden_117 rfl rfl ⟨_, _, _, rfl, rfl, I44, K45, (iv_rng v50).1, (iv_rng v50).2, trivial⟩
        · have c8 := iv_nle (X := (-1)) (Y := x1.toInt) c8 (by decide) rfl
          refine pv_iconst (M := mX11_hidden) (v := (-1)) dX11_hidden_28 29 rfl (by decide) ?_
          exact pv_iret (M := mX11_hidden) dX11_hidden_29 rfl rfl ⟨_, _, _, rfl, rfl, I, Kp, by decide, by decide, trivial⟩

set_option maxHeartbeats 2000000 in
set_option maxRecDepth 20000 in
theorem s_X11_forged (g : pv_G) {T : List mv_T} {m : Nat → Nat → Int32} {n : Nat → Nat → Int64} {r : Nat → Value} {la lb : Nat} (hT : TX T) (I : IV BB m) (R : RX T r la lb) (x0 : Int32) : PM g mX11_forged yX11_forged (sqP (mk T m n r) (-2147483648) 2147483647 (fun v => True)) 3 0 0 [.ref 0, .int x0] (mk T m n r) := by
  have Kp : fr (wl []) m m := fr.rf
  have R0 := R
  have zR := R.2.2.2.2.1.1
  have zR2 := R.2.2.2.2.2.1
  refine PM.of 1 (lo := [.ref 0, .int x0, pv_U]) rfl (by decide) rfl rfl (Nat.le_of_ble_eq_true rfl) ?_
  refine pv_aload_n (M := mX11_forged) 0 dX11_forged_0 1 rfl rfl rfl ?_
  refine pv_iload_n (M := mX11_forged) 1 dX11_forged_1 2 rfl rfl rfl ?_
  refine pv_callv (M := mX11_forged) (as := [.int x0]) (st := []) (kc2 := 0) (ks2 := 0) dX11_forged_2 wd828 YX11_isDeed ⟨wd830, wd25⟩ (mk_get (tl0 hT)) rfl rfl (s_X11_isDeed g hT I R x0) rfl rfl (Nat.le_of_ble_eq_true rfl) (by decide) rfl rfl 5 rfl (fun rv h1 q1 => ?_)
  obtain ⟨v2, rfl, rfl, pv2, qv2, rv2⟩ := q1
  replace rv2 : (v2 = 0 ∨ (0 ≤ x0.toInt ∧ x0.toInt ≤ 7)) ∧ v2 = ddv m x0 := rv2
  show PV _ _ _ _ _ _ _ 5 [.ref 0, .int x0, pv_U] [.int v2] _
  refine pv_if_ne (M := mX11_forged) (tgt := 10) dX11_forged_5 8 rfl (by decide) (fun c3 => ?_) (fun c3 => ?_)
  · have pc3 := rv2.1.resolve_left c3
    have c3 := iv_ne (X := v2.toInt) (Y := 0) c3 rfl (by decide)
    refine pv_iconst (M := mX11_forged) (v := 0) dX11_forged_10 11 rfl (by decide) ?_
    refine pv_istore_n (M := mX11_forged) 2 (lo2 := [.ref 0, .int x0, .int 0]) dX11_forged_11 12 rfl rfl (by decide) rfl rfl ?_
    have lp10 : ∀ (fuel9 : Nat) (y4 : Int32), (0 ≤ y4.toInt) → (y4.toInt ≤ 8) → ((8 - y4.toInt) : Int).toNat < fuel9 → PV none g mX11_forged (sqP (mk T m n r) (-2147483648) 2147483647 (fun v => True)) 3 0 0 12 [.ref 0, .int x0, .int y4] [] (mk T m n r) := by
      intro fuel9
      induction fuel9 with
      | zero => intro y4 b12 b13 z14; omega
      | succ fuel9 ih11 =>
        intro y4 b12 b13 z14
        refine pv_iload_n (M := mX11_forged) 2 dX11_forged_12 13 rfl rfl rfl ?_
        refine pv_aload_n (M := mX11_forged) 0 dX11_forged_13 14 rfl rfl rfl ?_
        refine iv_get (M := mX11_forged) (l1 := 0) (l2 := 8) dX11_forged_14 FX11 2 wd409 (by decide) (tl0 hT) rfl I rfl 17 rfl (fun v15 ev15 pv15 qv15 => ?_)
        refine pv_icmp_ge (M := mX11_forged) (tgt := 49) dX11_forged_17 20 rfl (by decide) (fun c16 => ?_) (fun c16 => ?_)
        · have c16 := iv_le (X := v15.toInt) (Y := y4.toInt) c16 rfl rfl
          refine pv_iconst (M := mX11_forged) (v := 1) dX11_forged_49 50 rfl (by decide) ?_
          exact pv_iret (M := mX11_forged) dX11_forged_50 rfl rfl ⟨_, rfl, rfl, by decide, by decide, trivial⟩
        · have c16 := iv_nle (X := v15.toInt) (Y := y4.toInt) c16 rfl rfl
          refine pv_aload_n (M := mX11_forged) 0 dX11_forged_20 21 rfl rfl rfl ?_
          refine mv_get (M := mX11_forged) (v := .ref 60) dX11_forged_21 FX11 3 wd410 (by decide) (tl0 hT) rfl rfl 24 rfl ?_
          refine pv_iload_n (M := mX11_forged) 1 dX11_forged_24 25 rfl rfl rfl ?_
          refine iv_qdeed (M := mX11_forged) (X := x0.toInt) dX11_forged_25 hT R rfl (by omega) (by omega) 26 rfl (fun b17 eb17 hb17 => ?_)
          have zb17 := hb17.2.2.2.2
          refine pv_aload_n (M := mX11_forged) 0 dX11_forged_26 27 rfl rfl rfl ?_
          refine mv_get (M := mX11_forged) (v := .ref 3) dX11_forged_27 FX11 1 wd408 (by decide) (tl0 hT) rfl rfl 30 rfl ?_
          refine pv_iload_n (M := mX11_forged) 2 dX11_forged_30 31 rfl rfl rfl ?_
          refine iv_qblank (M := mX11_forged) (X := y4.toInt) dX11_forged_31 hT R rfl (by omega) (by omega) 32 rfl (fun b18 eb18 hb18 => ?_)
          have zb18 := hb18.2.2.2.2.2.2.2
          refine mv_get (M := mX11_forged) (v := .ref (b18 + 1)) dX11_forged_32 FX0 0 wd208 (by decide) hb18.1 rfl rfl 35 rfl ?_
          refine pv_callv (M := mX11_forged) (as := [.ref (b18 + 1)]) (st := []) (kc2 := 0) (ks2 := 0) dX11_forged_35 wd1060 YX8_comesFrom ⟨wd1061, wd1062⟩ (mk_get hb17.1) rfl rfl (s_X8_comesFrom g hT I b17 16 hb17 (b18 + 1) 40 hb18.2.1) rfl rfl (Nat.le_of_ble_eq_true rfl) (by decide) rfl rfl 38 rfl (fun rv h1 q19 => ?_)
          obtain ⟨v20, rfl, rfl, pv20, qv20, rv20⟩ := q19
          show PV _ _ _ _ _ _ _ 38 [.ref 0, .int x0, .int y4] [.int v20] _
          refine pv_if_eq (M := mX11_forged) (tgt := 43) dX11_forged_38 41 rfl (by decide) (fun c21 => ?_) (fun c21 => ?_)
          · have c21 := iv_eq (X := v20.toInt) (Y := 0) c21 rfl (by decide)
            refine iv_inc (M := mX11_forged) (C := 1) dX11_forged_43 46 rfl rfl (by decide) rfl rfl (by decide) (by omega) (by omega) (fun v22 ev22 => ?_)
            show PV _ _ _ _ _ _ _ 46 [.ref 0, .int x0, .int v22] [] _
            refine pv_goto (M := mX11_forged) (tgt := 12) dX11_forged_46 (by decide) ?_
            exact ih11 v22 (by first | omega | assumption | exact (iv_rng _).2 | exact (iv_rng _).1 | decide) (by first | omega | assumption | exact (iv_rng _).2 | exact (iv_rng _).1 | decide) (by omega)
          · have c21 := iv_ne (X := v20.toInt) (Y := 0) c21 rfl (by decide)
            refine pv_iconst (M := mX11_forged) (v := 0) dX11_forged_41 42 rfl (by decide) ?_
            exact pv_iret (M := mX11_forged) dX11_forged_42 rfl rfl ⟨_, rfl, rfl, by decide, by decide, trivial⟩
    have z23 : (0 : Int32).toInt = 0 := by decide
    exact lp10 (((8 - 0) : Int).toNat + 1) 0 (by first | omega | assumption | exact (iv_rng _).2 | exact (iv_rng _).1 | decide) (by first | omega | assumption | exact (iv_rng _).2 | exact (iv_rng _).1 | decide) (by omega)
  · have c3 := iv_eq (X := v2.toInt) (Y := 0) c3 rfl (by decide)
    refine pv_iconst (M := mX11_forged) (v := (-1)) dX11_forged_8 9 rfl (by decide) ?_
    exact pv_iret (M := mX11_forged) dX11_forged_9 rfl rfl ⟨_, rfl, rfl, by decide, by decide, trivial⟩

set_option maxHeartbeats 2000000 in
set_option maxRecDepth 20000 in
theorem s_X11_spare (g : pv_G) {T : List mv_T} {m : Nat → Nat → Int32} {n : Nat → Nat → Int64} {r : Nat → Value} {la lb : Nat} (hT : TX T) (I : IV BB m) (R : RX T r la lb) (x0 : Int32) (x1 : Int32) : PM g mX11_spare yX11_spare (sqPJ (mk T m n r)) 4 0 0 [.ref 0, .int x0, .int x1] (mk T m n r) := by
  have Kp : fr (wl []) m m := fr.rf
  have R0 := R
  have zR := R.2.2.2.2.1.1
  have zR2 := R.2.2.2.2.2.1
  refine PM.of 4 (lo := [.ref 0, .int x0, .int x1, pv_U, pv_U, pv_U, pv_U]) rfl (by decide) rfl rfl (Nat.le_of_ble_eq_true rfl) ?_
  refine pv_aload_n (M := mX11_spare) 0 dX11_spare_0 1 rfl rfl rfl ?_
  refine pv_iload_n (M := mX11_spare) 1 dX11_spare_1 2 rfl rfl rfl ?_
  refine pv_callv (M := mX11_spare) (as := [.int x0]) (st := []) (kc2 := 0) (ks2 := 0) dX11_spare_2 wd700 YX11_isBlank ⟨wd702, wd16⟩ (mk_get (tl0 hT)) rfl rfl (s_X11_isBlank g hT I R x0) rfl rfl (Nat.le_of_ble_eq_true rfl) (by decide) rfl rfl 5 rfl (fun rv h1 q1 => ?_)
  obtain ⟨v2, rfl, rfl, pv2, qv2, rv2⟩ := q1
  replace rv2 : v2 = 0 ∨ (0 ≤ x0.toInt ∧ x0.toInt ≤ 7) := rv2
  show PV _ _ _ _ _ _ _ 5 [.ref 0, .int x0, .int x1, pv_U, pv_U, pv_U, pv_U] [.int v2] _
  refine pv_if_eq (M := mX11_spare) (tgt := 16) dX11_spare_5 8 rfl (by decide) (fun c3 => ?_) (fun c3 => ?_)
  · have c3 := iv_eq (X := v2.toInt) (Y := 0) c3 rfl (by decide)
    refine pv_ldc2 (M := mX11_spare) (v := (-1)) dX11_spare_16 19 rfl wd832 ?_
    exact pv_lret (M := mX11_spare) dX11_spare_19 rfl ⟨_, rfl, rfl⟩
  · have pc3 := rv2.resolve_left c3
    have c3 := iv_ne (X := v2.toInt) (Y := 0) c3 rfl (by decide)
    refine pv_aload_n (M := mX11_spare) 0 dX11_spare_8 9 rfl rfl rfl ?_
    refine pv_iload_n (M := mX11_spare) 2 dX11_spare_9 10 rfl rfl rfl ?_
    refine pv_callv (M := mX11_spare) (as := [.int x1]) (st := []) (kc2 := 0) (ks2 := 0) dX11_spare_10 wd919 YX11_areDeeds ⟨wd921, wd33⟩ (mk_get (tl0 hT)) rfl rfl (s_X11_areDeeds g hT I R x1) rfl rfl (Nat.le_of_ble_eq_true rfl) (by decide) rfl rfl 13 rfl (fun rv h1 q4 => ?_)
    obtain ⟨v5, rfl, rfl, pv5, qv5, rv5⟩ := q4
    replace rv5 : v5 = adv m x1 := rv5
    show PV _ _ _ _ _ _ _ 13 [.ref 0, .int x0, .int x1, pv_U, pv_U, pv_U, pv_U] [.int v5] _
    refine pv_if_ne (M := mX11_spare) (tgt := 20) dX11_spare_13 16 rfl (by decide) (fun c6 => ?_) (fun c6 => ?_)
    · have c6 := iv_ne (X := v5.toInt) (Y := 0) c6 rfl (by decide)
      refine pv_aload_n (M := mX11_spare) 0 dX11_spare_20 21 rfl rfl rfl ?_
      refine mv_get (M := mX11_spare) (v := .ref 3) dX11_spare_21 FX11 1 wd408 (by decide) (tl0 hT) rfl rfl 24 rfl ?_
      refine pv_iload_n (M := mX11_spare) 1 dX11_spare_24 25 rfl rfl rfl ?_
      refine iv_qblank (M := mX11_spare) (X := x0.toInt) dX11_spare_25 hT R rfl (by omega) (by omega) 26 rfl (fun b7 eb7 hb7 => ?_)
      have zb7 := hb7.2.2.2.2.2.2.2
      refine mv_get (M := mX11_spare) (v := .ref (b7 + 3)) dX11_spare_26 FX0 1 wd210 (by decide) hb7.1 rfl rfl 29 rfl ?_
      refine pv_astore_n (M := mX11_spare) 3 (lo2 := [.ref 0, .int x0, .int x1, .ref (b7 + 3), pv_U, pv_U, pv_U]) dX11_spare_29 30 rfl rfl (by decide) rfl rfl ?_
      refine pv_aload_n (M := mX11_spare) 0 dX11_spare_30 31 rfl rfl rfl ?_
      refine pv_iload_n (M := mX11_spare) 2 dX11_spare_31 32 rfl rfl rfl ?_
      refine pv_aload_n (M := mX11_spare) 3 dX11_spare_32 33 rfl rfl rfl ?_
      refine pv_iconst (M := mX11_spare) (v := (-1)) dX11_spare_33 34 rfl (by decide) ?_
      refine pv_callv (M := mX11_spare) (as := [.int x1, .ref (b7 + 3), .int (-1)]) (st := []) (kc2 := 0) (ks2 := 0) dX11_spare_34 wd1072 YX11_allCome ⟨wd1074, wd45⟩ (mk_get (tl0 hT)) rfl rfl (s_X11_allCome g hT I R x1 (b7 + 3) 40 hb7.2.2.1 (-1)) rfl rfl (Nat.le_of_ble_eq_true rfl) (by decide) rfl rfl 37 rfl (fun rv h1 q8 => ?_)
      obtain ⟨v9, rfl, rfl, pv9, qv9, rv9⟩ := q8
      show PV _ _ _ _ _ _ _ 37 [.ref 0, .int x0, .int x1, .ref (b7 + 3), pv_U, pv_U, pv_U] [.int v9] _
      refine pv_if_ne (M := mX11_spare) (tgt := 44) dX11_spare_37 40 rfl (by decide) (fun c10 => ?_) (fun c10 => ?_)
      · have c10 := iv_ne (X := v9.toInt) (Y := 0) c10 rfl (by decide)
        refine pv_lconst (M := mX11_spare) (v := 0) dX11_spare_44 45 rfl (by decide) ?_
        refine pv_lstore (M := mX11_spare) (lo2 := [.ref 0, .int x0, .int x1, .ref (b7 + 3), .long 0, pv_U, pv_U]) dX11_spare_45 47 rfl (by decide) rfl rfl ?_
        refine pv_iconst (M := mX11_spare) (v := 0) dX11_spare_47 48 rfl (by decide) ?_
        refine pv_istore (M := mX11_spare) (lo2 := [.ref 0, .int x0, .int x1, .ref (b7 + 3), .long 0, pv_U, .int 0]) dX11_spare_48 50 rfl (by decide) rfl rfl ?_
        have lp18 : ∀ (fuel17 : Nat) (y11 : Int64) (y12 : Int32), (0 ≤ y12.toInt) → (y12.toInt ≤ 40) → ((40 - y12.toInt) : Int).toNat < fuel17 → PV none g mX11_spare (sqPJ (mk T m n r)) 4 0 0 50 [.ref 0, .int x0, .int x1, .ref (b7 + 3), .long y11, pv_U, .int y12] [] (mk T m n r) := by
          intro fuel17
          induction fuel17 with
          | zero => intro y11 y12 b20 b21 z22; omega
          | succ fuel17 ih19 =>
            intro y11 y12 b20 b21 z22
            refine pv_iload (M := mX11_spare) dX11_spare_50 52 rfl rfl ?_
            refine pv_aload_n (M := mX11_spare) 3 dX11_spare_52 53 rfl rfl rfl ?_
            refine iv_get (M := mX11_spare) (l1 := 0) (l2 := 40) dX11_spare_53 FX8 1 wd200 (by decide) hb7.2.2.1.1 rfl I hb7.2.2.1.2.2.1 56 rfl (fun v23 ev23 pv23 qv23 => ?_)
            refine pv_icmp_ge (M := mX11_spare) (tgt := 94) dX11_spare_56 59 rfl (by decide) (fun c24 => ?_) (fun c24 => ?_)
            · have c24 := iv_le (X := v23.toInt) (Y := y12.toInt) c24 rfl rfl
              refine pv_lload (M := mX11_spare) dX11_spare_94 96 rfl rfl ?_
              exact pv_lret (M := mX11_spare) dX11_spare_96 rfl ⟨_, rfl, rfl⟩
            · have c24 := iv_nle (X := v23.toInt) (Y := y12.toInt) c24 rfl rfl
              refine pv_aload_n (M := mX11_spare) 0 dX11_spare_59 60 rfl rfl rfl ?_
              refine pv_iload_n (M := mX11_spare) 2 dX11_spare_60 61 rfl rfl rfl ?_
              refine pv_aload_n (M := mX11_spare) 3 dX11_spare_61 62 rfl rfl rfl ?_
              refine pv_iload (M := mX11_spare) dX11_spare_62 64 rfl rfl ?_
              refine pv_callv (M := mX11_spare) (as := [.int x1, .ref (b7 + 3), .int y12]) (st := []) (kc2 := 0) (ks2 := 0) dX11_spare_64 wd1072 YX11_allCome ⟨wd1074, wd45⟩ (mk_get (tl0 hT)) rfl rfl (s_X11_allCome g hT I R x1 (b7 + 3) 40 hb7.2.2.1 y12) rfl rfl (Nat.le_of_ble_eq_true rfl) (by decide) rfl rfl 67 rfl (fun rv h1 q25 => ?_)
              obtain ⟨v26, rfl, rfl, pv26, qv26, rv26⟩ := q25
              show PV _ _ _ _ _ _ _ 67 [.ref 0, .int x0, .int x1, .ref (b7 + 3), .long y11, pv_U, .int y12] [.int v26] _
              refine pv_if_eq (M := mX11_spare) (tgt := 88) dX11_spare_67 70 rfl (by decide) (fun c27 => ?_) (fun c27 => ?_)
              · have c27 := iv_eq (X := v26.toInt) (Y := 0) c27 rfl (by decide)
                refine iv_inc (M := mX11_spare) (C := 1) dX11_spare_88 91 rfl rfl (by decide) rfl rfl (by decide) (by omega) (by omega) (fun v28 ev28 => ?_)
                show PV _ _ _ _ _ _ _ 91 [.ref 0, .int x0, .int x1, .ref (b7 + 3), .long y11, pv_U, .int v28] [] _
                refine pv_goto (M := mX11_spare) (tgt := 50) dX11_spare_91 (by decide) ?_
                exact ih19 y11 v28 (by first | omega | assumption | exact (iv_rng _).2 | exact (iv_rng _).1 | decide) (by first | omega | assumption | exact (iv_rng _).2 | exact (iv_rng _).1 | decide) (by omega)
              · have c27 := iv_ne (X := v26.toInt) (Y := 0) c27 rfl (by decide)
                refine pv_lload (M := mX11_spare) dX11_spare_70 72 rfl rfl ?_
                refine pv_lconst (M := mX11_spare) (v := 1) dX11_spare_72 73 rfl (by decide) ?_
                refine pv_aload_n (M := mX11_spare) 0 dX11_spare_73 74 rfl rfl rfl ?_
                refine mv_get (M := mX11_spare) (v := .ref 3) dX11_spare_74 FX11 1 wd408 (by decide) (tl0 hT) rfl rfl 77 rfl ?_
                refine pv_iload_n (M := mX11_spare) 1 dX11_spare_77 78 rfl rfl rfl ?_
                refine iv_qblank (M := mX11_spare) (X := x0.toInt) dX11_spare_78 hT R rfl (by omega) (by omega) 79 rfl (fun b29 eb29 hb29 => ?_)
                have zb29 := hb29.2.2.2.2.2.2.2
                refine pv_iload (M := mX11_spare) dX11_spare_79 81 rfl rfl ?_
                refine pv_callv (M := mX11_spare) (as := [.int y12]) (st := [.long 1, .long y11]) (kc2 := 0) (ks2 := 0) dX11_spare_81 wd708 YX0_ownAt ⟨wd709, wd710⟩ (mk_get hb29.1) rfl rfl (s_X0_ownAt g hT I b29 hb29 y12) rfl rfl (Nat.le_of_ble_eq_true rfl) (by decide) rfl rfl 84 rfl (fun rv h1 q30 => ?_)
                obtain ⟨v31, rfl, rfl, pv31, qv31, rv31⟩ := q30
                show PV _ _ _ _ _ _ _ 84 [.ref 0, .int x0, .int x1, .ref (b7 + 3), .long y11, pv_U, .int y12] [.int v31, .long 1, .long y11] _
                refine pv_lshl (M := mX11_spare) dX11_spare_84 85 rfl rfl ?_
                generalize 1 <<< (v31.toInt64 &&& 63) = v32
                refine iv_orJ (M := mX11_spare) dX11_spare_85 86 rfl (fun v33 ev33 => ?_)
                refine pv_lstore (M := mX11_spare) (lo2 := [.ref 0, .int x0, .int x1, .ref (b7 + 3), .long v33, pv_U, .int y12]) dX11_spare_86 88 rfl (by decide) rfl rfl ?_
                refine iv_inc (M := mX11_spare) (C := 1) dX11_spare_88 91 rfl rfl (by decide) rfl rfl (by decide) (by omega) (by omega) (fun v34 ev34 => ?_)
                show PV _ _ _ _ _ _ _ 91 [.ref 0, .int x0, .int x1, .ref (b7 + 3), .long v33, pv_U, .int v34] [] _
                refine pv_goto (M := mX11_spare) (tgt := 50) dX11_spare_91 (by decide) ?_
                exact ih19 v33 v34 (by first | omega | assumption | exact (iv_rng _).2 | exact (iv_rng _).1 | decide) (by first | omega | assumption | exact (iv_rng _).2 | exact (iv_rng _).1 | decide) (by omega)
        have z35 : (0 : Int32).toInt = 0 := by decide
        exact lp18 (((40 - 0) : Int).toNat + 1) 0 0 (by first | omega | assumption | exact (iv_rng _).2 | exact (iv_rng _).1 | decide) (by first | omega | assumption | exact (iv_rng _).2 | exact (iv_rng _).1 | decide) (by omega)
      · have c10 := iv_eq (X := v9.toInt) (Y := 0) c10 rfl (by decide)
        refine pv_ldc2 (M := mX11_spare) (v := (-2)) dX11_spare_40 43 rfl wd1077 ?_
        exact pv_lret (M := mX11_spare) dX11_spare_43 rfl ⟨_, rfl, rfl⟩
    · have c6 := iv_eq (X := v5.toInt) (Y := 0) c6 rfl (by decide)
      refine pv_ldc2 (M := mX11_spare) (v := (-1)) dX11_spare_16 19 rfl wd832 ?_
      exact pv_lret (M := mX11_spare) dX11_spare_19 rfl ⟨_, rfl, rfl⟩

set_option maxHeartbeats 2000000 in
set_option maxRecDepth 20000 in
theorem s_X11_weighSharing (g : pv_G) {T : List mv_T} {m : Nat → Nat → Int32} {n : Nat → Nat → Int64} {r : Nat → Value} {la lb : Nat} (hT : TX T) (I : IV BB m) (R : RX T r la lb) (x0 : Int32) : PM g mX11_weighSharing yX11_weighSharing (sqV T BB wN r m (fun m' => True)) 3 0 0 [.ref 0, .int x0] (mk T m n r) := by
  have Kp : fr wN m m := fr.rf
  have R0 := R
  have zR := R.2.2.2.2.1.1
  have zR2 := R.2.2.2.2.2.1
  refine PM.of 3 (lo := [.ref 0, .int x0, pv_U, pv_U, pv_U]) rfl (by decide) rfl rfl (Nat.le_of_ble_eq_true rfl) ?_
  refine pv_iconst (M := mX11_weighSharing) (v := 0) dX11_weighSharing_0 1 rfl (by decide) ?_
  refine pv_istore_n (M := mX11_weighSharing) 2 (lo2 := [.ref 0, .int x0, .int 0, pv_U, pv_U]) dX11_weighSharing_1 2 rfl rfl (by decide) rfl rfl ?_
  have lp7 : ∀ (fuel6 : Nat) (y1 : Int32) (m2 : Nat → Nat → Int32) (n3 : Nat → Nat → Int64), (0 ≤ y1.toInt) → (y1.toInt ≤ 8) → IV BB m2 → fr wN m m2 → ((8 - y1.toInt) : Int).toNat < fuel6 → PV none g mX11_weighSharing (sqV T BB wN r m (fun m' => True)) 3 0 0 2 [.ref 0, .int x0, .int y1, pv_U, pv_U] [] (mk T m2 n3 r) := by
    intro fuel6
    induction fuel6 with
    | zero => intro y1 m2 n3 b9 b10 I4 K5 z11; omega
    | succ fuel6 ih8 =>
      intro y1 m2 n3 b9 b10 I4 K5 z11
      refine pv_iload_n (M := mX11_weighSharing) 2 dX11_weighSharing_2 3 rfl rfl rfl ?_
      refine pv_bipush (M := mX11_weighSharing) (v := 8) dX11_weighSharing_3 5 rfl (by decide) ?_
      refine pv_icmp_ge (M := mX11_weighSharing) (tgt := 112) dX11_weighSharing_5 8 rfl (by decide) (fun c12 => ?_) (fun c12 => ?_)
      · have c12 := iv_le (X := 8) (Y := y1.toInt) c12 (by decide) rfl
        refine pv_aload_n (M := mX11_weighSharing) 0 dX11_weighSharing_112 113 rfl rfl rfl ?_
        refine mv_get (M := mX11_weighSharing) (v := .ref 116) dX11_weighSharing_113 FX11 13 wd420 (by decide) (tl0 hT) rfl rfl 116 rfl ?_
        refine pv_aload_n (M := mX11_weighSharing) 0 dX11_weighSharing_116 117 rfl rfl rfl ?_
        refine iv_get (M := mX11_weighSharing) (l1 := 0) (l2 := 8) dX11_weighSharing_117 FX11 2 wd409 (by decide) (tl0 hT) rfl I4 rfl 120 rfl (fun v13 ev13 pv13 qv13 => ?_)
        refine pv_callv (M := mX11_weighSharing) (as := [.int v13]) (st := []) (kc2 := 0) (ks2 := 0) dX11_weighSharing_120 wd1090 YX9_solve ⟨wd1091, wd1092⟩ (mk_get (tl116 hT)) rfl rfl (s_X9_solve g hT I4 v13) rfl rfl (Nat.le_of_ble_eq_true rfl) (by decide) rfl rfl 123 rfl (fun rv h1 q14 => ?_)
        obtain ⟨m15, n16, rfl, rfl, I17, K18, rm15⟩ := q14
        have K18c := K18
        have K18 := K5.trans (K18.sub (by first | exact wg_l (by decide) | exact wg_g (by decide) | exact WX_wg | exact la7_wg zR (by decide) | exact wsL_wg zR (by decide)))
        show PV _ _ _ _ _ _ _ 123 [.ref 0, .int x0, .int y1, pv_U, pv_U] [] _
        exact pv_vret (M := mX11_weighSharing) dX11_weighSharing_123 rfl ⟨_, _, rfl, rfl, I17, K18, trivial⟩
      · have c12 := iv_nle (X := 8) (Y := y1.toInt) c12 (by decide) rfl
        refine pv_iconst (M := mX11_weighSharing) (v := 0) dX11_weighSharing_8 9 rfl (by decide) ?_
        refine pv_istore_n (M := mX11_weighSharing) 3 (lo2 := [.ref 0, .int x0, .int y1, .int 0, pv_U]) dX11_weighSharing_9 10 rfl rfl (by decide) rfl rfl ?_
        have lp25 : ∀ (fuel24 : Nat) (y19 : Int32) (m20 : Nat → Nat → Int32) (n21 : Nat → Nat → Int64), (0 ≤ y19.toInt) → (y19.toInt ≤ 8) → IV BB m20 → fr wN m m20 → ((8 - y19.toInt) : Int).toNat < fuel24 → PV none g mX11_weighSharing (sqV T BB wN r m (fun m' => True)) 3 0 0 10 [.ref 0, .int x0, .int y1, .int y19, pv_U] [] (mk T m20 n21 r) := by
          intro fuel24
          induction fuel24 with
          | zero => intro y19 m20 n21 b27 b28 I22 K23 z29; omega
          | succ fuel24 ih26 =>
            intro y19 m20 n21 b27 b28 I22 K23 z29
            refine pv_iload_n (M := mX11_weighSharing) 3 dX11_weighSharing_10 11 rfl rfl rfl ?_
            refine pv_bipush (M := mX11_weighSharing) (v := 8) dX11_weighSharing_11 13 rfl (by decide) ?_
            refine pv_icmp_ge (M := mX11_weighSharing) (tgt := 106) dX11_weighSharing_13 16 rfl (by decide) (fun c30 => ?_) (fun c30 => ?_)
            · have c30 := iv_le (X := 8) (Y := y19.toInt) c30 (by decide) rfl
              refine iv_inc (M := mX11_weighSharing) (C := 1) dX11_weighSharing_106 109 rfl rfl (by decide) rfl rfl (by decide) (by omega) (by omega) (fun v31 ev31 => ?_)
              show PV _ _ _ _ _ _ _ 109 [.ref 0, .int x0, .int v31, .int y19, pv_U] [] _
              refine pv_goto (M := mX11_weighSharing) (tgt := 2) dX11_weighSharing_109 (by decide) ?_
              refine pv_fg (lo2 := [.ref 0, .int x0, .int v31, pv_U, pv_U]) ⟨Or.inr rfl, ⟨Or.inr rfl, ⟨Or.inr rfl, ⟨Or.inl rfl, ⟨Or.inl rfl, trivial⟩⟩⟩⟩⟩ ?_
              exact ih8 v31 m20 n21 (by first | omega | assumption | exact (iv_rng _).2 | exact (iv_rng _).1 | decide) (by first | omega | assumption | exact (iv_rng _).2 | exact (iv_rng _).1 | decide) I22 K23 (by omega)
            · have c30 := iv_nle (X := 8) (Y := y19.toInt) c30 (by decide) rfl
              refine pv_iload_n (M := mX11_weighSharing) 1 dX11_weighSharing_16 17 rfl rfl rfl ?_
              refine pv_iload_n (M := mX11_weighSharing) 2 dX11_weighSharing_17 18 rfl rfl rfl ?_
              refine pv_calls (M := mX11_weighSharing) (as := [.int x0, .int y1]) (st := []) (kc2 := 0) (ks2 := 0) dX11_weighSharing_18 wd931 YX11_isAmong wd932 (s_X11_isAmong g hT I22 x0 y1) rfl rfl (Nat.le_of_ble_eq_true rfl) (by decide) rfl rfl 21 rfl (fun rv h1 q32 => ?_)
              obtain ⟨v33, rfl, rfl, pv33, qv33, rv33⟩ := q32
              replace rv33 : v33 = amv x0 y1 := rv33
              show PV _ _ _ _ _ _ _ 21 [.ref 0, .int x0, .int y1, .int y19, pv_U] [.int v33] _
              refine pv_if_eq (M := mX11_weighSharing) (tgt := 57) dX11_weighSharing_21 24 rfl (by decide) (fun c34 => ?_) (fun c34 => ?_)
              · have c34 := iv_eq (X := v33.toInt) (Y := 0) c34 rfl (by decide)
                refine pv_iconst (M := mX11_weighSharing) (v := 0) dX11_weighSharing_57 58 rfl (by decide) ?_
                refine pv_istore (M := mX11_weighSharing) (lo2 := [.ref 0, .int x0, .int y1, .int y19, .int 0]) dX11_weighSharing_58 60 rfl (by decide) rfl rfl ?_
                refine pv_aload_n (M := mX11_weighSharing) 0 dX11_weighSharing_60 61 rfl rfl rfl ?_
                refine mv_get (M := mX11_weighSharing) (v := .ref 116) dX11_weighSharing_61 FX11 13 wd420 (by decide) (tl0 hT) rfl rfl 64 rfl ?_
                refine pv_iload_n (M := mX11_weighSharing) 2 dX11_weighSharing_64 65 rfl rfl rfl ?_
                refine pv_iload_n (M := mX11_weighSharing) 3 dX11_weighSharing_65 66 rfl rfl rfl ?_
                refine pv_iload (M := mX11_weighSharing) dX11_weighSharing_66 68 rfl rfl ?_
                refine pv_if_eq (M := mX11_weighSharing) (tgt := 96) dX11_weighSharing_68 71 rfl (by decide) (fun _ => ?_) (fun q => absurd (by decide) q)
                refine pv_iconst (M := mX11_weighSharing) (v := (-1)) dX11_weighSharing_96 97 rfl (by decide) ?_
                refine pv_callv (M := mX11_weighSharing) (as := [.int y1, .int y19, .int (-1)]) (st := []) (kc2 := 0) (ks2 := 0) dX11_weighSharing_97 wd1086 YX9_weigh ⟨wd1087, wd1088⟩ (mk_get (tl116 hT)) rfl rfl (s_X9_weigh g hT I22 y1 y19 (-1)) rfl rfl (Nat.le_of_ble_eq_true rfl) (by decide) rfl rfl 100 rfl (fun rv h1 q36 => ?_)
                obtain ⟨m37, n38, rfl, rfl, I39, K40, rm37⟩ := q36
                have K40c := K40
                have K40 := K23.trans (K40.sub (by first | exact wg_l (by decide) | exact wg_g (by decide) | exact WX_wg | exact la7_wg zR (by decide) | exact wsL_wg zR (by decide)))
                show PV _ _ _ _ _ _ _ 100 [.ref 0, .int x0, .int y1, .int y19, .int 0] [] _
                refine iv_inc (M := mX11_weighSharing) (C := 1) dX11_weighSharing_100 103 rfl rfl (by decide) rfl rfl (by decide) (by omega) (by omega) (fun v41 ev41 => ?_)
                show PV _ _ _ _ _ _ _ 103 [.ref 0, .int x0, .int y1, .int v41, .int 0] [] _
                refine pv_goto (M := mX11_weighSharing) (tgt := 10) dX11_weighSharing_103 (by decide) ?_
                refine pv_fg (lo2 := [.ref 0, .int x0, .int y1, .int v41, pv_U]) ⟨Or.inr rfl, ⟨Or.inr rfl, ⟨Or.inr rfl, ⟨Or.inr rfl, ⟨Or.inl rfl, trivial⟩⟩⟩⟩⟩ ?_
                exact ih26 v41 m37 n38 (by first | omega | assumption | exact (iv_rng _).2 | exact (iv_rng _).1 | decide) (by first | omega | assumption | exact (iv_rng _).2 | exact (iv_rng _).1 | decide) I39 K40 (by omega)
              · have c34 := iv_ne (X := v33.toInt) (Y := 0) c34 rfl (by decide)
                refine pv_aload_n (M := mX11_weighSharing) 0 dX11_weighSharing_24 25 rfl rfl rfl ?_
                refine pv_iload_n (M := mX11_weighSharing) 3 dX11_weighSharing_25 26 rfl rfl rfl ?_
                refine pv_callv (M := mX11_weighSharing) (as := [.int y19]) (st := []) (kc2 := 0) (ks2 := 0) dX11_weighSharing_26 wd700 YX11_isBlank ⟨wd702, wd16⟩ (mk_get (tl0 hT)) rfl rfl (s_X11_isBlank g hT I22 R y19) rfl rfl (Nat.le_of_ble_eq_true rfl) (by decide) rfl rfl 29 rfl (fun rv h1 q42 => ?_)
                obtain ⟨v43, rfl, rfl, pv43, qv43, rv43⟩ := q42
                replace rv43 : v43 = 0 ∨ (0 ≤ y19.toInt ∧ y19.toInt ≤ 7) := rv43
                show PV _ _ _ _ _ _ _ 29 [.ref 0, .int x0, .int y1, .int y19, pv_U] [.int v43] _
                refine pv_if_eq (M := mX11_weighSharing) (tgt := 57) dX11_weighSharing_29 32 rfl (by decide) (fun c44 => ?_) (fun c44 => ?_)
                · have c44 := iv_eq (X := v43.toInt) (Y := 0) c44 rfl (by decide)
                  refine pv_iconst (M := mX11_weighSharing) (v := 0) dX11_weighSharing_57 58 rfl (by decide) ?_
                  refine pv_istore (M := mX11_weighSharing) (lo2 := [.ref 0, .int x0, .int y1, .int y19, .int 0]) dX11_weighSharing_58 60 rfl (by decide) rfl rfl ?_
                  refine pv_aload_n (M := mX11_weighSharing) 0 dX11_weighSharing_60 61 rfl rfl rfl ?_
                  refine mv_get (M := mX11_weighSharing) (v := .ref 116) dX11_weighSharing_61 FX11 13 wd420 (by decide) (tl0 hT) rfl rfl 64 rfl ?_
                  refine pv_iload_n (M := mX11_weighSharing) 2 dX11_weighSharing_64 65 rfl rfl rfl ?_
                  refine pv_iload_n (M := mX11_weighSharing) 3 dX11_weighSharing_65 66 rfl rfl rfl ?_
                  refine pv_iload (M := mX11_weighSharing) dX11_weighSharing_66 68 rfl rfl ?_
                  refine pv_if_eq (M := mX11_weighSharing) (tgt := 96) dX11_weighSharing_68 71 rfl (by decide) (fun _ => ?_) (fun q => absurd (by decide) q)
                  refine pv_iconst (M := mX11_weighSharing) (v := (-1)) dX11_weighSharing_96 97 rfl (by decide) ?_
                  refine pv_callv (M := mX11_weighSharing) (as := [.int y1, .int y19, .int (-1)]) (st := []) (kc2 := 0) (ks2 := 0) dX11_weighSharing_97 wd1086 YX9_weigh ⟨wd1087, wd1088⟩ (mk_get (tl116 hT)) rfl rfl (s_X9_weigh g hT I22 y1 y19 (-1)) rfl rfl (Nat.le_of_ble_eq_true rfl) (by decide) rfl rfl 100 rfl (fun rv h1 q46 => ?_)
                  obtain ⟨m47, n48, rfl, rfl, I49, K50, rm47⟩ := q46
                  have K50c := K50
                  have K50 := K23.trans (K50.sub (by first | exact wg_l (by decide) | exact wg_g (by decide) | exact WX_wg | exact la7_wg zR (by decide) | exact wsL_wg zR (by decide)))
                  show PV _ _ _ _ _ _ _ 100 [.ref 0, .int x0, .int y1, .int y19, .int 0] [] _
                  refine iv_inc (M := mX11_weighSharing) (C := 1) dX11_weighSharing_100 103 rfl rfl (by decide) rfl rfl (by decide) (by omega) (by omega) (fun v51 ev51 => ?_)
                  show PV _ _ _ _ _ _ _ 103 [.ref 0, .int x0, .int y1, .int v51, .int 0] [] _
                  refine pv_goto (M := mX11_weighSharing) (tgt := 10) dX11_weighSharing_103 (by decide) ?_
                  refine pv_fg (lo2 := [.ref 0, .int x0, .int y1, .int v51, pv_U]) ⟨Or.inr rfl, ⟨Or.inr rfl, ⟨Or.inr rfl, ⟨Or.inr rfl, ⟨Or.inl rfl, trivial⟩⟩⟩⟩⟩ ?_
                  exact ih26 v51 m47 n48 (by first | omega | assumption | exact (iv_rng _).2 | exact (iv_rng _).1 | decide) (by first | omega | assumption | exact (iv_rng _).2 | exact (iv_rng _).1 | decide) I49 K50 (by omega)
                · have pc44 := rv43.resolve_left c44
                  have c44 := iv_ne (X := v43.toInt) (Y := 0) c44 rfl (by decide)
                  refine pv_aload_n (M := mX11_weighSharing) 0 dX11_weighSharing_32 33 rfl rfl rfl ?_
                  refine mv_get (M := mX11_weighSharing) (v := .ref 60) dX11_weighSharing_33 FX11 3 wd410 (by decide) (tl0 hT) rfl rfl 36 rfl ?_
                  refine pv_iload_n (M := mX11_weighSharing) 2 dX11_weighSharing_36 37 rfl rfl rfl ?_
                  refine iv_qdeed (M := mX11_weighSharing) (X := y1.toInt) dX11_weighSharing_37 hT R rfl (by omega) (by omega) 38 rfl (fun b52 eb52 hb52 => ?_)
                  have zb52 := hb52.2.2.2.2
                  refine pv_aload_n (M := mX11_weighSharing) 0 dX11_weighSharing_38 39 rfl rfl rfl ?_
                  refine mv_get (M := mX11_weighSharing) (v := .ref 3) dX11_weighSharing_39 FX11 1 wd408 (by decide) (tl0 hT) rfl rfl 42 rfl ?_
                  refine pv_iload_n (M := mX11_weighSharing) 3 dX11_weighSharing_42 43 rfl rfl rfl ?_
                  refine iv_qblank (M := mX11_weighSharing) (X := y19.toInt) dX11_weighSharing_43 hT R rfl (by omega) (by omega) 44 rfl (fun b53 eb53 hb53 => ?_)
                  have zb53 := hb53.2.2.2.2.2.2.2
                  refine mv_get (M := mX11_weighSharing) (v := .ref (b53 + 3)) dX11_weighSharing_44 FX0 1 wd210 (by decide) hb53.1 rfl rfl 47 rfl ?_
                  refine pv_callv (M := mX11_weighSharing) (as := [.ref (b53 + 3)]) (st := []) (kc2 := 0) (ks2 := 0) dX11_weighSharing_47 wd1060 YX8_comesFrom ⟨wd1061, wd1062⟩ (mk_get hb52.1) rfl rfl (s_X8_comesFrom g hT I22 b52 16 hb52 (b53 + 3) 40 hb53.2.2.1) rfl rfl (Nat.le_of_ble_eq_true rfl) (by decide) rfl rfl 50 rfl (fun rv h1 q54 => ?_)
                  obtain ⟨v55, rfl, rfl, pv55, qv55, rv55⟩ := q54
                  show PV _ _ _ _ _ _ _ 50 [.ref 0, .int x0, .int y1, .int y19, pv_U] [.int v55] _
                  refine pv_if_eq (M := mX11_weighSharing) (tgt := 57) dX11_weighSharing_50 53 rfl (by decide) (fun c56 => ?_) (fun c56 => ?_)
                  · have c56 := iv_eq (X := v55.toInt) (Y := 0) c56 rfl (by decide)
                    refine pv_iconst (M := mX11_weighSharing) (v := 0) dX11_weighSharing_57 58 rfl (by decide) ?_
                    refine pv_istore (M := mX11_weighSharing) (lo2 := [.ref 0, .int x0, .int y1, .int y19, .int 0]) dX11_weighSharing_58 60 rfl (by decide) rfl rfl ?_
                    refine pv_aload_n (M := mX11_weighSharing) 0 dX11_weighSharing_60 61 rfl rfl rfl ?_
                    refine mv_get (M := mX11_weighSharing) (v := .ref 116) dX11_weighSharing_61 FX11 13 wd420 (by decide) (tl0 hT) rfl rfl 64 rfl ?_
                    refine pv_iload_n (M := mX11_weighSharing) 2 dX11_weighSharing_64 65 rfl rfl rfl ?_
                    refine pv_iload_n (M := mX11_weighSharing) 3 dX11_weighSharing_65 66 rfl rfl rfl ?_
                    refine pv_iload (M := mX11_weighSharing) dX11_weighSharing_66 68 rfl rfl ?_
                    refine pv_if_eq (M := mX11_weighSharing) (tgt := 96) dX11_weighSharing_68 71 rfl (by decide) (fun _ => ?_) (fun q => absurd (by decide) q)
                    refine pv_iconst (M := mX11_weighSharing) (v := (-1)) dX11_weighSharing_96 97 rfl (by decide) ?_
                    refine pv_callv (M := mX11_weighSharing) (as := [.int y1, .int y19, .int (-1)]) (st := []) (kc2 := 0) (ks2 := 0) dX11_weighSharing_97 wd1086 YX9_weigh ⟨wd1087, wd1088⟩ (mk_get (tl116 hT)) rfl rfl (s_X9_weigh g hT I22 y1 y19 (-1)) rfl rfl (Nat.le_of_ble_eq_true rfl) (by decide) rfl rfl 100 rfl (fun rv h1 q58 => ?_)
                    obtain ⟨m59, n60, rfl, rfl, I61, K62, rm59⟩ := q58
                    have K62c := K62
                    have K62 := K23.trans (K62.sub (by first | exact wg_l (by decide) | exact wg_g (by decide) | exact WX_wg | exact la7_wg zR (by decide) | exact wsL_wg zR (by decide)))
                    show PV _ _ _ _ _ _ _ 100 [.ref 0, .int x0, .int y1, .int y19, .int 0] [] _
                    refine iv_inc (M := mX11_weighSharing) (C := 1) dX11_weighSharing_100 103 rfl rfl (by decide) rfl rfl (by decide) (by omega) (by omega) (fun v63 ev63 => ?_)
                    show PV _ _ _ _ _ _ _ 103 [.ref 0, .int x0, .int y1, .int v63, .int 0] [] _
                    refine pv_goto (M := mX11_weighSharing) (tgt := 10) dX11_weighSharing_103 (by decide) ?_
                    refine pv_fg (lo2 := [.ref 0, .int x0, .int y1, .int v63, pv_U]) ⟨Or.inr rfl, ⟨Or.inr rfl, ⟨Or.inr rfl, ⟨Or.inr rfl, ⟨Or.inl rfl, trivial⟩⟩⟩⟩⟩ ?_
                    exact ih26 v63 m59 n60 (by first | omega | assumption | exact (iv_rng _).2 | exact (iv_rng _).1 | decide) (by first | omega | assumption | exact (iv_rng _).2 | exact (iv_rng _).1 | decide) I61 K62 (by omega)
                  · have c56 := iv_ne (X := v55.toInt) (Y := 0) c56 rfl (by decide)
                    refine pv_iconst (M := mX11_weighSharing) (v := 1) dX11_weighSharing_53 54 rfl (by decide) ?_
                    refine pv_goto (M := mX11_weighSharing) (tgt := 58) dX11_weighSharing_54 (by decide) ?_
                    refine pv_istore (M := mX11_weighSharing) (lo2 := [.ref 0, .int x0, .int y1, .int y19, .int 1]) dX11_weighSharing_58 60 rfl (by decide) rfl rfl ?_
                    refine pv_aload_n (M := mX11_weighSharing) 0 dX11_weighSharing_60 61 rfl rfl rfl ?_
                    refine mv_get (M := mX11_weighSharing) (v := .ref 116) dX11_weighSharing_61 FX11 13 wd420 (by decide) (tl0 hT) rfl rfl 64 rfl ?_
                    refine pv_iload_n (M := mX11_weighSharing) 2 dX11_weighSharing_64 65 rfl rfl rfl ?_
                    refine pv_iload_n (M := mX11_weighSharing) 3 dX11_weighSharing_65 66 rfl rfl rfl ?_
                    refine pv_iload (M := mX11_weighSharing) dX11_weighSharing_66 68 rfl rfl ?_
                    refine pv_if_eq (M := mX11_weighSharing) (tgt := 96) dX11_weighSharing_68 71 rfl (by decide) (fun q => absurd q (by decide)) (fun _ => ?_)
                    refine pv_aload_n (M := mX11_weighSharing) 0 dX11_weighSharing_71 72 rfl rfl rfl ?_
                    refine mv_get (M := mX11_weighSharing) (v := .ref 3) dX11_weighSharing_72 FX11 1 wd408 (by decide) (tl0 hT) rfl rfl 75 rfl ?_
                    refine pv_iload_n (M := mX11_weighSharing) 3 dX11_weighSharing_75 76 rfl rfl rfl ?_
                    refine iv_qblank (M := mX11_weighSharing) (X := y19.toInt) dX11_weighSharing_76 hT R rfl (by omega) (by omega) 77 rfl (fun b65 eb65 hb65 => ?_)
                    have zb65 := hb65.2.2.2.2.2.2.2
                    refine mv_get (M := mX11_weighSharing) (v := .ref (b65 + 3)) dX11_weighSharing_77 FX0 1 wd210 (by decide) hb65.1 rfl rfl 80 rfl ?_
                    refine iv_get (M := mX11_weighSharing) (l1 := 0) (l2 := 40) dX11_weighSharing_80 FX8 1 wd200 (by decide) hb65.2.2.1.1 rfl I22 hb65.2.2.1.2.2.1 83 rfl (fun v66 ev66 pv66 qv66 => ?_)
                    refine pv_aload_n (M := mX11_weighSharing) 0 dX11_weighSharing_83 84 rfl rfl rfl ?_
                    refine mv_get (M := mX11_weighSharing) (v := .ref 60) dX11_weighSharing_84 FX11 3 wd410 (by decide) (tl0 hT) rfl rfl 87 rfl ?_
                    refine pv_iload_n (M := mX11_weighSharing) 2 dX11_weighSharing_87 88 rfl rfl rfl ?_
                    refine iv_qdeed (M := mX11_weighSharing) (X := y1.toInt) dX11_weighSharing_88 hT R rfl (by omega) (by omega) 89 rfl (fun b67 eb67 hb67 => ?_)
                    have zb67 := hb67.2.2.2.2
                    refine iv_get (M := mX11_weighSharing) (l1 := 0) (l2 := 16) dX11_weighSharing_89 FX8 1 wd200 (by decide) hb67.1 rfl I22 hb67.2.2.1 92 rfl (fun v68 ev68 pv68 qv68 => ?_)
                    refine iv_isub (M := mX11_weighSharing) (X := v66.toInt) (Y := v68.toInt) dX11_weighSharing_92 93 rfl rfl rfl (by omega) (by omega) (fun v69 ev69 => ?_)
                    refine pv_goto (M := mX11_weighSharing) (tgt := 97) dX11_weighSharing_93 (by decide) ?_
                    refine pv_callv (M := mX11_weighSharing) (as := [.int y1, .int y19, .int v69]) (st := []) (kc2 := 0) (ks2 := 0) dX11_weighSharing_97 wd1086 YX9_weigh ⟨wd1087, wd1088⟩ (mk_get (tl116 hT)) rfl rfl (s_X9_weigh g hT I22 y1 y19 v69) rfl rfl (Nat.le_of_ble_eq_true rfl) (by decide) rfl rfl 100 rfl (fun rv h1 q70 => ?_)
                    obtain ⟨m71, n72, rfl, rfl, I73, K74, rm71⟩ := q70
                    have K74c := K74
                    have K74 := K23.trans (K74.sub (by first | exact wg_l (by decide) | exact wg_g (by decide) | exact WX_wg | exact la7_wg zR (by decide) | exact wsL_wg zR (by decide)))
                    show PV _ _ _ _ _ _ _ 100 [.ref 0, .int x0, .int y1, .int y19, .int 1] [] _
                    refine iv_inc (M := mX11_weighSharing) (C := 1) dX11_weighSharing_100 103 rfl rfl (by decide) rfl rfl (by decide) (by omega) (by omega) (fun v75 ev75 => ?_)
                    show PV _ _ _ _ _ _ _ 103 [.ref 0, .int x0, .int y1, .int v75, .int 1] [] _
                    refine pv_goto (M := mX11_weighSharing) (tgt := 10) dX11_weighSharing_103 (by decide) ?_
                    refine pv_fg (lo2 := [.ref 0, .int x0, .int y1, .int v75, pv_U]) ⟨Or.inr rfl, ⟨Or.inr rfl, ⟨Or.inr rfl, ⟨Or.inr rfl, ⟨Or.inl rfl, trivial⟩⟩⟩⟩⟩ ?_
                    exact ih26 v75 m71 n72 (by first | omega | assumption | exact (iv_rng _).2 | exact (iv_rng _).1 | decide) (by first | omega | assumption | exact (iv_rng _).2 | exact (iv_rng _).1 | decide) I73 K74 (by omega)
        have z76 : (0 : Int32).toInt = 0 := by decide
        exact lp25 (((8 - 0) : Int).toNat + 1) 0 m2 n3 (by first | omega | assumption | exact (iv_rng _).2 | exact (iv_rng _).1 | decide) (by first | omega | assumption | exact (iv_rng _).2 | exact (iv_rng _).1 | decide) I4 K5 (by omega)
  have z77 : (0 : Int32).toInt = 0 := by decide
  exact lp7 (((8 - 0) : Int).toNat + 1) 0 m n (by first | omega | assumption | exact (iv_rng _).2 | exact (iv_rng _).1 | decide) (by first | omega | assumption | exact (iv_rng _).2 | exact (iv_rng _).1 | decide) I Kp (by omega)

set_option maxHeartbeats 2000000 in
set_option maxRecDepth 20000 in
theorem s_X11_dayEnd (g : pv_G) {T : List mv_T} {m : Nat → Nat → Int32} {n : Nat → Nat → Int64} {r : Nat → Value} {la lb : Nat} (hT : TX T) (I : IV BB m) (R : RX T r la lb) (x0 : Int32) (x1 : Int32) : PM g mX11_dayEnd yX11_dayEnd (sqI T BB wN r m (-2147483648) 2147483647 (fun m' v => True)) 4 0 0 [.ref 0, .int x0, .int x1] (mk T m n r) := by
  have Kp : fr wN m m := fr.rf
  have R0 := R
  have zR := R.2.2.2.2.1.1
  have zR2 := R.2.2.2.2.2.1
  refine PM.of 0 (lo := [.ref 0, .int x0, .int x1]) rfl (by decide) rfl rfl (Nat.le_of_ble_eq_true rfl) ?_
  refine pv_aload_n (M := mX11_dayEnd) 0 dX11_dayEnd_0 1 rfl rfl rfl ?_
  refine pv_iload_n (M := mX11_dayEnd) 1 dX11_dayEnd_1 2 rfl rfl rfl ?_
  refine pv_callv (M := mX11_dayEnd) (as := [.int x0]) (st := []) (kc2 := 0) (ks2 := 0) dX11_dayEnd_2 wd919 YX11_areDeeds ⟨wd921, wd33⟩ (mk_get (tl0 hT)) rfl rfl (s_X11_areDeeds g hT I R x0) rfl rfl (Nat.le_of_ble_eq_true rfl) (by decide) rfl rfl 5 rfl (fun rv h1 q1 => ?_)
  obtain ⟨v2, rfl, rfl, pv2, qv2, rv2⟩ := q1
  replace rv2 : v2 = adv m x0 := rv2
  show PV _ _ _ _ _ _ _ 5 [.ref 0, .int x0, .int x1] [.int v2] _
  refine pv_if_eq (M := mX11_dayEnd) (tgt := 12) dX11_dayEnd_5 8 rfl (by decide) (fun c3 => ?_) (fun c3 => ?_)
  · have c3 := iv_eq (X := v2.toInt) (Y := 0) c3 rfl (by decide)
    refine pv_iconst (M := mX11_dayEnd) (v := (-1)) dX11_dayEnd_12 13 rfl (by decide) ?_
    exact pv_iret (M := mX11_dayEnd) dX11_dayEnd_13 rfl rfl ⟨_, _, _, rfl, rfl, I, Kp, by decide, by decide, trivial⟩
  · have c3 := iv_ne (X := v2.toInt) (Y := 0) c3 rfl (by decide)
    refine pv_iload_n (M := mX11_dayEnd) 1 dX11_dayEnd_8 9 rfl rfl rfl ?_
    refine pv_if_ne (M := mX11_dayEnd) (tgt := 14) dX11_dayEnd_9 12 rfl (by decide) (fun c4 => ?_) (fun c4 => ?_)
    · have c4 := iv_ne (X := x0.toInt) (Y := 0) c4 rfl (by decide)
      refine pv_iload_n (M := mX11_dayEnd) 2 dX11_dayEnd_14 15 rfl rfl rfl ?_
      refine pv_iconst (M := mX11_dayEnd) (v := (-1)) dX11_dayEnd_15 16 rfl (by decide) ?_
      refine pv_icmp_lt (M := mX11_dayEnd) (tgt := 31) dX11_dayEnd_16 19 rfl (by decide) (fun c5 => ?_) (fun c5 => ?_)
      · have c5 := iv_lt (X := x1.toInt) (Y := (-1)) c5 rfl (by decide)
        refine pv_iconst (M := mX11_dayEnd) (v := (-1)) dX11_dayEnd_31 32 rfl (by decide) ?_
        exact pv_iret (M := mX11_dayEnd) dX11_dayEnd_32 rfl rfl ⟨_, _, _, rfl, rfl, I, Kp, by decide, by decide, trivial⟩
      · have c5 := iv_nlt (X := x1.toInt) (Y := (-1)) c5 rfl (by decide)
        refine pv_iload_n (M := mX11_dayEnd) 2 dX11_dayEnd_19 20 rfl rfl rfl ?_
        refine pv_bipush (M := mX11_dayEnd) (v := 8) dX11_dayEnd_20 22 rfl (by decide) ?_
        refine pv_icmp_lt (M := mX11_dayEnd) (tgt := 33) dX11_dayEnd_22 25 rfl (by decide) (fun c6 => ?_) (fun c6 => ?_)
        · have c6 := iv_lt (X := x1.toInt) (Y := 8) c6 rfl (by decide)
          refine pv_iload_n (M := mX11_dayEnd) 2 dX11_dayEnd_33 34 rfl rfl rfl ?_
          refine pv_if_lt (M := mX11_dayEnd) (tgt := 54) dX11_dayEnd_34 37 rfl (by decide) (fun c7 => ?_) (fun c7 => ?_)
          · have c7 := iv_lt (X := x1.toInt) (Y := 0) c7 rfl (by decide)
            refine pv_aload_n (M := mX11_dayEnd) 0 dX11_dayEnd_54 55 rfl rfl rfl ?_
            refine pv_iload_n (M := mX11_dayEnd) 1 dX11_dayEnd_55 56 rfl rfl rfl ?_
            refine pv_callv (M := mX11_dayEnd) (as := [.int x0]) (st := []) (kc2 := 0) (ks2 := 0) dX11_dayEnd_56 wd1082 YX11_weighSharing ⟨wd1084, wd46⟩ (mk_get (tl0 hT)) rfl rfl (s_X11_weighSharing g hT I R x0) rfl rfl (Nat.le_of_ble_eq_true rfl) (by decide) rfl rfl 59 rfl (fun rv h1 q8 => ?_)
            obtain ⟨m9, n10, rfl, rfl, I11, K12, rm9⟩ := q8
            have K12c := K12
            have K12 := Kp.trans (K12.sub (fun _ _ q => q))
            show PV _ _ _ _ _ _ _ 59 [.ref 0, .int x0, .int x1] [] _
            refine pv_aload_n (M := mX11_dayEnd) 0 dX11_dayEnd_59 60 rfl rfl rfl ?_
            refine mv_get (M := mX11_dayEnd) (v := .ref 116) dX11_dayEnd_60 FX11 13 wd420 (by decide) (tl0 hT) rfl rfl 63 rfl ?_
            refine pv_iconst (M := mX11_dayEnd) (v := 0) dX11_dayEnd_63 64 rfl (by decide) ?_
            refine pv_callv (M := mX11_dayEnd) (as := [.int 0]) (st := []) (kc2 := 0) (ks2 := 0) dX11_dayEnd_64 wd1100 YX9_trace ⟨wd1101, wd1102⟩ (mk_get (tl116 hT)) rfl rfl (s_X9_trace g hT I11 0) rfl rfl (Nat.le_of_ble_eq_true rfl) (by decide) rfl rfl 67 rfl (fun rv h1 q13 => ?_)
            obtain ⟨m14, n15, rfl, rfl, I16, K17, rm14⟩ := q13
            have K17c := K17
            have K17 := K12.trans (K17.sub (by first | exact wg_l (by decide) | exact wg_g (by decide) | exact WX_wg | exact la7_wg zR (by decide) | exact wsL_wg zR (by decide)))
            show PV _ _ _ _ _ _ _ 67 [.ref 0, .int x0, .int x1] [] _
            refine pv_iload_n (M := mX11_dayEnd) 2 dX11_dayEnd_67 68 rfl rfl rfl ?_
            refine pv_iconst (M := mX11_dayEnd) (v := (-1)) dX11_dayEnd_68 69 rfl (by decide) ?_
            refine pv_icmp_ne (M := mX11_dayEnd) (tgt := 80) dX11_dayEnd_69 72 rfl (by decide) (fun c18 => ?_) (fun c18 => ?_)
            · have c18 := iv_ne (X := x1.toInt) (Y := (-1)) c18 rfl (by decide)
              omega
            · have c18 := iv_eq (X := x1.toInt) (Y := (-1)) c18 rfl (by decide)
              refine pv_aload_n (M := mX11_dayEnd) 0 dX11_dayEnd_72 73 rfl rfl rfl ?_
              refine mv_get (M := mX11_dayEnd) (v := .ref 116) dX11_dayEnd_73 FX11 13 wd420 (by decide) (tl0 hT) rfl rfl 76 rfl ?_
              refine iv_get (M := mX11_dayEnd) (l1 := (-2147483648)) (l2 := 2147483647) dX11_dayEnd_76 FX9 1 wd391 (by decide) (tl116 hT) rfl I16 rfl 79 rfl (fun v19 ev19 pv19 qv19 => ?_)
              exact pv_iret (M := mX11_dayEnd) dX11_dayEnd_79 rfl rfl ⟨_, _, _, rfl, rfl, I16, K17, (iv_rng v19).1, (iv_rng v19).2, trivial⟩
          · have c7 := iv_nlt (X := x1.toInt) (Y := 0) c7 rfl (by decide)
            refine pv_iload_n (M := mX11_dayEnd) 2 dX11_dayEnd_37 38 rfl rfl rfl ?_
            refine pv_bipush (M := mX11_dayEnd) (v := 8) dX11_dayEnd_38 40 rfl (by decide) ?_
            refine pv_icmp_ge (M := mX11_dayEnd) (tgt := 54) dX11_dayEnd_40 43 rfl (by decide) (fun c20 => ?_) (fun c20 => ?_)
            · have c20 := iv_le (X := 8) (Y := x1.toInt) c20 (by decide) rfl
              omega
            · have c20 := iv_nle (X := 8) (Y := x1.toInt) c20 (by decide) rfl
              refine pv_iload_n (M := mX11_dayEnd) 1 dX11_dayEnd_43 44 rfl rfl rfl ?_
              refine pv_iload_n (M := mX11_dayEnd) 2 dX11_dayEnd_44 45 rfl rfl rfl ?_
              refine pv_calls (M := mX11_dayEnd) (as := [.int x0, .int x1]) (st := []) (kc2 := 0) (ks2 := 0) dX11_dayEnd_45 wd931 YX11_isAmong wd932 (s_X11_isAmong g hT I x0 x1) rfl rfl (Nat.le_of_ble_eq_true rfl) (by decide) rfl rfl 48 rfl (fun rv h1 q21 => ?_)
              obtain ⟨v22, rfl, rfl, pv22, qv22, rv22⟩ := q21
              replace rv22 : v22 = amv x0 x1 := rv22
              show PV _ _ _ _ _ _ _ 48 [.ref 0, .int x0, .int x1] [.int v22] _
              refine pv_if_ne (M := mX11_dayEnd) (tgt := 54) dX11_dayEnd_48 51 rfl (by decide) (fun c23 => ?_) (fun c23 => ?_)
              · have c23 := iv_ne (X := v22.toInt) (Y := 0) c23 rfl (by decide)
                refine pv_aload_n (M := mX11_dayEnd) 0 dX11_dayEnd_54 55 rfl rfl rfl ?_
                refine pv_iload_n (M := mX11_dayEnd) 1 dX11_dayEnd_55 56 rfl rfl rfl ?_
                refine pv_callv (M := mX11_dayEnd) (as := [.int x0]) (st := []) (kc2 := 0) (ks2 := 0) dX11_dayEnd_56 wd1082 YX11_weighSharing ⟨wd1084, wd46⟩ (mk_get (tl0 hT)) rfl rfl (s_X11_weighSharing g hT I R x0) rfl rfl (Nat.le_of_ble_eq_true rfl) (by decide) rfl rfl 59 rfl (fun rv h1 q24 => ?_)
                obtain ⟨m25, n26, rfl, rfl, I27, K28, rm25⟩ := q24
                have K28c := K28
                have K28 := Kp.trans (K28.sub (fun _ _ q => q))
                show PV _ _ _ _ _ _ _ 59 [.ref 0, .int x0, .int x1] [] _
                refine pv_aload_n (M := mX11_dayEnd) 0 dX11_dayEnd_59 60 rfl rfl rfl ?_
                refine mv_get (M := mX11_dayEnd) (v := .ref 116) dX11_dayEnd_60 FX11 13 wd420 (by decide) (tl0 hT) rfl rfl 63 rfl ?_
                refine pv_iconst (M := mX11_dayEnd) (v := 0) dX11_dayEnd_63 64 rfl (by decide) ?_
                refine pv_callv (M := mX11_dayEnd) (as := [.int 0]) (st := []) (kc2 := 0) (ks2 := 0) dX11_dayEnd_64 wd1100 YX9_trace ⟨wd1101, wd1102⟩ (mk_get (tl116 hT)) rfl rfl (s_X9_trace g hT I27 0) rfl rfl (Nat.le_of_ble_eq_true rfl) (by decide) rfl rfl 67 rfl (fun rv h1 q29 => ?_)
                obtain ⟨m30, n31, rfl, rfl, I32, K33, rm30⟩ := q29
                have K33c := K33
                have K33 := K28.trans (K33.sub (by first | exact wg_l (by decide) | exact wg_g (by decide) | exact WX_wg | exact la7_wg zR (by decide) | exact wsL_wg zR (by decide)))
                show PV _ _ _ _ _ _ _ 67 [.ref 0, .int x0, .int x1] [] _
                refine pv_iload_n (M := mX11_dayEnd) 2 dX11_dayEnd_67 68 rfl rfl rfl ?_
                refine pv_iconst (M := mX11_dayEnd) (v := (-1)) dX11_dayEnd_68 69 rfl (by decide) ?_
                refine pv_icmp_ne (M := mX11_dayEnd) (tgt := 80) dX11_dayEnd_69 72 rfl (by decide) (fun c34 => ?_) (fun c34 => ?_)
                · have c34 := iv_ne (X := x1.toInt) (Y := (-1)) c34 rfl (by decide)
                  refine pv_iload_n (M := mX11_dayEnd) 2 dX11_dayEnd_80 81 rfl rfl rfl ?_
                  refine pv_bipush (M := mX11_dayEnd) (v := 10) dX11_dayEnd_81 83 rfl (by decide) ?_
                  refine pv_icmp_ne (M := mX11_dayEnd) (tgt := 96) dX11_dayEnd_83 86 rfl (by decide) (fun c35 => ?_) (fun c35 => ?_)
                  · have c35 := iv_ne (X := x1.toInt) (Y := 10) c35 rfl (by decide)
                    refine pv_aload_n (M := mX11_dayEnd) 0 dX11_dayEnd_96 97 rfl rfl rfl ?_
                    refine mv_get (M := mX11_dayEnd) (v := .ref 116) dX11_dayEnd_97 FX11 13 wd420 (by decide) (tl0 hT) rfl rfl 100 rfl ?_
                    refine mv_get (M := mX11_dayEnd) (v := .ref 117) dX11_dayEnd_100 FX9 0 wd389 (by decide) (tl116 hT) rfl rfl 103 rfl ?_
                    refine pv_iload_n (M := mX11_dayEnd) 2 dX11_dayEnd_103 104 rfl rfl rfl ?_
                    refine iv_iald (M := mX11_dayEnd) (X := x1.toInt) (l1 := (-2147483648)) (l2 := 2147483647) dX11_dayEnd_104 (tl117 hT) rfl (by omega) (by omega) I32 (fun _ => rfl) 105 rfl (fun v36 ev36 pv36 qv36 => ?_)
                    exact pv_iret (M := mX11_dayEnd) dX11_dayEnd_105 rfl rfl ⟨_, _, _, rfl, rfl, I32, K33, (iv_rng v36).1, (iv_rng v36).2, trivial⟩
                  · have c35 := iv_eq (X := x1.toInt) (Y := 10) c35 rfl (by decide)
                    omega
                · have c34 := iv_eq (X := x1.toInt) (Y := (-1)) c34 rfl (by decide)
                  omega
              · have c23 := iv_eq (X := v22.toInt) (Y := 0) c23 rfl (by decide)
                refine pv_bipush (M := mX11_dayEnd) (v := (-2)) dX11_dayEnd_51 53 rfl (by decide) ?_
                exact pv_iret (M := mX11_dayEnd) dX11_dayEnd_53 rfl rfl ⟨_, _, _, rfl, rfl, I, Kp, by decide, by decide, trivial⟩
        · have c6 := iv_nlt (X := x1.toInt) (Y := 8) c6 rfl (by decide)
          refine pv_iload_n (M := mX11_dayEnd) 2 dX11_dayEnd_25 26 rfl rfl rfl ?_
          refine pv_bipush (M := mX11_dayEnd) (v := 10) dX11_dayEnd_26 28 rfl (by decide) ?_
          refine pv_icmp_eq (M := mX11_dayEnd) (tgt := 33) dX11_dayEnd_28 31 rfl (by decide) (fun c37 => ?_) (fun c37 => ?_)
          · have c37 := iv_eq (X := x1.toInt) (Y := 10) c37 rfl (by decide)
            refine pv_iload_n (M := mX11_dayEnd) 2 dX11_dayEnd_33 34 rfl rfl rfl ?_
            refine pv_if_lt (M := mX11_dayEnd) (tgt := 54) dX11_dayEnd_34 37 rfl (by decide) (fun c38 => ?_) (fun c38 => ?_)
            · have c38 := iv_lt (X := x1.toInt) (Y := 0) c38 rfl (by decide)
              omega
            · have c38 := iv_nlt (X := x1.toInt) (Y := 0) c38 rfl (by decide)
              refine pv_iload_n (M := mX11_dayEnd) 2 dX11_dayEnd_37 38 rfl rfl rfl ?_
              refine pv_bipush (M := mX11_dayEnd) (v := 8) dX11_dayEnd_38 40 rfl (by decide) ?_
              refine pv_icmp_ge (M := mX11_dayEnd) (tgt := 54) dX11_dayEnd_40 43 rfl (by decide) (fun c39 => ?_) (fun c39 => ?_)
              · have c39 := iv_le (X := 8) (Y := x1.toInt) c39 (by decide) rfl
                refine pv_aload_n (M := mX11_dayEnd) 0 dX11_dayEnd_54 55 rfl rfl rfl ?_
                refine pv_iload_n (M := mX11_dayEnd) 1 dX11_dayEnd_55 56 rfl rfl rfl ?_
                refine pv_callv (M := mX11_dayEnd) (as := [.int x0]) (st := []) (kc2 := 0) (ks2 := 0) dX11_dayEnd_56 wd1082 YX11_weighSharing ⟨wd1084, wd46⟩ (mk_get (tl0 hT)) rfl rfl (s_X11_weighSharing g hT I R x0) rfl rfl (Nat.le_of_ble_eq_true rfl) (by decide) rfl rfl 59 rfl (fun rv h1 q40 => ?_)
                obtain ⟨m41, n42, rfl, rfl, I43, K44, rm41⟩ := q40
                have K44c := K44
                have K44 := Kp.trans (K44.sub (fun _ _ q => q))
                show PV _ _ _ _ _ _ _ 59 [.ref 0, .int x0, .int x1] [] _
                refine pv_aload_n (M := mX11_dayEnd) 0 dX11_dayEnd_59 60 rfl rfl rfl ?_
                refine mv_get (M := mX11_dayEnd) (v := .ref 116) dX11_dayEnd_60 FX11 13 wd420 (by decide) (tl0 hT) rfl rfl 63 rfl ?_
                refine pv_iconst (M := mX11_dayEnd) (v := 0) dX11_dayEnd_63 64 rfl (by decide) ?_
                refine pv_callv (M := mX11_dayEnd) (as := [.int 0]) (st := []) (kc2 := 0) (ks2 := 0) dX11_dayEnd_64 wd1100 YX9_trace ⟨wd1101, wd1102⟩ (mk_get (tl116 hT)) rfl rfl (s_X9_trace g hT I43 0) rfl rfl (Nat.le_of_ble_eq_true rfl) (by decide) rfl rfl 67 rfl (fun rv h1 q45 => ?_)
                obtain ⟨m46, n47, rfl, rfl, I48, K49, rm46⟩ := q45
                have K49c := K49
                have K49 := K44.trans (K49.sub (by first | exact wg_l (by decide) | exact wg_g (by decide) | exact WX_wg | exact la7_wg zR (by decide) | exact wsL_wg zR (by decide)))
                show PV _ _ _ _ _ _ _ 67 [.ref 0, .int x0, .int x1] [] _
                refine pv_iload_n (M := mX11_dayEnd) 2 dX11_dayEnd_67 68 rfl rfl rfl ?_
                refine pv_iconst (M := mX11_dayEnd) (v := (-1)) dX11_dayEnd_68 69 rfl (by decide) ?_
                refine pv_icmp_ne (M := mX11_dayEnd) (tgt := 80) dX11_dayEnd_69 72 rfl (by decide) (fun c50 => ?_) (fun c50 => ?_)
                · have c50 := iv_ne (X := x1.toInt) (Y := (-1)) c50 rfl (by decide)
                  refine pv_iload_n (M := mX11_dayEnd) 2 dX11_dayEnd_80 81 rfl rfl rfl ?_
                  refine pv_bipush (M := mX11_dayEnd) (v := 10) dX11_dayEnd_81 83 rfl (by decide) ?_
                  refine pv_icmp_ne (M := mX11_dayEnd) (tgt := 96) dX11_dayEnd_83 86 rfl (by decide) (fun c51 => ?_) (fun c51 => ?_)
                  · have c51 := iv_ne (X := x1.toInt) (Y := 10) c51 rfl (by decide)
                    omega
                  · have c51 := iv_eq (X := x1.toInt) (Y := 10) c51 rfl (by decide)
                    refine pv_aload_n (M := mX11_dayEnd) 0 dX11_dayEnd_86 87 rfl rfl rfl ?_
                    refine mv_get (M := mX11_dayEnd) (v := .ref 116) dX11_dayEnd_87 FX11 13 wd420 (by decide) (tl0 hT) rfl rfl 90 rfl ?_
                    refine iv_get (M := mX11_dayEnd) (l1 := (-2147483648)) (l2 := 2147483647) dX11_dayEnd_90 FX9 2 wd393 (by decide) (tl116 hT) rfl I48 rfl 93 rfl (fun v52 ev52 pv52 qv52 => ?_)
                    refine pv_goto (M := mX11_dayEnd) (tgt := 105) dX11_dayEnd_93 (by decide) ?_
                    exact pv_iret (M := mX11_dayEnd) dX11_dayEnd_105 rfl rfl ⟨_, _, _, rfl, rfl, I48, K49, (iv_rng v52).1, (iv_rng v52).2, trivial⟩
                · have c50 := iv_eq (X := x1.toInt) (Y := (-1)) c50 rfl (by decide)
                  omega
              · have c39 := iv_nle (X := 8) (Y := x1.toInt) c39 (by decide) rfl
                omega
          · have c37 := iv_ne (X := x1.toInt) (Y := 10) c37 rfl (by decide)
            refine pv_iconst (M := mX11_dayEnd) (v := (-1)) dX11_dayEnd_31 32 rfl (by decide) ?_
            exact pv_iret (M := mX11_dayEnd) dX11_dayEnd_32 rfl rfl ⟨_, _, _, rfl, rfl, I, Kp, by decide, by decide, trivial⟩
    · have c4 := iv_eq (X := x0.toInt) (Y := 0) c4 rfl (by decide)
      refine pv_iconst (M := mX11_dayEnd) (v := (-1)) dX11_dayEnd_12 13 rfl (by decide) ?_
      exact pv_iret (M := mX11_dayEnd) dX11_dayEnd_13 rfl rfl ⟨_, _, _, rfl, rfl, I, Kp, by decide, by decide, trivial⟩

set_option maxHeartbeats 2000000 in
set_option maxRecDepth 20000 in
theorem s_X11_worth (g : pv_G) {T : List mv_T} {m : Nat → Nat → Int32} {n : Nat → Nat → Int64} {r : Nat → Value} {la lb : Nat} (hT : TX T) (I : IV BB m) (R : RX T r la lb) (x0 : Int32) (x1 : Int32) (x2 : Int32) : PM g mX11_worth yX11_worth (sqI T BB wN r m (-2147483648) 2147483647 (fun m' v => True)) 4 0 0 [.ref 0, .int x0, .int x1, .int x2] (mk T m n r) := by
  have Kp : fr wN m m := fr.rf
  have R0 := R
  have zR := R.2.2.2.2.1.1
  have zR2 := R.2.2.2.2.2.1
  refine PM.of 2 (lo := [.ref 0, .int x0, .int x1, .int x2, pv_U, pv_U]) rfl (by decide) rfl rfl (Nat.le_of_ble_eq_true rfl) ?_
  refine pv_aload_n (M := mX11_worth) 0 dX11_worth_0 1 rfl rfl rfl ?_
  refine pv_iload_n (M := mX11_worth) 1 dX11_worth_1 2 rfl rfl rfl ?_
  refine pv_callv (M := mX11_worth) (as := [.int x0]) (st := []) (kc2 := 0) (ks2 := 0) dX11_worth_2 wd700 YX11_isBlank ⟨wd702, wd16⟩ (mk_get (tl0 hT)) rfl rfl (s_X11_isBlank g hT I R x0) rfl rfl (Nat.le_of_ble_eq_true rfl) (by decide) rfl rfl 5 rfl (fun rv h1 q1 => ?_)
  obtain ⟨v2, rfl, rfl, pv2, qv2, rv2⟩ := q1
  replace rv2 : v2 = 0 ∨ (0 ≤ x0.toInt ∧ x0.toInt ≤ 7) := rv2
  show PV _ _ _ _ _ _ _ 5 [.ref 0, .int x0, .int x1, .int x2, pv_U, pv_U] [.int v2] _
  refine pv_if_eq (M := mX11_worth) (tgt := 25) dX11_worth_5 8 rfl (by decide) (fun c3 => ?_) (fun c3 => ?_)
  · have c3 := iv_eq (X := v2.toInt) (Y := 0) c3 rfl (by decide)
    refine pv_sipush (M := mX11_worth) (v := (-1000)) dX11_worth_25 28 rfl (by decide) ?_
    exact pv_iret (M := mX11_worth) dX11_worth_28 rfl rfl ⟨_, _, _, rfl, rfl, I, Kp, by decide, by decide, trivial⟩
  · have pc3 := rv2.resolve_left c3
    have c3 := iv_ne (X := v2.toInt) (Y := 0) c3 rfl (by decide)
    refine pv_aload_n (M := mX11_worth) 0 dX11_worth_8 9 rfl rfl rfl ?_
    refine pv_iload_n (M := mX11_worth) 2 dX11_worth_9 10 rfl rfl rfl ?_
    refine pv_callv (M := mX11_worth) (as := [.int x1]) (st := []) (kc2 := 0) (ks2 := 0) dX11_worth_10 wd919 YX11_areDeeds ⟨wd921, wd33⟩ (mk_get (tl0 hT)) rfl rfl (s_X11_areDeeds g hT I R x1) rfl rfl (Nat.le_of_ble_eq_true rfl) (by decide) rfl rfl 13 rfl (fun rv h1 q4 => ?_)
    obtain ⟨v5, rfl, rfl, pv5, qv5, rv5⟩ := q4
    replace rv5 : v5 = adv m x1 := rv5
    show PV _ _ _ _ _ _ _ 13 [.ref 0, .int x0, .int x1, .int x2, pv_U, pv_U] [.int v5] _
    refine pv_if_eq (M := mX11_worth) (tgt := 25) dX11_worth_13 16 rfl (by decide) (fun c6 => ?_) (fun c6 => ?_)
    · have c6 := iv_eq (X := v5.toInt) (Y := 0) c6 rfl (by decide)
      refine pv_sipush (M := mX11_worth) (v := (-1000)) dX11_worth_25 28 rfl (by decide) ?_
      exact pv_iret (M := mX11_worth) dX11_worth_28 rfl rfl ⟨_, _, _, rfl, rfl, I, Kp, by decide, by decide, trivial⟩
    · have c6 := iv_ne (X := v5.toInt) (Y := 0) c6 rfl (by decide)
      refine pv_iload_n (M := mX11_worth) 3 dX11_worth_16 17 rfl rfl rfl ?_
      refine pv_if_lt (M := mX11_worth) (tgt := 25) dX11_worth_17 20 rfl (by decide) (fun c7 => ?_) (fun c7 => ?_)
      · have c7 := iv_lt (X := x2.toInt) (Y := 0) c7 rfl (by decide)
        refine pv_sipush (M := mX11_worth) (v := (-1000)) dX11_worth_25 28 rfl (by decide) ?_
        exact pv_iret (M := mX11_worth) dX11_worth_28 rfl rfl ⟨_, _, _, rfl, rfl, I, Kp, by decide, by decide, trivial⟩
      · have c7 := iv_nlt (X := x2.toInt) (Y := 0) c7 rfl (by decide)
        refine pv_iload_n (M := mX11_worth) 3 dX11_worth_20 21 rfl rfl rfl ?_
        refine pv_iconst (M := mX11_worth) (v := 1) dX11_worth_21 22 rfl (by decide) ?_
        refine pv_icmp_le (M := mX11_worth) (tgt := 29) dX11_worth_22 25 rfl (by decide) (fun c8 => ?_) (fun c8 => ?_)
        · have c8 := iv_le (X := x2.toInt) (Y := 1) c8 rfl (by decide)
          refine pv_aload_n (M := mX11_worth) 0 dX11_worth_29 30 rfl rfl rfl ?_
          refine pv_iload_n (M := mX11_worth) 2 dX11_worth_30 31 rfl rfl rfl ?_
          refine pv_callv (M := mX11_worth) (as := [.int x1]) (st := []) (kc2 := 0) (ks2 := 0) dX11_worth_31 wd1082 YX11_weighSharing ⟨wd1084, wd46⟩ (mk_get (tl0 hT)) rfl rfl (s_X11_weighSharing g hT I R x1) rfl rfl (Nat.le_of_ble_eq_true rfl) (by decide) rfl rfl 34 rfl (fun rv h1 q9 => ?_)
          obtain ⟨m10, n11, rfl, rfl, I12, K13, rm10⟩ := q9
          have K13c := K13
          have K13 := Kp.trans (K13.sub (fun _ _ q => q))
          show PV _ _ _ _ _ _ _ 34 [.ref 0, .int x0, .int x1, .int x2, pv_U, pv_U] [] _
          refine pv_aload_n (M := mX11_worth) 0 dX11_worth_34 35 rfl rfl rfl ?_
          refine mv_get (M := mX11_worth) (v := .ref 116) dX11_worth_35 FX11 13 wd420 (by decide) (tl0 hT) rfl rfl 38 rfl ?_
          refine pv_iconst (M := mX11_worth) (v := 0) dX11_worth_38 39 rfl (by decide) ?_
          refine pv_callv (M := mX11_worth) (as := [.int 0]) (st := []) (kc2 := 0) (ks2 := 0) dX11_worth_39 wd1100 YX9_trace ⟨wd1101, wd1102⟩ (mk_get (tl116 hT)) rfl rfl (s_X9_trace g hT I12 0) rfl rfl (Nat.le_of_ble_eq_true rfl) (by decide) rfl rfl 42 rfl (fun rv h1 q14 => ?_)
          obtain ⟨m15, n16, rfl, rfl, I17, K18, rm15⟩ := q14
          have K18c := K18
          have K18 := K13.trans (K18.sub (by first | exact wg_l (by decide) | exact wg_g (by decide) | exact WX_wg | exact la7_wg zR (by decide) | exact wsL_wg zR (by decide)))
          show PV _ _ _ _ _ _ _ 42 [.ref 0, .int x0, .int x1, .int x2, pv_U, pv_U] [] _
          refine pv_aload_n (M := mX11_worth) 0 dX11_worth_42 43 rfl rfl rfl ?_
          refine mv_get (M := mX11_worth) (v := .ref 116) dX11_worth_43 FX11 13 wd420 (by decide) (tl0 hT) rfl rfl 46 rfl ?_
          refine iv_get (M := mX11_worth) (l1 := (-2147483648)) (l2 := 2147483647) dX11_worth_46 FX9 1 wd391 (by decide) (tl116 hT) rfl I17 rfl 49 rfl (fun v19 ev19 pv19 qv19 => ?_)
          refine pv_istore (M := mX11_worth) (lo2 := [.ref 0, .int x0, .int x1, .int x2, .int v19, pv_U]) dX11_worth_49 51 rfl (by decide) rfl rfl ?_
          refine pv_aload_n (M := mX11_worth) 0 dX11_worth_51 52 rfl rfl rfl ?_
          refine mv_get (M := mX11_worth) (v := .ref 116) dX11_worth_52 FX11 13 wd420 (by decide) (tl0 hT) rfl rfl 55 rfl ?_
          refine iv_get (M := mX11_worth) (l1 := (-2147483648)) (l2 := 2147483647) dX11_worth_55 FX9 2 wd393 (by decide) (tl116 hT) rfl I17 rfl 58 rfl (fun v20 ev20 pv20 qv20 => ?_)
          refine pv_istore (M := mX11_worth) (lo2 := [.ref 0, .int x0, .int x1, .int x2, .int v19, .int v20]) dX11_worth_58 60 rfl (by decide) rfl rfl ?_
          refine pv_aload_n (M := mX11_worth) 0 dX11_worth_60 61 rfl rfl rfl ?_
          refine mv_get (M := mX11_worth) (v := .ref 116) dX11_worth_61 FX11 13 wd420 (by decide) (tl0 hT) rfl rfl 64 rfl ?_
          refine pv_iconst (M := mX11_worth) (v := 1) dX11_worth_64 65 rfl (by decide) ?_
          refine pv_iload_n (M := mX11_worth) 1 dX11_worth_65 66 rfl rfl rfl ?_
          refine iv_shlU (M := mX11_worth) dX11_worth_66 67 rfl (fun v21 ev21 => ?_)
          have pv21 : 1 ≤ v21.toInt ∧ v21.toInt ≤ 128 := by rw [ev21]; exact iv_sh17 (by omega) (by omega)
          refine pv_callv (M := mX11_worth) (as := [.int v21]) (st := []) (kc2 := 0) (ks2 := 0) dX11_worth_67 wd1100 YX9_trace ⟨wd1101, wd1102⟩ (mk_get (tl116 hT)) rfl rfl (s_X9_trace g hT I17 v21) rfl rfl (Nat.le_of_ble_eq_true rfl) (by decide) rfl rfl 70 rfl (fun rv h1 q22 => ?_)
          obtain ⟨m23, n24, rfl, rfl, I25, K26, rm23⟩ := q22
          have K26c := K26
          have K26 := K18.trans (K26.sub (by first | exact wg_l (by decide) | exact wg_g (by decide) | exact WX_wg | exact la7_wg zR (by decide) | exact wsL_wg zR (by decide)))
          show PV _ _ _ _ _ _ _ 70 [.ref 0, .int x0, .int x1, .int x2, .int v19, .int v20] [] _
          refine pv_iload_n (M := mX11_worth) 3 dX11_worth_70 71 rfl rfl rfl ?_
          refine pv_if_ne (M := mX11_worth) (tgt := 87) dX11_worth_71 74 rfl (by decide) (fun c27 => ?_) (fun c27 => ?_)
          · have c27 := iv_ne (X := x2.toInt) (Y := 0) c27 rfl (by decide)
            refine pv_aload_n (M := mX11_worth) 0 dX11_worth_87 88 rfl rfl rfl ?_
            refine mv_get (M := mX11_worth) (v := .ref 116) dX11_worth_88 FX11 13 wd420 (by decide) (tl0 hT) rfl rfl 91 rfl ?_
            refine iv_get (M := mX11_worth) (l1 := (-2147483648)) (l2 := 2147483647) dX11_worth_91 FX9 2 wd393 (by decide) (tl116 hT) rfl I25 rfl 94 rfl (fun v28 ev28 pv28 qv28 => ?_)
            refine pv_iload (M := mX11_worth) dX11_worth_94 96 rfl rfl ?_
            refine iv_subU (M := mX11_worth) dX11_worth_96 97 rfl (fun v29 ev29 => ?_)
            exact pv_iret (M := mX11_worth) dX11_worth_97 rfl rfl ⟨_, _, _, rfl, rfl, I25, K26, (iv_rng v29).1, (iv_rng v29).2, trivial⟩
          · have c27 := iv_eq (X := x2.toInt) (Y := 0) c27 rfl (by decide)
            refine pv_iload (M := mX11_worth) dX11_worth_74 76 rfl rfl ?_
            refine pv_aload_n (M := mX11_worth) 0 dX11_worth_76 77 rfl rfl rfl ?_
            refine mv_get (M := mX11_worth) (v := .ref 116) dX11_worth_77 FX11 13 wd420 (by decide) (tl0 hT) rfl rfl 80 rfl ?_
            refine iv_get (M := mX11_worth) (l1 := (-2147483648)) (l2 := 2147483647) dX11_worth_80 FX9 1 wd391 (by decide) (tl116 hT) rfl I25 rfl 83 rfl (fun v30 ev30 pv30 qv30 => ?_)
            refine iv_subU (M := mX11_worth) dX11_worth_83 84 rfl (fun v31 ev31 => ?_)
            refine pv_goto (M := mX11_worth) (tgt := 97) dX11_worth_84 (by decide) ?_
            exact pv_iret (M := mX11_worth) dX11_worth_97 rfl rfl ⟨_, _, _, rfl, rfl, I25, K26, (iv_rng v31).1, (iv_rng v31).2, trivial⟩
        · have c8 := iv_nle (X := x2.toInt) (Y := 1) c8 rfl (by decide)
          refine pv_sipush (M := mX11_worth) (v := (-1000)) dX11_worth_25 28 rfl (by decide) ?_
          exact pv_iret (M := mX11_worth) dX11_worth_28 rfl rfl ⟨_, _, _, rfl, rfl, I, Kp, by decide, by decide, trivial⟩

set_option maxHeartbeats 2000000 in
set_option maxRecDepth 20000 in
theorem s_X11_descends (g : pv_G) {T : List mv_T} {m : Nat → Nat → Int32} {n : Nat → Nat → Int64} {r : Nat → Value} {la lb : Nat} (hT : TX T) (I : IV BB m) (R : RX T r la lb) (x0 : Int32) (hl0 : 0 ≤ x0.toInt) (hh0 : x0.toInt ≤ 7) (x1 : Int32) (hl1 : 0 ≤ x1.toInt) (hh1 : x1.toInt ≤ 7) : PM g mX11_descends yX11_descends (sqP (mk T m n r) 0 1 (fun v => True)) 3 0 0 [.ref 0, .int x0, .int x1] (mk T m n r) := by
  have Kp : fr (wl []) m m := fr.rf
  have R0 := R
  have zR := R.2.2.2.2.1.1
  have zR2 := R.2.2.2.2.2.1
  refine PM.of 1 (lo := [.ref 0, .int x0, .int x1, pv_U]) rfl (by decide) rfl rfl (Nat.le_of_ble_eq_true rfl) ?_
  refine pv_aload_n (M := mX11_descends) 0 dX11_descends_0 1 rfl rfl rfl ?_
  refine mv_get (M := mX11_descends) (v := .ref 60) dX11_descends_1 FX11 3 wd410 (by decide) (tl0 hT) rfl rfl 4 rfl ?_
  refine pv_iload_n (M := mX11_descends) 2 dX11_descends_4 5 rfl rfl rfl ?_
  refine iv_qdeed (M := mX11_descends) (X := x1.toInt) dX11_descends_5 hT R rfl (by omega) (by omega) 6 rfl (fun b1 eb1 hb1 => ?_)
  have zb1 := hb1.2.2.2.2
  refine iv_get (M := mX11_descends) (l1 := 0) (l2 := 16) dX11_descends_6 FX8 1 wd200 (by decide) hb1.1 rfl I hb1.2.2.1 9 rfl (fun v2 ev2 pv2 qv2 => ?_)
  refine pv_aload_n (M := mX11_descends) 0 dX11_descends_9 10 rfl rfl rfl ?_
  refine mv_get (M := mX11_descends) (v := .ref 60) dX11_descends_10 FX11 3 wd410 (by decide) (tl0 hT) rfl rfl 13 rfl ?_
  refine pv_iload_n (M := mX11_descends) 1 dX11_descends_13 14 rfl rfl rfl ?_
  refine iv_qdeed (M := mX11_descends) (X := x0.toInt) dX11_descends_14 hT R rfl (by omega) (by omega) 15 rfl (fun b3 eb3 hb3 => ?_)
  have zb3 := hb3.2.2.2.2
  refine iv_get (M := mX11_descends) (l1 := 0) (l2 := 16) dX11_descends_15 FX8 1 wd200 (by decide) hb3.1 rfl I hb3.2.2.1 18 rfl (fun v4 ev4 pv4 qv4 => ?_)
  refine iv_isub (M := mX11_descends) (X := v2.toInt) (Y := v4.toInt) dX11_descends_18 19 rfl rfl rfl (by omega) (by omega) (fun v5 ev5 => ?_)
  refine pv_istore_n (M := mX11_descends) 3 (lo2 := [.ref 0, .int x0, .int x1, .int v5]) dX11_descends_19 20 rfl rfl (by decide) rfl rfl ?_
  refine pv_iload_n (M := mX11_descends) 3 dX11_descends_20 21 rfl rfl rfl ?_
  refine pv_if_lt (M := mX11_descends) (tgt := 33) dX11_descends_21 24 rfl (by decide) (fun c6 => ?_) (fun c6 => ?_)
  · have c6 := iv_lt (X := v5.toInt) (Y := 0) c6 rfl (by decide)
    refine pv_iconst (M := mX11_descends) (v := 0) dX11_descends_33 34 rfl (by decide) ?_
    exact pv_iret (M := mX11_descends) dX11_descends_34 rfl rfl ⟨_, rfl, rfl, by decide, by decide, trivial⟩
  · have c6 := iv_nlt (X := v5.toInt) (Y := 0) c6 rfl (by decide)
    refine pv_iload_n (M := mX11_descends) 3 dX11_descends_24 25 rfl rfl rfl ?_
    refine pv_if_ne (M := mX11_descends) (tgt := 35) dX11_descends_25 28 rfl (by decide) (fun c7 => ?_) (fun c7 => ?_)
    · have c7 := iv_ne (X := v5.toInt) (Y := 0) c7 rfl (by decide)
      refine pv_aload_n (M := mX11_descends) 0 dX11_descends_35 36 rfl rfl rfl ?_
      refine mv_get (M := mX11_descends) (v := .ref 60) dX11_descends_36 FX11 3 wd410 (by decide) (tl0 hT) rfl rfl 39 rfl ?_
      refine pv_iload_n (M := mX11_descends) 1 dX11_descends_39 40 rfl rfl rfl ?_
      refine iv_qdeed (M := mX11_descends) (X := x0.toInt) dX11_descends_40 hT R rfl (by omega) (by omega) 41 rfl (fun b8 eb8 hb8 => ?_)
      have zb8 := hb8.2.2.2.2
      refine pv_aload_n (M := mX11_descends) 0 dX11_descends_41 42 rfl rfl rfl ?_
      refine mv_get (M := mX11_descends) (v := .ref 60) dX11_descends_42 FX11 3 wd410 (by decide) (tl0 hT) rfl rfl 45 rfl ?_
      refine pv_iload_n (M := mX11_descends) 2 dX11_descends_45 46 rfl rfl rfl ?_
      refine iv_qdeed (M := mX11_descends) (X := x1.toInt) dX11_descends_46 hT R rfl (by omega) (by omega) 47 rfl (fun b9 eb9 hb9 => ?_)
      have zb9 := hb9.2.2.2.2
      refine pv_callv (M := mX11_descends) (as := [.ref b9]) (st := []) (kc2 := 0) (ks2 := 0) dX11_descends_47 wd1060 YX8_comesFrom ⟨wd1061, wd1062⟩ (mk_get hb8.1) rfl rfl (s_X8_comesFrom g hT I b8 16 hb8 b9 16 hb9) rfl rfl (Nat.le_of_ble_eq_true rfl) (by decide) rfl rfl 50 rfl (fun rv h1 q10 => ?_)
      obtain ⟨v11, rfl, rfl, pv11, qv11, rv11⟩ := q10
      show PV _ _ _ _ _ _ _ 50 [.ref 0, .int x0, .int x1, .int v5] [.int v11] _
      exact pv_iret (M := mX11_descends) dX11_descends_50 rfl (iv_nz (by omega) (by omega)) ⟨_, rfl, rfl, by omega, by omega, trivial⟩
    · have c7 := iv_eq (X := v5.toInt) (Y := 0) c7 rfl (by decide)
      refine pv_iload_n (M := mX11_descends) 2 dX11_descends_28 29 rfl rfl rfl ?_
      refine pv_iload_n (M := mX11_descends) 1 dX11_descends_29 30 rfl rfl rfl ?_
      refine pv_icmp_lt (M := mX11_descends) (tgt := 35) dX11_descends_30 33 rfl (by decide) (fun c12 => ?_) (fun c12 => ?_)
      · have c12 := iv_lt (X := x1.toInt) (Y := x0.toInt) c12 rfl rfl
        refine pv_aload_n (M := mX11_descends) 0 dX11_descends_35 36 rfl rfl rfl ?_
        refine mv_get (M := mX11_descends) (v := .ref 60) dX11_descends_36 FX11 3 wd410 (by decide) (tl0 hT) rfl rfl 39 rfl ?_
        refine pv_iload_n (M := mX11_descends) 1 dX11_descends_39 40 rfl rfl rfl ?_
        refine iv_qdeed (M := mX11_descends) (X := x0.toInt) dX11_descends_40 hT R rfl (by omega) (by omega) 41 rfl (fun b13 eb13 hb13 => ?_)
        have zb13 := hb13.2.2.2.2
        refine pv_aload_n (M := mX11_descends) 0 dX11_descends_41 42 rfl rfl rfl ?_
        refine mv_get (M := mX11_descends) (v := .ref 60) dX11_descends_42 FX11 3 wd410 (by decide) (tl0 hT) rfl rfl 45 rfl ?_
        refine pv_iload_n (M := mX11_descends) 2 dX11_descends_45 46 rfl rfl rfl ?_
        refine iv_qdeed (M := mX11_descends) (X := x1.toInt) dX11_descends_46 hT R rfl (by omega) (by omega) 47 rfl (fun b14 eb14 hb14 => ?_)
        have zb14 := hb14.2.2.2.2
        refine pv_callv (M := mX11_descends) (as := [.ref b14]) (st := []) (kc2 := 0) (ks2 := 0) dX11_descends_47 wd1060 YX8_comesFrom ⟨wd1061, wd1062⟩ (mk_get hb13.1) rfl rfl (s_X8_comesFrom g hT I b13 16 hb13 b14 16 hb14) rfl rfl (Nat.le_of_ble_eq_true rfl) (by decide) rfl rfl 50 rfl (fun rv h1 q15 => ?_)
        obtain ⟨v16, rfl, rfl, pv16, qv16, rv16⟩ := q15
        show PV _ _ _ _ _ _ _ 50 [.ref 0, .int x0, .int x1, .int v5] [.int v16] _
        exact pv_iret (M := mX11_descends) dX11_descends_50 rfl (iv_nz (by omega) (by omega)) ⟨_, rfl, rfl, by omega, by omega, trivial⟩
      · have c12 := iv_nlt (X := x1.toInt) (Y := x0.toInt) c12 rfl rfl
        refine pv_iconst (M := mX11_descends) (v := 0) dX11_descends_33 34 rfl (by decide) ?_
        exact pv_iret (M := mX11_descends) dX11_descends_34 rfl rfl ⟨_, rfl, rfl, by decide, by decide, trivial⟩

set_option maxHeartbeats 2000000 in
set_option maxRecDepth 20000 in
theorem s_X11_findParent (g : pv_G) {T : List mv_T} {m : Nat → Nat → Int32} {n : Nat → Nat → Int64} {r : Nat → Value} {la lb : Nat} (hT : TX T) (I : IV BB m) (R : RX T r la lb) (x0 : Int32) (hl0 : 0 ≤ x0.toInt) (hh0 : x0.toInt ≤ 7) (x1 : Int32) (hl1 : 0 ≤ x1.toInt) (hh1 : x1.toInt ≤ 7) (x2 : Int32) (x3 : Int32) : PM g mX11_findParent yX11_findParent (sqI T BB wN r m (-2147483648) 2147483647 (fun m' v => True)) 4 0 0 [.ref 0, .int x0, .int x1, .int x2, .int x3] (mk T m n r) := by
  have Kp : fr wN m m := fr.rf
  have R0 := R
  have zR := R.2.2.2.2.1.1
  have zR2 := R.2.2.2.2.2.1
  refine PM.of 3 (lo := [.ref 0, .int x0, .int x1, .int x2, .int x3, pv_U, pv_U, pv_U]) rfl (by decide) rfl rfl (Nat.le_of_ble_eq_true rfl) ?_
  refine pv_aload_n (M := mX11_findParent) 0 dX11_findParent_0 1 rfl rfl rfl ?_
  refine mv_get (M := mX11_findParent) (v := .ref 104) dX11_findParent_1 FX11 9 wd416 (by decide) (tl0 hT) rfl rfl 4 rfl ?_
  refine pv_aload_n (M := mX11_findParent) 0 dX11_findParent_4 5 rfl rfl rfl ?_
  refine mv_get (M := mX11_findParent) (v := .ref 3) dX11_findParent_5 FX11 1 wd408 (by decide) (tl0 hT) rfl rfl 8 rfl ?_
  refine pv_iload_n (M := mX11_findParent) 2 dX11_findParent_8 9 rfl rfl rfl ?_
  refine iv_qblank (M := mX11_findParent) (X := x1.toInt) dX11_findParent_9 hT R rfl (by omega) (by omega) 10 rfl (fun b1 eb1 hb1 => ?_)
  have zb1 := hb1.2.2.2.2.2.2.2
  refine mv_get (M := mX11_findParent) (v := .ref (b1 + 1)) dX11_findParent_10 FX0 0 wd208 (by decide) hb1.1 rfl rfl 13 rfl ?_
  refine pv_aload_n (M := mX11_findParent) 0 dX11_findParent_13 14 rfl rfl rfl ?_
  refine mv_get (M := mX11_findParent) (v := .ref 60) dX11_findParent_14 FX11 3 wd410 (by decide) (tl0 hT) rfl rfl 17 rfl ?_
  refine pv_iload_n (M := mX11_findParent) 1 dX11_findParent_17 18 rfl rfl rfl ?_
  refine iv_qdeed (M := mX11_findParent) (X := x0.toInt) dX11_findParent_18 hT R rfl (by omega) (by omega) 19 rfl (fun b2 eb2 hb2 => ?_)
  have zb2 := hb2.2.2.2.2
  refine pv_iload (M := mX11_findParent) dX11_findParent_19 21 rfl rfl ?_
  refine pv_callv (M := mX11_findParent) (as := [.ref (b1 + 1), .ref b2, .int x3]) (st := []) (kc2 := 0) (ks2 := 0) dX11_findParent_21 wd891 YX4_fewestStrokes ⟨wd892, wd893⟩ (mk_get (tl104 hT)) rfl rfl (s_X4_fewestStrokes g hT I (b1 + 1) 40 hb1.2.1 (by omega) b2 16 hb2 x3) rfl rfl (Nat.le_of_ble_eq_true rfl) (by decide) rfl rfl 24 rfl (fun rv h1 q3 => ?_)
  obtain ⟨m4, n5, v8, rfl, rfl, I6, K7, pv8, qv8, rv8⟩ := q3
  have K7c := K7
  have K7 := Kp.trans (K7.sub (by first | exact wg_l (by decide) | exact wg_g (by decide) | exact WX_wg | exact la7_wg zR (by decide) | exact wsL_wg zR (by decide)))
  show PV _ _ _ _ _ _ _ 24 [.ref 0, .int x0, .int x1, .int x2, .int x3, pv_U, pv_U, pv_U] [.int v8] _
  refine pv_istore (M := mX11_findParent) (lo2 := [.ref 0, .int x0, .int x1, .int x2, .int x3, .int v8, pv_U, pv_U]) dX11_findParent_24 26 rfl (by decide) rfl rfl ?_
  refine pv_aload_n (M := mX11_findParent) 0 dX11_findParent_26 27 rfl rfl rfl ?_
  refine mv_get (M := mX11_findParent) (v := .ref 120) dX11_findParent_27 FX11 14 wd421 (by decide) (tl0 hT) rfl rfl 30 rfl ?_
  refine pv_iload_n (M := mX11_findParent) 1 dX11_findParent_30 31 rfl rfl rfl ?_
  refine pv_bipush (M := mX11_findParent) (v := 8) dX11_findParent_31 33 rfl (by decide) ?_
  refine iv_iast (M := mX11_findParent) (X := x0.toInt) (l1 := (-2147483648)) (l2 := 2147483647) dX11_findParent_33 (tl120 hT) rfl (by omega) (by omega) I6 (fun _ => rfl) (by decide) (by decide) 34 rfl (fun m9 e12 I10 => ?_)
  have K11 := K7.set e12 (by first | rfl | decide)
  refine pv_iconst (M := mX11_findParent) (v := 0) dX11_findParent_34 35 rfl (by decide) ?_
  refine pv_istore (M := mX11_findParent) (lo2 := [.ref 0, .int x0, .int x1, .int x2, .int x3, .int v8, .int 0, pv_U]) dX11_findParent_35 37 rfl (by decide) rfl rfl ?_
  have lp20 : ∀ (fuel19 : Nat) (y13 : Int32) (y14 : Int32) (m15 : Nat → Nat → Int32) (n16 : Nat → Nat → Int64), (0 ≤ y14.toInt) → (y14.toInt ≤ 8) → IV BB m15 → fr wN m m15 → ((8 - y14.toInt) : Int).toNat < fuel19 → PV none g mX11_findParent (sqI T BB wN r m (-2147483648) 2147483647 (fun m' v => True)) 4 0 0 37 [.ref 0, .int x0, .int x1, .int x2, .int x3, .int y13, .int y14, pv_U] [] (mk T m15 n16 r) := by
    intro fuel19
    induction fuel19 with
    | zero => intro y13 y14 m15 n16 b22 b23 I17 K18 z24; omega
    | succ fuel19 ih21 =>
      intro y13 y14 m15 n16 b22 b23 I17 K18 z24
      refine pv_iload (M := mX11_findParent) dX11_findParent_37 39 rfl rfl ?_
      refine pv_bipush (M := mX11_findParent) (v := 8) dX11_findParent_39 41 rfl (by decide) ?_
      refine pv_icmp_ge (M := mX11_findParent) (tgt := 112) dX11_findParent_41 44 rfl (by decide) (fun c25 => ?_) (fun c25 => ?_)
      · have c25 := iv_le (X := 8) (Y := y14.toInt) c25 (by decide) rfl
        refine pv_iload (M := mX11_findParent) dX11_findParent_112 114 rfl rfl ?_
        exact pv_iret (M := mX11_findParent) dX11_findParent_114 rfl rfl ⟨_, _, _, rfl, rfl, I17, K18, (iv_rng y13).1, (iv_rng y13).2, trivial⟩
      · have c25 := iv_nle (X := 8) (Y := y14.toInt) c25 (by decide) rfl
        refine pv_iload_n (M := mX11_findParent) 3 dX11_findParent_44 45 rfl rfl rfl ?_
        refine pv_iload (M := mX11_findParent) dX11_findParent_45 47 rfl rfl ?_
        refine pv_calls (M := mX11_findParent) (as := [.int x2, .int y14]) (st := []) (kc2 := 0) (ks2 := 0) dX11_findParent_47 wd931 YX11_isAmong wd932 (s_X11_isAmong g hT I17 x2 y14) rfl rfl (Nat.le_of_ble_eq_true rfl) (by decide) rfl rfl 50 rfl (fun rv h1 q26 => ?_)
        obtain ⟨v27, rfl, rfl, pv27, qv27, rv27⟩ := q26
        replace rv27 : v27 = amv x2 y14 := rv27
        show PV _ _ _ _ _ _ _ 50 [.ref 0, .int x0, .int x1, .int x2, .int x3, .int y13, .int y14, pv_U] [.int v27] _
        refine pv_if_eq (M := mX11_findParent) (tgt := 106) dX11_findParent_50 53 rfl (by decide) (fun c28 => ?_) (fun c28 => ?_)
        · have c28 := iv_eq (X := v27.toInt) (Y := 0) c28 rfl (by decide)
          refine iv_inc (M := mX11_findParent) (C := 1) dX11_findParent_106 109 rfl rfl (by decide) rfl rfl (by decide) (by omega) (by omega) (fun v29 ev29 => ?_)
          show PV _ _ _ _ _ _ _ 109 [.ref 0, .int x0, .int x1, .int x2, .int x3, .int y13, .int v29, pv_U] [] _
          refine pv_goto (M := mX11_findParent) (tgt := 37) dX11_findParent_109 (by decide) ?_
          exact ih21 y13 v29 m15 n16 (by first | omega | assumption | exact (iv_rng _).2 | exact (iv_rng _).1 | decide) (by first | omega | assumption | exact (iv_rng _).2 | exact (iv_rng _).1 | decide) I17 K18 (by omega)
        · have c28 := iv_ne (X := v27.toInt) (Y := 0) c28 rfl (by decide)
          refine pv_aload_n (M := mX11_findParent) 0 dX11_findParent_53 54 rfl rfl rfl ?_
          refine pv_iload_n (M := mX11_findParent) 1 dX11_findParent_54 55 rfl rfl rfl ?_
          refine pv_iload (M := mX11_findParent) dX11_findParent_55 57 rfl rfl ?_
          refine pv_callv (M := mX11_findParent) (as := [.int x0, .int y14]) (st := []) (kc2 := 0) (ks2 := 0) dX11_findParent_57 wd1116 YX11_descends ⟨wd1118, wd49⟩ (mk_get (tl0 hT)) rfl rfl (s_X11_descends g hT I17 R x0 (by omega) (by omega) y14 (by omega) (by omega)) rfl rfl (Nat.le_of_ble_eq_true rfl) (by decide) rfl rfl 60 rfl (fun rv h1 q30 => ?_)
          obtain ⟨v31, rfl, rfl, pv31, qv31, rv31⟩ := q30
          show PV _ _ _ _ _ _ _ 60 [.ref 0, .int x0, .int x1, .int x2, .int x3, .int y13, .int y14, pv_U] [.int v31] _
          refine pv_if_eq (M := mX11_findParent) (tgt := 106) dX11_findParent_60 63 rfl (by decide) (fun c32 => ?_) (fun c32 => ?_)
          · have c32 := iv_eq (X := v31.toInt) (Y := 0) c32 rfl (by decide)
            refine iv_inc (M := mX11_findParent) (C := 1) dX11_findParent_106 109 rfl rfl (by decide) rfl rfl (by decide) (by omega) (by omega) (fun v33 ev33 => ?_)
            show PV _ _ _ _ _ _ _ 109 [.ref 0, .int x0, .int x1, .int x2, .int x3, .int y13, .int v33, pv_U] [] _
            refine pv_goto (M := mX11_findParent) (tgt := 37) dX11_findParent_109 (by decide) ?_
            exact ih21 y13 v33 m15 n16 (by first | omega | assumption | exact (iv_rng _).2 | exact (iv_rng _).1 | decide) (by first | omega | assumption | exact (iv_rng _).2 | exact (iv_rng _).1 | decide) I17 K18 (by omega)
          · have c32 := iv_ne (X := v31.toInt) (Y := 0) c32 rfl (by decide)
            refine pv_aload_n (M := mX11_findParent) 0 dX11_findParent_63 64 rfl rfl rfl ?_
            refine mv_get (M := mX11_findParent) (v := .ref 104) dX11_findParent_64 FX11 9 wd416 (by decide) (tl0 hT) rfl rfl 67 rfl ?_
            refine pv_aload_n (M := mX11_findParent) 0 dX11_findParent_67 68 rfl rfl rfl ?_
            refine mv_get (M := mX11_findParent) (v := .ref 60) dX11_findParent_68 FX11 3 wd410 (by decide) (tl0 hT) rfl rfl 71 rfl ?_
            refine pv_iload (M := mX11_findParent) dX11_findParent_71 73 rfl rfl ?_
            refine iv_qdeed (M := mX11_findParent) (X := y14.toInt) dX11_findParent_73 hT R rfl (by omega) (by omega) 74 rfl (fun b34 eb34 hb34 => ?_)
            have zb34 := hb34.2.2.2.2
            refine pv_aload_n (M := mX11_findParent) 0 dX11_findParent_74 75 rfl rfl rfl ?_
            refine mv_get (M := mX11_findParent) (v := .ref 60) dX11_findParent_75 FX11 3 wd410 (by decide) (tl0 hT) rfl rfl 78 rfl ?_
            refine pv_iload_n (M := mX11_findParent) 1 dX11_findParent_78 79 rfl rfl rfl ?_
            refine iv_qdeed (M := mX11_findParent) (X := x0.toInt) dX11_findParent_79 hT R rfl (by omega) (by omega) 80 rfl (fun b35 eb35 hb35 => ?_)
            have zb35 := hb35.2.2.2.2
            refine pv_iload (M := mX11_findParent) dX11_findParent_80 82 rfl rfl ?_
            refine pv_callv (M := mX11_findParent) (as := [.ref b34, .ref b35, .int x3]) (st := []) (kc2 := 0) (ks2 := 0) dX11_findParent_82 wd891 YX4_fewestStrokes ⟨wd892, wd893⟩ (mk_get (tl104 hT)) rfl rfl (s_X4_fewestStrokes g hT I17 b34 16 hb34 (by omega) b35 16 hb35 x3) rfl rfl (Nat.le_of_ble_eq_true rfl) (by decide) rfl rfl 85 rfl (fun rv h1 q36 => ?_)
            obtain ⟨m37, n38, v41, rfl, rfl, I39, K40, pv41, qv41, rv41⟩ := q36
            have K40c := K40
            have K40 := K18.trans (K40.sub (by first | exact wg_l (by decide) | exact wg_g (by decide) | exact WX_wg | exact la7_wg zR (by decide) | exact wsL_wg zR (by decide)))
            show PV _ _ _ _ _ _ _ 85 [.ref 0, .int x0, .int x1, .int x2, .int x3, .int y13, .int y14, pv_U] [.int v41] _
            refine pv_istore (M := mX11_findParent) (lo2 := [.ref 0, .int x0, .int x1, .int x2, .int x3, .int y13, .int y14, .int v41]) dX11_findParent_85 87 rfl (by decide) rfl rfl ?_
            refine pv_iload (M := mX11_findParent) dX11_findParent_87 89 rfl rfl ?_
            refine pv_iload (M := mX11_findParent) dX11_findParent_89 91 rfl rfl ?_
            refine pv_icmp_ge (M := mX11_findParent) (tgt := 106) dX11_findParent_91 94 rfl (by decide) (fun c42 => ?_) (fun c42 => ?_)
            · have c42 := iv_le (X := y13.toInt) (Y := v41.toInt) c42 rfl rfl
              refine iv_inc (M := mX11_findParent) (C := 1) dX11_findParent_106 109 rfl rfl (by decide) rfl rfl (by decide) (by omega) (by omega) (fun v43 ev43 => ?_)
              show PV _ _ _ _ _ _ _ 109 [.ref 0, .int x0, .int x1, .int x2, .int x3, .int y13, .int v43, .int v41] [] _
              refine pv_goto (M := mX11_findParent) (tgt := 37) dX11_findParent_109 (by decide) ?_
              refine pv_fg (lo2 := [.ref 0, .int x0, .int x1, .int x2, .int x3, .int y13, .int v43, pv_U]) ⟨Or.inr rfl, ⟨Or.inr rfl, ⟨Or.inr rfl, ⟨Or.inr rfl, ⟨Or.inr rfl, ⟨Or.inr rfl, ⟨Or.inr rfl, ⟨Or.inl rfl, trivial⟩⟩⟩⟩⟩⟩⟩⟩ ?_
              exact ih21 y13 v43 m37 n38 (by first | omega | assumption | exact (iv_rng _).2 | exact (iv_rng _).1 | decide) (by first | omega | assumption | exact (iv_rng _).2 | exact (iv_rng _).1 | decide) I39 K40 (by omega)
            · have c42 := iv_nle (X := y13.toInt) (Y := v41.toInt) c42 rfl rfl
              refine pv_iload (M := mX11_findParent) dX11_findParent_94 96 rfl rfl ?_
              refine pv_istore (M := mX11_findParent) (lo2 := [.ref 0, .int x0, .int x1, .int x2, .int x3, .int v41, .int y14, .int v41]) dX11_findParent_96 98 rfl (by decide) rfl rfl ?_
              refine pv_aload_n (M := mX11_findParent) 0 dX11_findParent_98 99 rfl rfl rfl ?_
              refine mv_get (M := mX11_findParent) (v := .ref 120) dX11_findParent_99 FX11 14 wd421 (by decide) (tl0 hT) rfl rfl 102 rfl ?_
              refine pv_iload_n (M := mX11_findParent) 1 dX11_findParent_102 103 rfl rfl rfl ?_
              refine pv_iload (M := mX11_findParent) dX11_findParent_103 105 rfl rfl ?_
              refine iv_iast (M := mX11_findParent) (X := x0.toInt) (l1 := (-2147483648)) (l2 := 2147483647) dX11_findParent_105 (tl120 hT) rfl (by omega) (by omega) I39 (fun _ => rfl) (iv_rng y14).1 (iv_rng y14).2 106 rfl (fun m44 e47 I45 => ?_)
              have K46 := K40.set e47 (by first | rfl | decide)
              refine iv_inc (M := mX11_findParent) (C := 1) dX11_findParent_106 109 rfl rfl (by decide) rfl rfl (by decide) (by omega) (by omega) (fun v48 ev48 => ?_)
              show PV _ _ _ _ _ _ _ 109 [.ref 0, .int x0, .int x1, .int x2, .int x3, .int v41, .int v48, .int v41] [] _
              refine pv_goto (M := mX11_findParent) (tgt := 37) dX11_findParent_109 (by decide) ?_
              refine pv_fg (lo2 := [.ref 0, .int x0, .int x1, .int x2, .int x3, .int v41, .int v48, pv_U]) ⟨Or.inr rfl, ⟨Or.inr rfl, ⟨Or.inr rfl, ⟨Or.inr rfl, ⟨Or.inr rfl, ⟨Or.inr rfl, ⟨Or.inr rfl, ⟨Or.inl rfl, trivial⟩⟩⟩⟩⟩⟩⟩⟩ ?_
              exact ih21 v41 v48 m44 n38 (by first | omega | assumption | exact (iv_rng _).2 | exact (iv_rng _).1 | decide) (by first | omega | assumption | exact (iv_rng _).2 | exact (iv_rng _).1 | decide) I45 K46 (by omega)
  have z49 : (0 : Int32).toInt = 0 := by decide
  exact lp20 (((8 - 0) : Int).toNat + 1) v8 0 m9 n5 (by first | omega | assumption | exact (iv_rng _).2 | exact (iv_rng _).1 | decide) (by first | omega | assumption | exact (iv_rng _).2 | exact (iv_rng _).1 | decide) I10 K11 (by omega)

set_option maxHeartbeats 2000000 in
set_option maxRecDepth 20000 in
theorem s_X11_family (g : pv_G) {T : List mv_T} {m : Nat → Nat → Int32} {n : Nat → Nat → Int64} {r : Nat → Value} {la lb : Nat} (hT : TX T) (I : IV BB m) (R : RX T r la lb) (x0 : Int32) (x1 : Int32) (x2 : Int32) (x3 : Int32) : PM g mX11_family yX11_family (sqI T BB wN r m (-2147483648) 2147483647 (fun m' v => True)) 5 0 0 [.ref 0, .int x0, .int x1, .int x2, .int x3] (mk T m n r) := by
  have Kp : fr wN m m := fr.rf
  have R0 := R
  have zR := R.2.2.2.2.1.1
  have zR2 := R.2.2.2.2.2.1
  refine PM.of 2 (lo := [.ref 0, .int x0, .int x1, .int x2, .int x3, pv_U, pv_U]) rfl (by decide) rfl rfl (Nat.le_of_ble_eq_true rfl) ?_
  refine pv_aload_n (M := mX11_family) 0 dX11_family_0 1 rfl rfl rfl ?_
  refine pv_iload_n (M := mX11_family) 1 dX11_family_1 2 rfl rfl rfl ?_
  refine pv_callv (M := mX11_family) (as := [.int x0]) (st := []) (kc2 := 0) (ks2 := 0) dX11_family_2 wd700 YX11_isBlank ⟨wd702, wd16⟩ (mk_get (tl0 hT)) rfl rfl (s_X11_isBlank g hT I R x0) rfl rfl (Nat.le_of_ble_eq_true rfl) (by decide) rfl rfl 5 rfl (fun rv h1 q1 => ?_)
  obtain ⟨v2, rfl, rfl, pv2, qv2, rv2⟩ := q1
  replace rv2 : v2 = 0 ∨ (0 ≤ x0.toInt ∧ x0.toInt ≤ 7) := rv2
  show PV _ _ _ _ _ _ _ 5 [.ref 0, .int x0, .int x1, .int x2, .int x3, pv_U, pv_U] [.int v2] _
  refine pv_if_eq (M := mX11_family) (tgt := 23) dX11_family_5 8 rfl (by decide) (fun c3 => ?_) (fun c3 => ?_)
  · have c3 := iv_eq (X := v2.toInt) (Y := 0) c3 rfl (by decide)
    refine pv_iconst (M := mX11_family) (v := (-1)) dX11_family_23 24 rfl (by decide) ?_
    exact pv_iret (M := mX11_family) dX11_family_24 rfl rfl ⟨_, _, _, rfl, rfl, I, Kp, by decide, by decide, trivial⟩
  · have pc3 := rv2.resolve_left c3
    have c3 := iv_ne (X := v2.toInt) (Y := 0) c3 rfl (by decide)
    refine pv_aload_n (M := mX11_family) 0 dX11_family_8 9 rfl rfl rfl ?_
    refine pv_iload_n (M := mX11_family) 2 dX11_family_9 10 rfl rfl rfl ?_
    refine pv_callv (M := mX11_family) (as := [.int x1]) (st := []) (kc2 := 0) (ks2 := 0) dX11_family_10 wd919 YX11_areDeeds ⟨wd921, wd33⟩ (mk_get (tl0 hT)) rfl rfl (s_X11_areDeeds g hT I R x1) rfl rfl (Nat.le_of_ble_eq_true rfl) (by decide) rfl rfl 13 rfl (fun rv h1 q4 => ?_)
    obtain ⟨v5, rfl, rfl, pv5, qv5, rv5⟩ := q4
    replace rv5 : v5 = adv m x1 := rv5
    show PV _ _ _ _ _ _ _ 13 [.ref 0, .int x0, .int x1, .int x2, .int x3, pv_U, pv_U] [.int v5] _
    refine pv_if_eq (M := mX11_family) (tgt := 23) dX11_family_13 16 rfl (by decide) (fun c6 => ?_) (fun c6 => ?_)
    · have c6 := iv_eq (X := v5.toInt) (Y := 0) c6 rfl (by decide)
      refine pv_iconst (M := mX11_family) (v := (-1)) dX11_family_23 24 rfl (by decide) ?_
      exact pv_iret (M := mX11_family) dX11_family_24 rfl rfl ⟨_, _, _, rfl, rfl, I, Kp, by decide, by decide, trivial⟩
    · have c6 := iv_ne (X := v5.toInt) (Y := 0) c6 rfl (by decide)
      refine pv_iload_n (M := mX11_family) 3 dX11_family_16 17 rfl rfl rfl ?_
      refine pv_calls (M := mX11_family) (as := [.int x2]) (st := []) (kc2 := 0) (ks2 := 0) dX11_family_17 wd888 YX11_isWidth wd889 (s_X11_isWidth g hT I x2) rfl rfl (Nat.le_of_ble_eq_true rfl) (by decide) rfl rfl 20 rfl (fun rv h1 q7 => ?_)
      obtain ⟨v8, rfl, rfl, pv8, qv8, rv8⟩ := q7
      replace rv8 : v8 = 0 ∨ (1 ≤ x2.toInt ∧ x2.toInt ≤ 9) := rv8
      show PV _ _ _ _ _ _ _ 20 [.ref 0, .int x0, .int x1, .int x2, .int x3, pv_U, pv_U] [.int v8] _
      refine pv_if_ne (M := mX11_family) (tgt := 25) dX11_family_20 23 rfl (by decide) (fun c9 => ?_) (fun c9 => ?_)
      · have pc9 := rv8.resolve_left c9
        have c9 := iv_ne (X := v8.toInt) (Y := 0) c9 rfl (by decide)
        refine pv_iload (M := mX11_family) dX11_family_25 27 rfl rfl ?_
        refine pv_iconst (M := mX11_family) (v := (-1)) dX11_family_27 28 rfl (by decide) ?_
        refine pv_icmp_lt (M := mX11_family) (tgt := 38) dX11_family_28 31 rfl (by decide) (fun c10 => ?_) (fun c10 => ?_)
        · have c10 := iv_lt (X := x3.toInt) (Y := (-1)) c10 rfl (by decide)
          refine pv_iconst (M := mX11_family) (v := (-1)) dX11_family_38 39 rfl (by decide) ?_
          exact pv_iret (M := mX11_family) dX11_family_39 rfl rfl ⟨_, _, _, rfl, rfl, I, Kp, by decide, by decide, trivial⟩
        · have c10 := iv_nlt (X := x3.toInt) (Y := (-1)) c10 rfl (by decide)
          refine pv_iload (M := mX11_family) dX11_family_31 33 rfl rfl ?_
          refine pv_bipush (M := mX11_family) (v := 8) dX11_family_33 35 rfl (by decide) ?_
          refine pv_icmp_lt (M := mX11_family) (tgt := 40) dX11_family_35 38 rfl (by decide) (fun c11 => ?_) (fun c11 => ?_)
          · have c11 := iv_lt (X := x3.toInt) (Y := 8) c11 rfl (by decide)
            refine pv_aload_n (M := mX11_family) 0 dX11_family_40 41 rfl rfl rfl ?_
            refine pv_iload_n (M := mX11_family) 2 dX11_family_41 42 rfl rfl rfl ?_
            refine pv_aload_n (M := mX11_family) 0 dX11_family_42 43 rfl rfl rfl ?_
            refine mv_get (M := mX11_family) (v := .ref 3) dX11_family_43 FX11 1 wd408 (by decide) (tl0 hT) rfl rfl 46 rfl ?_
            refine pv_iload_n (M := mX11_family) 1 dX11_family_46 47 rfl rfl rfl ?_
            refine iv_qblank (M := mX11_family) (X := x0.toInt) dX11_family_47 hT R rfl (by omega) (by omega) 48 rfl (fun b12 eb12 hb12 => ?_)
            have zb12 := hb12.2.2.2.2.2.2.2
            refine mv_get (M := mX11_family) (v := .ref (b12 + 1)) dX11_family_48 FX0 0 wd208 (by decide) hb12.1 rfl rfl 51 rfl ?_
            refine pv_iconst (M := mX11_family) (v := (-1)) dX11_family_51 52 rfl (by decide) ?_
            refine pv_callv (M := mX11_family) (as := [.int x1, .ref (b12 + 1), .int (-1)]) (st := []) (kc2 := 0) (ks2 := 0) dX11_family_52 wd1072 YX11_allCome ⟨wd1074, wd45⟩ (mk_get (tl0 hT)) rfl rfl (s_X11_allCome g hT I R x1 (b12 + 1) 40 hb12.2.1 (-1)) rfl rfl (Nat.le_of_ble_eq_true rfl) (by decide) rfl rfl 55 rfl (fun rv h1 q13 => ?_)
            obtain ⟨v14, rfl, rfl, pv14, qv14, rv14⟩ := q13
            show PV _ _ _ _ _ _ _ 55 [.ref 0, .int x0, .int x1, .int x2, .int x3, pv_U, pv_U] [.int v14] _
            refine pv_if_ne (M := mX11_family) (tgt := 61) dX11_family_55 58 rfl (by decide) (fun c15 => ?_) (fun c15 => ?_)
            · have c15 := iv_ne (X := v14.toInt) (Y := 0) c15 rfl (by decide)
              refine pv_iload (M := mX11_family) dX11_family_61 63 rfl rfl ?_
              refine pv_iconst (M := mX11_family) (v := (-1)) dX11_family_63 64 rfl (by decide) ?_
              refine pv_icmp_eq (M := mX11_family) (tgt := 79) dX11_family_64 67 rfl (by decide) (fun c16 => ?_) (fun c16 => ?_)
              · have c16 := iv_eq (X := x3.toInt) (Y := (-1)) c16 rfl (by decide)
                refine pv_iconst (M := mX11_family) (v := 0) dX11_family_79 80 rfl (by decide) ?_
                refine pv_istore (M := mX11_family) (lo2 := [.ref 0, .int x0, .int x1, .int x2, .int x3, .int 0, pv_U]) dX11_family_80 82 rfl (by decide) rfl rfl ?_
                refine pv_iconst (M := mX11_family) (v := 0) dX11_family_82 83 rfl (by decide) ?_
                refine pv_istore (M := mX11_family) (lo2 := [.ref 0, .int x0, .int x1, .int x2, .int x3, .int 0, .int 0]) dX11_family_83 85 rfl (by decide) rfl rfl ?_
                have lp24 : ∀ (fuel23 : Nat) (y17 : Int32) (y18 : Int32) (m19 : Nat → Nat → Int32) (n20 : Nat → Nat → Int64), (0 ≤ y18.toInt) → (y18.toInt ≤ 8) → IV BB m19 → fr wN m m19 → ((8 - y18.toInt) : Int).toNat < fuel23 → PV none g mX11_family (sqI T BB wN r m (-2147483648) 2147483647 (fun m' v => True)) 5 0 0 85 [.ref 0, .int x0, .int x1, .int x2, .int x3, .int y17, .int y18] [] (mk T m19 n20 r) := by
                  intro fuel23
                  induction fuel23 with
                  | zero => intro y17 y18 m19 n20 b26 b27 I21 K22 z28; omega
                  | succ fuel23 ih25 =>
                    intro y17 y18 m19 n20 b26 b27 I21 K22 z28
                    refine pv_iload (M := mX11_family) dX11_family_85 87 rfl rfl ?_
                    refine pv_bipush (M := mX11_family) (v := 8) dX11_family_87 89 rfl (by decide) ?_
                    refine pv_icmp_ge (M := mX11_family) (tgt := 121) dX11_family_89 92 rfl (by decide) (fun c29 => ?_) (fun c29 => ?_)
                    · have c29 := iv_le (X := 8) (Y := y18.toInt) c29 (by decide) rfl
                      refine pv_iload (M := mX11_family) dX11_family_121 123 rfl rfl ?_
                      refine pv_iconst (M := mX11_family) (v := (-1)) dX11_family_123 124 rfl (by decide) ?_
                      refine pv_icmp_ne (M := mX11_family) (tgt := 132) dX11_family_124 127 rfl (by decide) (fun c30 => ?_) (fun c30 => ?_)
                      · have c30 := iv_ne (X := x3.toInt) (Y := (-1)) c30 rfl (by decide)
                        omega
                      · have c30 := iv_eq (X := x3.toInt) (Y := (-1)) c30 rfl (by decide)
                        refine pv_iload (M := mX11_family) dX11_family_127 129 rfl rfl ?_
                        refine pv_goto (M := mX11_family) (tgt := 139) dX11_family_129 (by decide) ?_
                        exact pv_iret (M := mX11_family) dX11_family_139 rfl rfl ⟨_, _, _, rfl, rfl, I21, K22, (iv_rng y17).1, (iv_rng y17).2, trivial⟩
                    · have c29 := iv_nle (X := 8) (Y := y18.toInt) c29 (by decide) rfl
                      refine pv_iload_n (M := mX11_family) 2 dX11_family_92 93 rfl rfl rfl ?_
                      refine pv_iload (M := mX11_family) dX11_family_93 95 rfl rfl ?_
                      refine pv_calls (M := mX11_family) (as := [.int x1, .int y18]) (st := []) (kc2 := 0) (ks2 := 0) dX11_family_95 wd931 YX11_isAmong wd932 (s_X11_isAmong g hT I21 x1 y18) rfl rfl (Nat.le_of_ble_eq_true rfl) (by decide) rfl rfl 98 rfl (fun rv h1 q31 => ?_)
                      obtain ⟨v32, rfl, rfl, pv32, qv32, rv32⟩ := q31
                      replace rv32 : v32 = amv x1 y18 := rv32
                      show PV _ _ _ _ _ _ _ 98 [.ref 0, .int x0, .int x1, .int x2, .int x3, .int y17, .int y18] [.int v32] _
                      refine pv_if_eq (M := mX11_family) (tgt := 115) dX11_family_98 101 rfl (by decide) (fun c33 => ?_) (fun c33 => ?_)
                      · have c33 := iv_eq (X := v32.toInt) (Y := 0) c33 rfl (by decide)
                        refine iv_inc (M := mX11_family) (C := 1) dX11_family_115 118 rfl rfl (by decide) rfl rfl (by decide) (by omega) (by omega) (fun v34 ev34 => ?_)
                        show PV _ _ _ _ _ _ _ 118 [.ref 0, .int x0, .int x1, .int x2, .int x3, .int y17, .int v34] [] _
                        refine pv_goto (M := mX11_family) (tgt := 85) dX11_family_118 (by decide) ?_
                        exact ih25 y17 v34 m19 n20 (by first | omega | assumption | exact (iv_rng _).2 | exact (iv_rng _).1 | decide) (by first | omega | assumption | exact (iv_rng _).2 | exact (iv_rng _).1 | decide) I21 K22 (by omega)
                      · have c33 := iv_ne (X := v32.toInt) (Y := 0) c33 rfl (by decide)
                        refine pv_iload (M := mX11_family) dX11_family_101 103 rfl rfl ?_
                        refine pv_aload_n (M := mX11_family) 0 dX11_family_103 104 rfl rfl rfl ?_
                        refine pv_iload (M := mX11_family) dX11_family_104 106 rfl rfl ?_
                        refine pv_iload_n (M := mX11_family) 1 dX11_family_106 107 rfl rfl rfl ?_
                        refine pv_iload_n (M := mX11_family) 2 dX11_family_107 108 rfl rfl rfl ?_
                        refine pv_iload_n (M := mX11_family) 3 dX11_family_108 109 rfl rfl rfl ?_
                        refine pv_callv (M := mX11_family) (as := [.int y18, .int x0, .int x1, .int x2]) (st := [.int y17]) (kc2 := 0) (ks2 := 0) dX11_family_109 wd1112 YX11_findParent ⟨wd1114, wd48⟩ (mk_get (tl0 hT)) rfl rfl (s_X11_findParent g hT I21 R y18 (by omega) (by omega) x0 (by omega) (by omega) x1 x2) rfl rfl (Nat.le_of_ble_eq_true rfl) (by decide) rfl rfl 112 rfl (fun rv h1 q35 => ?_)
                        obtain ⟨m36, n37, v40, rfl, rfl, I38, K39, pv40, qv40, rv40⟩ := q35
                        have K39c := K39
                        have K39 := K22.trans (K39.sub (fun _ _ q => q))
                        show PV _ _ _ _ _ _ _ 112 [.ref 0, .int x0, .int x1, .int x2, .int x3, .int y17, .int y18] [.int v40, .int y17] _
                        refine iv_addU (M := mX11_family) dX11_family_112 113 rfl (fun v41 ev41 => ?_)
                        refine pv_istore (M := mX11_family) (lo2 := [.ref 0, .int x0, .int x1, .int x2, .int x3, .int v41, .int y18]) dX11_family_113 115 rfl (by decide) rfl rfl ?_
                        refine iv_inc (M := mX11_family) (C := 1) dX11_family_115 118 rfl rfl (by decide) rfl rfl (by decide) (by omega) (by omega) (fun v42 ev42 => ?_)
                        show PV _ _ _ _ _ _ _ 118 [.ref 0, .int x0, .int x1, .int x2, .int x3, .int v41, .int v42] [] _
                        refine pv_goto (M := mX11_family) (tgt := 85) dX11_family_118 (by decide) ?_
                        exact ih25 v41 v42 m36 n37 (by first | omega | assumption | exact (iv_rng _).2 | exact (iv_rng _).1 | decide) (by first | omega | assumption | exact (iv_rng _).2 | exact (iv_rng _).1 | decide) I38 K39 (by omega)
                have z43 : (0 : Int32).toInt = 0 := by decide
                have z44 : (0 : Int32).toInt = 0 := by decide
                exact lp24 (((8 - 0) : Int).toNat + 1) 0 0 m n (by first | omega | assumption | exact (iv_rng _).2 | exact (iv_rng _).1 | decide) (by first | omega | assumption | exact (iv_rng _).2 | exact (iv_rng _).1 | decide) I Kp (by omega)
              · have c16 := iv_ne (X := x3.toInt) (Y := (-1)) c16 rfl (by decide)
                refine pv_iload_n (M := mX11_family) 2 dX11_family_67 68 rfl rfl rfl ?_
                refine pv_iload (M := mX11_family) dX11_family_68 70 rfl rfl ?_
                refine pv_calls (M := mX11_family) (as := [.int x1, .int x3]) (st := []) (kc2 := 0) (ks2 := 0) dX11_family_70 wd931 YX11_isAmong wd932 (s_X11_isAmong g hT I x1 x3) rfl rfl (Nat.le_of_ble_eq_true rfl) (by decide) rfl rfl 73 rfl (fun rv h1 q45 => ?_)
                obtain ⟨v46, rfl, rfl, pv46, qv46, rv46⟩ := q45
                replace rv46 : v46 = amv x1 x3 := rv46
                show PV _ _ _ _ _ _ _ 73 [.ref 0, .int x0, .int x1, .int x2, .int x3, pv_U, pv_U] [.int v46] _
                refine pv_if_ne (M := mX11_family) (tgt := 79) dX11_family_73 76 rfl (by decide) (fun c47 => ?_) (fun c47 => ?_)
                · have c47 := iv_ne (X := v46.toInt) (Y := 0) c47 rfl (by decide)
                  refine pv_iconst (M := mX11_family) (v := 0) dX11_family_79 80 rfl (by decide) ?_
                  refine pv_istore (M := mX11_family) (lo2 := [.ref 0, .int x0, .int x1, .int x2, .int x3, .int 0, pv_U]) dX11_family_80 82 rfl (by decide) rfl rfl ?_
                  refine pv_iconst (M := mX11_family) (v := 0) dX11_family_82 83 rfl (by decide) ?_
                  refine pv_istore (M := mX11_family) (lo2 := [.ref 0, .int x0, .int x1, .int x2, .int x3, .int 0, .int 0]) dX11_family_83 85 rfl (by decide) rfl rfl ?_
                  have lp55 : ∀ (fuel54 : Nat) (y48 : Int32) (y49 : Int32) (m50 : Nat → Nat → Int32) (n51 : Nat → Nat → Int64), (0 ≤ y49.toInt) → (y49.toInt ≤ 8) → IV BB m50 → fr wN m m50 → ((8 - y49.toInt) : Int).toNat < fuel54 → PV none g mX11_family (sqI T BB wN r m (-2147483648) 2147483647 (fun m' v => True)) 5 0 0 85 [.ref 0, .int x0, .int x1, .int x2, .int x3, .int y48, .int y49] [] (mk T m50 n51 r) := by
                    intro fuel54
                    induction fuel54 with
                    | zero => intro y48 y49 m50 n51 b57 b58 I52 K53 z59; omega
                    | succ fuel54 ih56 =>
                      intro y48 y49 m50 n51 b57 b58 I52 K53 z59
                      refine pv_iload (M := mX11_family) dX11_family_85 87 rfl rfl ?_
                      refine pv_bipush (M := mX11_family) (v := 8) dX11_family_87 89 rfl (by decide) ?_
                      refine pv_icmp_ge (M := mX11_family) (tgt := 121) dX11_family_89 92 rfl (by decide) (fun c60 => ?_) (fun c60 => ?_)
                      · have c60 := iv_le (X := 8) (Y := y49.toInt) c60 (by decide) rfl
                        refine pv_iload (M := mX11_family) dX11_family_121 123 rfl rfl ?_
                        refine pv_iconst (M := mX11_family) (v := (-1)) dX11_family_123 124 rfl (by decide) ?_
                        refine pv_icmp_ne (M := mX11_family) (tgt := 132) dX11_family_124 127 rfl (by decide) (fun c61 => ?_) (fun c61 => ?_)
                        · have c61 := iv_ne (X := x3.toInt) (Y := (-1)) c61 rfl (by decide)
                          refine pv_aload_n (M := mX11_family) 0 dX11_family_132 133 rfl rfl rfl ?_
                          refine mv_get (M := mX11_family) (v := .ref 120) dX11_family_133 FX11 14 wd421 (by decide) (tl0 hT) rfl rfl 136 rfl ?_
                          refine pv_iload (M := mX11_family) dX11_family_136 138 rfl rfl ?_
                          refine iv_iald (M := mX11_family) (X := x3.toInt) (l1 := (-2147483648)) (l2 := 2147483647) dX11_family_138 (tl120 hT) rfl (by omega) (by omega) I52 (fun _ => rfl) 139 rfl (fun v62 ev62 pv62 qv62 => ?_)
                          exact pv_iret (M := mX11_family) dX11_family_139 rfl rfl ⟨_, _, _, rfl, rfl, I52, K53, (iv_rng v62).1, (iv_rng v62).2, trivial⟩
                        · have c61 := iv_eq (X := x3.toInt) (Y := (-1)) c61 rfl (by decide)
                          omega
                      · have c60 := iv_nle (X := 8) (Y := y49.toInt) c60 (by decide) rfl
                        refine pv_iload_n (M := mX11_family) 2 dX11_family_92 93 rfl rfl rfl ?_
                        refine pv_iload (M := mX11_family) dX11_family_93 95 rfl rfl ?_
                        refine pv_calls (M := mX11_family) (as := [.int x1, .int y49]) (st := []) (kc2 := 0) (ks2 := 0) dX11_family_95 wd931 YX11_isAmong wd932 (s_X11_isAmong g hT I52 x1 y49) rfl rfl (Nat.le_of_ble_eq_true rfl) (by decide) rfl rfl 98 rfl (fun rv h1 q63 => ?_)
                        obtain ⟨v64, rfl, rfl, pv64, qv64, rv64⟩ := q63
                        replace rv64 : v64 = amv x1 y49 := rv64
                        show PV _ _ _ _ _ _ _ 98 [.ref 0, .int x0, .int x1, .int x2, .int x3, .int y48, .int y49] [.int v64] _
                        refine pv_if_eq (M := mX11_family) (tgt := 115) dX11_family_98 101 rfl (by decide) (fun c65 => ?_) (fun c65 => ?_)
                        · have c65 := iv_eq (X := v64.toInt) (Y := 0) c65 rfl (by decide)
                          refine iv_inc (M := mX11_family) (C := 1) dX11_family_115 118 rfl rfl (by decide) rfl rfl (by decide) (by omega) (by omega) (fun v66 ev66 => ?_)
                          show PV _ _ _ _ _ _ _ 118 [.ref 0, .int x0, .int x1, .int x2, .int x3, .int y48, .int v66] [] _
                          refine pv_goto (M := mX11_family) (tgt := 85) dX11_family_118 (by decide) ?_
                          exact ih56 y48 v66 m50 n51 (by first | omega | assumption | exact (iv_rng _).2 | exact (iv_rng _).1 | decide) (by first | omega | assumption | exact (iv_rng _).2 | exact (iv_rng _).1 | decide) I52 K53 (by omega)
                        · have c65 := iv_ne (X := v64.toInt) (Y := 0) c65 rfl (by decide)
                          refine pv_iload (M := mX11_family) dX11_family_101 103 rfl rfl ?_
                          refine pv_aload_n (M := mX11_family) 0 dX11_family_103 104 rfl rfl rfl ?_
                          refine pv_iload (M := mX11_family) dX11_family_104 106 rfl rfl ?_
                          refine pv_iload_n (M := mX11_family) 1 dX11_family_106 107 rfl rfl rfl ?_
                          refine pv_iload_n (M := mX11_family) 2 dX11_family_107 108 rfl rfl rfl ?_
                          refine pv_iload_n (M := mX11_family) 3 dX11_family_108 109 rfl rfl rfl ?_
                          refine pv_callv (M := mX11_family) (as := [.int y49, .int x0, .int x1, .int x2]) (st := [.int y48]) (kc2 := 0) (ks2 := 0) dX11_family_109 wd1112 YX11_findParent ⟨wd1114, wd48⟩ (mk_get (tl0 hT)) rfl rfl (s_X11_findParent g hT I52 R y49 (by omega) (by omega) x0 (by omega) (by omega) x1 x2) rfl rfl (Nat.le_of_ble_eq_true rfl) (by decide) rfl rfl 112 rfl (fun rv h1 q67 => ?_)
                          obtain ⟨m68, n69, v72, rfl, rfl, I70, K71, pv72, qv72, rv72⟩ := q67
                          have K71c := K71
                          have K71 := K53.trans (K71.sub (fun _ _ q => q))
                          show PV _ _ _ _ _ _ _ 112 [.ref 0, .int x0, .int x1, .int x2, .int x3, .int y48, .int y49] [.int v72, .int y48] _
                          refine iv_addU (M := mX11_family) dX11_family_112 113 rfl (fun v73 ev73 => ?_)
                          refine pv_istore (M := mX11_family) (lo2 := [.ref 0, .int x0, .int x1, .int x2, .int x3, .int v73, .int y49]) dX11_family_113 115 rfl (by decide) rfl rfl ?_
                          refine iv_inc (M := mX11_family) (C := 1) dX11_family_115 118 rfl rfl (by decide) rfl rfl (by decide) (by omega) (by omega) (fun v74 ev74 => ?_)
                          show PV _ _ _ _ _ _ _ 118 [.ref 0, .int x0, .int x1, .int x2, .int x3, .int v73, .int v74] [] _
                          refine pv_goto (M := mX11_family) (tgt := 85) dX11_family_118 (by decide) ?_
                          exact ih56 v73 v74 m68 n69 (by first | omega | assumption | exact (iv_rng _).2 | exact (iv_rng _).1 | decide) (by first | omega | assumption | exact (iv_rng _).2 | exact (iv_rng _).1 | decide) I70 K71 (by omega)
                  have z75 : (0 : Int32).toInt = 0 := by decide
                  have z76 : (0 : Int32).toInt = 0 := by decide
                  exact lp55 (((8 - 0) : Int).toNat + 1) 0 0 m n (by first | omega | assumption | exact (iv_rng _).2 | exact (iv_rng _).1 | decide) (by first | omega | assumption | exact (iv_rng _).2 | exact (iv_rng _).1 | decide) I Kp (by omega)
                · have c47 := iv_eq (X := v46.toInt) (Y := 0) c47 rfl (by decide)
                  refine pv_bipush (M := mX11_family) (v := (-2)) dX11_family_76 78 rfl (by decide) ?_
                  exact pv_iret (M := mX11_family) dX11_family_78 rfl rfl ⟨_, _, _, rfl, rfl, I, Kp, by decide, by decide, trivial⟩
            · have c15 := iv_eq (X := v14.toInt) (Y := 0) c15 rfl (by decide)
              refine pv_bipush (M := mX11_family) (v := (-2)) dX11_family_58 60 rfl (by decide) ?_
              exact pv_iret (M := mX11_family) dX11_family_60 rfl rfl ⟨_, _, _, rfl, rfl, I, Kp, by decide, by decide, trivial⟩
          · have c11 := iv_nlt (X := x3.toInt) (Y := 8) c11 rfl (by decide)
            refine pv_iconst (M := mX11_family) (v := (-1)) dX11_family_38 39 rfl (by decide) ?_
            exact pv_iret (M := mX11_family) dX11_family_39 rfl rfl ⟨_, _, _, rfl, rfl, I, Kp, by decide, by decide, trivial⟩
      · have c9 := iv_eq (X := v8.toInt) (Y := 0) c9 rfl (by decide)
        refine pv_iconst (M := mX11_family) (v := (-1)) dX11_family_23 24 rfl (by decide) ?_
        exact pv_iret (M := mX11_family) dX11_family_24 rfl rfl ⟨_, _, _, rfl, rfl, I, Kp, by decide, by decide, trivial⟩

set_option maxHeartbeats 2000000 in
set_option maxRecDepth 20000 in
theorem s_X11_count (g : pv_G) {T : List mv_T} {m : Nat → Nat → Int32} {n : Nat → Nat → Int64} {r : Nat → Value} {la lb : Nat} (hT : TX T) (I : IV BB m) (R : RX T r la lb) (x0 : Int32) : PM g mX11_count yX11_count (sqP (mk T m n r) (-2147483648) 2147483647 (fun v => True)) 3 0 0 [.ref 0, .int x0] (mk T m n r) := by
  have Kp : fr (wl []) m m := fr.rf
  have R0 := R
  have zR := R.2.2.2.2.1.1
  have zR2 := R.2.2.2.2.2.1
  refine PM.of 0 (lo := [.ref 0, .int x0]) rfl (by decide) rfl rfl (Nat.le_of_ble_eq_true rfl) ?_
  refine pv_iload_n (M := mX11_count) 1 dX11_count_0 1 rfl rfl rfl ?_
  refine pv_bipush (M := mX11_count) (v := 10) dX11_count_1 3 rfl (by decide) ?_
  refine pv_icmp_lt (M := mX11_count) (tgt := 43) dX11_count_3 6 rfl (by decide) (fun c1 => ?_) (fun c1 => ?_)
  · have c1 := iv_lt (X := x0.toInt) (Y := 10) c1 rfl (by decide)
    refine pv_iload_n (M := mX11_count) 1 dX11_count_43 44 rfl rfl rfl ?_
    refine pv_bipush (M := mX11_count) (v := 20) dX11_count_44 46 rfl (by decide) ?_
    refine pv_icmp_lt (M := mX11_count) (tgt := 68) dX11_count_46 49 rfl (by decide) (fun c2 => ?_) (fun c2 => ?_)
    · have c2 := iv_lt (X := x0.toInt) (Y := 20) c2 rfl (by decide)
      refine pv_iload_n (M := mX11_count) 1 dX11_count_68 69 rfl rfl rfl ?_
      by_cases c3 : x0.toInt = 0
      · refine iv_tabIn (M := mX11_count) (X := 0) (off := 47) (tgt := 116) dX11_count_69 c3 (by decide) (by decide) (by decide) (by decide) ?_
        refine pv_aload_n (M := mX11_count) 0 dX11_count_116 117 rfl rfl rfl ?_
        refine iv_get (M := mX11_count) (l1 := 0) (l2 := 8) dX11_count_117 FX11 2 wd409 (by decide) (tl0 hT) rfl I rfl 120 rfl (fun v4 ev4 pv4 qv4 => ?_)
        exact pv_iret (M := mX11_count) dX11_count_120 rfl rfl ⟨_, rfl, rfl, (iv_rng v4).1, (iv_rng v4).2, trivial⟩
      by_cases c5 : x0.toInt = 1
      · refine iv_tabIn (M := mX11_count) (X := 1) (off := 52) (tgt := 121) dX11_count_69 c5 (by decide) (by decide) (by decide) (by decide) ?_
        refine pv_aload_n (M := mX11_count) 0 dX11_count_121 122 rfl rfl rfl ?_
        refine pv_callv (M := mX11_count) (as := []) (st := []) (kc2 := 0) (ks2 := 0) dX11_count_122 wd923 YX11_toldDeeds ⟨wd925, wd34⟩ (mk_get (tl0 hT)) rfl rfl (s_X11_toldDeeds g hT I R) rfl rfl (Nat.le_of_ble_eq_true rfl) (by decide) rfl rfl 125 rfl (fun rv h1 q6 => ?_)
        obtain ⟨v7, rfl, rfl, pv7, qv7, rv7⟩ := q6
        replace rv7 : v7 = tld m 8 := rv7
        show PV _ _ _ _ _ _ _ 125 [.ref 0, .int x0] [.int v7] _
        exact pv_iret (M := mX11_count) dX11_count_125 rfl rfl ⟨_, rfl, rfl, (iv_rng v7).1, (iv_rng v7).2, trivial⟩
      by_cases c8 : x0.toInt = 2
      · refine iv_tabIn (M := mX11_count) (X := 2) (off := 57) (tgt := 126) dX11_count_69 c8 (by decide) (by decide) (by decide) (by decide) ?_
        refine pv_aload_n (M := mX11_count) 0 dX11_count_126 127 rfl rfl rfl ?_
        refine mv_get (M := mX11_count) (v := .ref la) dX11_count_127 FX11 4 wd411 (by decide) (tl0 hT) rfl R.2.2.1 130 rfl ?_
        refine iv_get (M := mX11_count) (l1 := 0) (l2 := 12) dX11_count_130 FX6 7 wd242 (by decide) R.2.2.2.2.1.2.1 rfl I (law_b7 R.2.2.2.2.1) 133 rfl (fun v9 ev9 pv9 qv9 => ?_)
        exact pv_iret (M := mX11_count) dX11_count_133 rfl rfl ⟨_, rfl, rfl, (iv_rng v9).1, (iv_rng v9).2, trivial⟩
      by_cases c10 : x0.toInt = 3
      · refine iv_tabIn (M := mX11_count) (X := 3) (off := 65) (tgt := 134) dX11_count_69 c10 (by decide) (by decide) (by decide) (by decide) ?_
        refine pv_aload_n (M := mX11_count) 0 dX11_count_134 135 rfl rfl rfl ?_
        refine mv_get (M := mX11_count) (v := .ref 1) dX11_count_135 FX11 0 wd407 (by decide) (tl0 hT) rfl rfl 138 rfl ?_
        refine iv_get (M := mX11_count) (l1 := 0) (l2 := 200) dX11_count_138 FX10 1 wd164 (by decide) (tl1 hT) rfl I rfl 141 rfl (fun v11 ev11 pv11 qv11 => ?_)
        exact pv_iret (M := mX11_count) dX11_count_141 rfl rfl ⟨_, rfl, rfl, (iv_rng v11).1, (iv_rng v11).2, trivial⟩
      by_cases c12 : x0.toInt = 4
      · refine iv_tabIn (M := mX11_count) (X := 4) (off := 73) (tgt := 142) dX11_count_69 c12 (by decide) (by decide) (by decide) (by decide) ?_
        refine pv_aload_n (M := mX11_count) 0 dX11_count_142 143 rfl rfl rfl ?_
        refine iv_get (M := mX11_count) (l1 := 0) (l2 := 999) dX11_count_143 FX11 7 wd414 (by decide) (tl0 hT) rfl I rfl 146 rfl (fun v13 ev13 pv13 qv13 => ?_)
        exact pv_iret (M := mX11_count) dX11_count_146 rfl rfl ⟨_, rfl, rfl, (iv_rng v13).1, (iv_rng v13).2, trivial⟩
      by_cases c14 : x0.toInt = 5
      · refine iv_tabIn (M := mX11_count) (X := 5) (off := 78) (tgt := 147) dX11_count_69 c14 (by decide) (by decide) (by decide) (by decide) ?_
        refine pv_aload_n (M := mX11_count) 0 dX11_count_147 148 rfl rfl rfl ?_
        refine mv_get (M := mX11_count) (v := .ref 97) dX11_count_148 FX11 6 wd413 (by decide) (tl0 hT) rfl rfl 151 rfl ?_
        refine iv_get (M := mX11_count) (l1 := 0) (l2 := 60) dX11_count_151 FX1 6 wd310 (by decide) (tl97 hT) rfl I rfl 154 rfl (fun v15 ev15 pv15 qv15 => ?_)
        exact pv_iret (M := mX11_count) dX11_count_154 rfl rfl ⟨_, rfl, rfl, (iv_rng v15).1, (iv_rng v15).2, trivial⟩
      by_cases c16 : x0.toInt = 6
      · refine iv_tabIn (M := mX11_count) (X := 6) (off := 86) (tgt := 155) dX11_count_69 c16 (by decide) (by decide) (by decide) (by decide) ?_
        refine pv_aload_n (M := mX11_count) 0 dX11_count_155 156 rfl rfl rfl ?_
        refine iv_get (M := mX11_count) (l1 := 0) (l2 := 65535) dX11_count_156 FX11 8 wd415 (by decide) (tl0 hT) rfl I rfl 159 rfl (fun v17 ev17 pv17 qv17 => ?_)
        exact pv_iret (M := mX11_count) dX11_count_159 rfl rfl ⟨_, rfl, rfl, (iv_rng v17).1, (iv_rng v17).2, trivial⟩
      by_cases c18 : x0.toInt = 7
      · refine iv_tabIn (M := mX11_count) (X := 7) (off := 91) (tgt := 160) dX11_count_69 c18 (by decide) (by decide) (by decide) (by decide) ?_
        refine pv_aload_n (M := mX11_count) 0 dX11_count_160 161 rfl rfl rfl ?_
        refine mv_get (M := mX11_count) (v := .ref 97) dX11_count_161 FX11 6 wd413 (by decide) (tl0 hT) rfl rfl 164 rfl ?_
        refine pv_callv (M := mX11_count) (as := []) (st := []) (kc2 := 0) (ks2 := 0) dX11_count_164 wd1163 YX1_costOfAll ⟨wd1164, wd1165⟩ (mk_get (tl97 hT)) rfl rfl (s_X1_costOfAll g hT I) rfl rfl (Nat.le_of_ble_eq_true rfl) (by decide) rfl rfl 167 rfl (fun rv h1 q19 => ?_)
        obtain ⟨v20, rfl, rfl, pv20, qv20, rv20⟩ := q19
        show PV _ _ _ _ _ _ _ 167 [.ref 0, .int x0] [.int v20] _
        exact pv_iret (M := mX11_count) dX11_count_167 rfl rfl ⟨_, rfl, rfl, (iv_rng v20).1, (iv_rng v20).2, trivial⟩
      refine pv_tableOut (M := mX11_count) (tgt := 168) dX11_count_69 (by omega) (by decide) ?_
      refine pv_iconst (M := mX11_count) (v := (-1)) dX11_count_168 169 rfl (by decide) ?_
      exact pv_iret (M := mX11_count) dX11_count_169 rfl rfl ⟨_, rfl, rfl, by decide, by decide, trivial⟩
    · have c2 := iv_nlt (X := x0.toInt) (Y := 20) c2 rfl (by decide)
      omega
  · have c1 := iv_nlt (X := x0.toInt) (Y := 10) c1 rfl (by decide)
    refine pv_iload_n (M := mX11_count) 1 dX11_count_6 7 rfl rfl rfl ?_
    refine pv_bipush (M := mX11_count) (v := 18) dX11_count_7 9 rfl (by decide) ?_
    refine pv_icmp_ge (M := mX11_count) (tgt := 43) dX11_count_9 12 rfl (by decide) (fun c21 => ?_) (fun c21 => ?_)
    · have c21 := iv_le (X := 18) (Y := x0.toInt) c21 (by decide) rfl
      refine pv_iload_n (M := mX11_count) 1 dX11_count_43 44 rfl rfl rfl ?_
      refine pv_bipush (M := mX11_count) (v := 20) dX11_count_44 46 rfl (by decide) ?_
      refine pv_icmp_lt (M := mX11_count) (tgt := 68) dX11_count_46 49 rfl (by decide) (fun c22 => ?_) (fun c22 => ?_)
      · have c22 := iv_lt (X := x0.toInt) (Y := 20) c22 rfl (by decide)
        refine pv_iload_n (M := mX11_count) 1 dX11_count_68 69 rfl rfl rfl ?_
        refine pv_tableOut (M := mX11_count) (tgt := 168) dX11_count_69 (by omega) (by decide) ?_
        refine pv_iconst (M := mX11_count) (v := (-1)) dX11_count_168 169 rfl (by decide) ?_
        exact pv_iret (M := mX11_count) dX11_count_169 rfl rfl ⟨_, rfl, rfl, by decide, by decide, trivial⟩
      · have c22 := iv_nlt (X := x0.toInt) (Y := 20) c22 rfl (by decide)
        refine pv_iload_n (M := mX11_count) 1 dX11_count_49 50 rfl rfl rfl ?_
        refine pv_bipush (M := mX11_count) (v := 28) dX11_count_50 52 rfl (by decide) ?_
        refine pv_icmp_ge (M := mX11_count) (tgt := 68) dX11_count_52 55 rfl (by decide) (fun c23 => ?_) (fun c23 => ?_)
        · have c23 := iv_le (X := 28) (Y := x0.toInt) c23 (by decide) rfl
          refine pv_iload_n (M := mX11_count) 1 dX11_count_68 69 rfl rfl rfl ?_
          refine pv_tableOut (M := mX11_count) (tgt := 168) dX11_count_69 (by omega) (by decide) ?_
          refine pv_iconst (M := mX11_count) (v := (-1)) dX11_count_168 169 rfl (by decide) ?_
          exact pv_iret (M := mX11_count) dX11_count_169 rfl rfl ⟨_, rfl, rfl, by decide, by decide, trivial⟩
        · have c23 := iv_nle (X := 28) (Y := x0.toInt) c23 (by decide) rfl
          refine pv_aload_n (M := mX11_count) 0 dX11_count_55 56 rfl rfl rfl ?_
          refine mv_get (M := mX11_count) (v := .ref 60) dX11_count_56 FX11 3 wd410 (by decide) (tl0 hT) rfl rfl 59 rfl ?_
          refine pv_iload_n (M := mX11_count) 1 dX11_count_59 60 rfl rfl rfl ?_
          refine pv_bipush (M := mX11_count) (v := 20) dX11_count_60 62 rfl (by decide) ?_
          refine iv_isub (M := mX11_count) (X := x0.toInt) (Y := 20) dX11_count_62 63 rfl rfl (by decide) (by omega) (by omega) (fun v24 ev24 => ?_)
          refine iv_qdeed (M := mX11_count) (X := v24.toInt) dX11_count_63 hT R rfl (by omega) (by omega) 64 rfl (fun b25 eb25 hb25 => ?_)
          have zb25 := hb25.2.2.2.2
          refine iv_get (M := mX11_count) (l1 := 0) (l2 := 16) dX11_count_64 FX8 1 wd200 (by decide) hb25.1 rfl I hb25.2.2.1 67 rfl (fun v26 ev26 pv26 qv26 => ?_)
          exact pv_iret (M := mX11_count) dX11_count_67 rfl rfl ⟨_, rfl, rfl, (iv_rng v26).1, (iv_rng v26).2, trivial⟩
    · have c21 := iv_nle (X := 18) (Y := x0.toInt) c21 (by decide) rfl
      refine pv_aload_n (M := mX11_count) 0 dX11_count_12 13 rfl rfl rfl ?_
      refine pv_iload_n (M := mX11_count) 1 dX11_count_13 14 rfl rfl rfl ?_
      refine pv_bipush (M := mX11_count) (v := 10) dX11_count_14 16 rfl (by decide) ?_
      refine iv_isub (M := mX11_count) (X := x0.toInt) (Y := 10) dX11_count_16 17 rfl rfl (by decide) (by omega) (by omega) (fun v27 ev27 => ?_)
      refine pv_callv (M := mX11_count) (as := [.int v27]) (st := []) (kc2 := 0) (ks2 := 0) dX11_count_17 wd700 YX11_isBlank ⟨wd702, wd16⟩ (mk_get (tl0 hT)) rfl rfl (s_X11_isBlank g hT I R v27) rfl rfl (Nat.le_of_ble_eq_true rfl) (by decide) rfl rfl 20 rfl (fun rv h1 q28 => ?_)
      obtain ⟨v29, rfl, rfl, pv29, qv29, rv29⟩ := q28
      replace rv29 : v29 = 0 ∨ (0 ≤ v27.toInt ∧ v27.toInt ≤ 7) := rv29
      show PV _ _ _ _ _ _ _ 20 [.ref 0, .int x0] [.int v29] _
      refine pv_if_eq (M := mX11_count) (tgt := 41) dX11_count_20 23 rfl (by decide) (fun c30 => ?_) (fun c30 => ?_)
      · have c30 := iv_eq (X := v29.toInt) (Y := 0) c30 rfl (by decide)
        refine pv_iconst (M := mX11_count) (v := (-1)) dX11_count_41 42 rfl (by decide) ?_
        exact pv_iret (M := mX11_count) dX11_count_42 rfl rfl ⟨_, rfl, rfl, by decide, by decide, trivial⟩
      · have pc30 := rv29.resolve_left c30
        have c30 := iv_ne (X := v29.toInt) (Y := 0) c30 rfl (by decide)
        refine pv_aload_n (M := mX11_count) 0 dX11_count_23 24 rfl rfl rfl ?_
        refine mv_get (M := mX11_count) (v := .ref 3) dX11_count_24 FX11 1 wd408 (by decide) (tl0 hT) rfl rfl 27 rfl ?_
        refine pv_iload_n (M := mX11_count) 1 dX11_count_27 28 rfl rfl rfl ?_
        refine pv_bipush (M := mX11_count) (v := 10) dX11_count_28 30 rfl (by decide) ?_
        refine iv_isub (M := mX11_count) (X := x0.toInt) (Y := 10) dX11_count_30 31 rfl rfl (by decide) (by omega) (by omega) (fun v31 ev31 => ?_)
        refine iv_qblank (M := mX11_count) (X := v31.toInt) dX11_count_31 hT R rfl (by omega) (by omega) 32 rfl (fun b32 eb32 hb32 => ?_)
        have zb32 := hb32.2.2.2.2.2.2.2
        refine mv_get (M := mX11_count) (v := .ref (b32 + 3)) dX11_count_32 FX0 1 wd210 (by decide) hb32.1 rfl rfl 35 rfl ?_
        refine iv_get (M := mX11_count) (l1 := 0) (l2 := 40) dX11_count_35 FX8 1 wd200 (by decide) hb32.2.2.1.1 rfl I hb32.2.2.1.2.2.1 38 rfl (fun v33 ev33 pv33 qv33 => ?_)
        refine pv_goto (M := mX11_count) (tgt := 42) dX11_count_38 (by decide) ?_
        exact pv_iret (M := mX11_count) dX11_count_42 rfl rfl ⟨_, rfl, rfl, (iv_rng v33).1, (iv_rng v33).2, trivial⟩

set_option maxHeartbeats 2000000 in
set_option maxRecDepth 20000 in
theorem s_X11_refuseCover (g : pv_G) {T : List mv_T} {m : Nat → Nat → Int32} {n : Nat → Nat → Int64} {r : Nat → Value} {la lb : Nat} (hT : TX T) (I : IV BB m) (R : RX T r la lb) (x0 : Int32) : PM g mX11_refuseCover yX11_refuseCover (sqP (mk T m n r) (-2) 0 (fun v => RFZ m x0 v)) 4 0 0 [.ref 0, .int x0] (mk T m n r) := by
  have Kp : fr (wl []) m m := fr.rf
  have R0 := R
  have zR := R.2.2.2.2.1.1
  have zR2 := R.2.2.2.2.2.1
  refine PM.of 2 (lo := [.ref 0, .int x0, pv_U, pv_U]) rfl (by decide) rfl rfl (Nat.le_of_ble_eq_true rfl) ?_
  refine pv_iload_n (M := mX11_refuseCover) 1 dX11_refuseCover_0 1 rfl rfl rfl ?_
  refine pv_calls (M := mX11_refuseCover) (as := [.int x0]) (st := []) (kc2 := 0) (ks2 := 0) dX11_refuseCover_1 wd913 YJ6_bitCount_0f7a4 wd914 (s_J6_bitCount_0f7a4 g hT I x0) rfl rfl (Nat.le_of_ble_eq_true rfl) (by decide) rfl rfl 4 rfl (fun rv h1 q1 => ?_)
  obtain ⟨v2, rfl, rfl, pv2, qv2, rv2⟩ := q1
  replace rv2 : v2 = bcn x0 := rv2
  show PV _ _ _ _ _ _ _ 4 [.ref 0, .int x0, pv_U, pv_U] [.int v2] _
  have k4 : v2.toInt = (bcn x0).toInt := congrArg Int32.toInt rv2
  refine pv_istore_n (M := mX11_refuseCover) 2 (lo2 := [.ref 0, .int x0, .int v2, pv_U]) dX11_refuseCover_4 5 rfl rfl (by decide) rfl rfl ?_
  refine pv_aload_n (M := mX11_refuseCover) 0 dX11_refuseCover_5 6 rfl rfl rfl ?_
  refine pv_iload_n (M := mX11_refuseCover) 1 dX11_refuseCover_6 7 rfl rfl rfl ?_
  refine pv_callv (M := mX11_refuseCover) (as := [.int x0]) (st := []) (kc2 := 0) (ks2 := 0) dX11_refuseCover_7 wd919 YX11_areDeeds ⟨wd921, wd33⟩ (mk_get (tl0 hT)) rfl rfl (s_X11_areDeeds g hT I R x0) rfl rfl (Nat.le_of_ble_eq_true rfl) (by decide) rfl rfl 10 rfl (fun rv h1 q4 => ?_)
  obtain ⟨v5, rfl, rfl, pv5, qv5, rv5⟩ := q4
  replace rv5 : v5 = adv m x0 := rv5
  show PV _ _ _ _ _ _ _ 10 [.ref 0, .int x0, .int v2, pv_U] [.int v5] _
  have k10 : (adv m x0).toInt = v5.toInt := by rw [rv5]
  refine pv_if_eq (M := mX11_refuseCover) (tgt := 23) dX11_refuseCover_10 13 rfl (by decide) (fun c7 => ?_) (fun c7 => ?_)
  · have c7 := iv_eq (X := v5.toInt) (Y := 0) c7 rfl (by decide)
    refine pv_iconst (M := mX11_refuseCover) (v := (-1)) dX11_refuseCover_23 24 rfl (by decide) ?_
    have z8 : ((-1) : Int32).toInt = (-1) := by decide
    exact pv_iret (M := mX11_refuseCover) dX11_refuseCover_24 rfl rfl ⟨_, rfl, rfl, by decide, by decide, (rfz_no (by decide) (fun q => by have a := q.1; have b := q.2.1; have d := q.2.2.1; omega))⟩
  · have c7 := iv_ne (X := v5.toInt) (Y := 0) c7 rfl (by decide)
    refine pv_iload_n (M := mX11_refuseCover) 2 dX11_refuseCover_13 14 rfl rfl rfl ?_
    refine pv_iconst (M := mX11_refuseCover) (v := 2) dX11_refuseCover_14 15 rfl (by decide) ?_
    refine pv_icmp_lt (M := mX11_refuseCover) (tgt := 23) dX11_refuseCover_15 18 rfl (by decide) (fun c9 => ?_) (fun c9 => ?_)
    · have c9 := iv_lt (X := v2.toInt) (Y := 2) c9 rfl (by decide)
      refine pv_iconst (M := mX11_refuseCover) (v := (-1)) dX11_refuseCover_23 24 rfl (by decide) ?_
      have z10 : ((-1) : Int32).toInt = (-1) := by decide
      exact pv_iret (M := mX11_refuseCover) dX11_refuseCover_24 rfl rfl ⟨_, rfl, rfl, by decide, by decide, (rfz_no (by decide) (fun q => by have a := q.1; have b := q.2.1; have d := q.2.2.1; omega))⟩
    · have c9 := iv_nlt (X := v2.toInt) (Y := 2) c9 rfl (by decide)
      refine pv_iload_n (M := mX11_refuseCover) 2 dX11_refuseCover_18 19 rfl rfl rfl ?_
      refine pv_iconst (M := mX11_refuseCover) (v := 4) dX11_refuseCover_19 20 rfl (by decide) ?_
      refine pv_icmp_le (M := mX11_refuseCover) (tgt := 25) dX11_refuseCover_20 23 rfl (by decide) (fun c11 => ?_) (fun c11 => ?_)
      · have c11 := iv_le (X := v2.toInt) (Y := 4) c11 rfl (by decide)
        refine pv_iconst (M := mX11_refuseCover) (v := 0) dX11_refuseCover_25 26 rfl (by decide) ?_
        refine pv_istore_n (M := mX11_refuseCover) 3 (lo2 := [.ref 0, .int x0, .int v2, .int 0]) dX11_refuseCover_26 27 rfl rfl (by decide) rfl rfl ?_
        have lp18 : ∀ (fuel17 : Nat) (y12 : Int32), (0 ≤ y12.toInt) → (y12.toInt ≤ 8) → (∀ i : Nat, (i : Int) < y12.toInt → (amv x0 (Int32.ofInt i)).toInt ≠ 0 → (m (61 + 2 * i) 1).toInt ≤ 12) → ((8 - y12.toInt) : Int).toNat < fuel17 → PV none g mX11_refuseCover (sqP (mk T m n r) (-2) 0 (fun v => RFZ m x0 v)) 4 0 0 27 [.ref 0, .int x0, .int v2, .int y12] [] (mk T m n r) := by
          intro fuel17
          induction fuel17 with
          | zero => intro y12 b20 b21 b22 z23; omega
          | succ fuel17 ih19 =>
            intro y12 b20 b21 b22 z23
            have kg := (show ∀ i : Nat, (i : Int) < y12.toInt → (amv x0 (Int32.ofInt i)).toInt ≠ 0 → (m (61 + 2 * i) 1).toInt ≤ 12 by assumption)
            refine pv_iload_n (M := mX11_refuseCover) 3 dX11_refuseCover_27 28 rfl rfl rfl ?_
            refine pv_bipush (M := mX11_refuseCover) (v := 8) dX11_refuseCover_28 30 rfl (by decide) ?_
            refine pv_icmp_ge (M := mX11_refuseCover) (tgt := 64) dX11_refuseCover_30 33 rfl (by decide) (fun c25 => ?_) (fun c25 => ?_)
            · have c25 := iv_le (X := 8) (Y := y12.toInt) c25 (by decide) rfl
              refine pv_iconst (M := mX11_refuseCover) (v := 0) dX11_refuseCover_64 65 rfl (by decide) ?_
              have z26 : (0 : Int32).toInt = 0 := by decide
              exact pv_iret (M := mX11_refuseCover) dX11_refuseCover_65 rfl rfl ⟨_, rfl, rfl, by decide, by decide, ⟨fun _ => ⟨by omega, by omega, by omega, fun i hi hb => kg i (by omega) hb⟩, fun _ => by decide⟩⟩
            · have c25 := iv_nle (X := 8) (Y := y12.toInt) c25 (by decide) rfl
              refine pv_iload_n (M := mX11_refuseCover) 1 dX11_refuseCover_33 34 rfl rfl rfl ?_
              refine pv_iload_n (M := mX11_refuseCover) 3 dX11_refuseCover_34 35 rfl rfl rfl ?_
              refine pv_calls (M := mX11_refuseCover) (as := [.int x0, .int y12]) (st := []) (kc2 := 0) (ks2 := 0) dX11_refuseCover_35 wd931 YX11_isAmong wd932 (s_X11_isAmong g hT I x0 y12) rfl rfl (Nat.le_of_ble_eq_true rfl) (by decide) rfl rfl 38 rfl (fun rv h1 q27 => ?_)
              obtain ⟨v28, rfl, rfl, pv28, qv28, rv28⟩ := q27
              replace rv28 : v28 = amv x0 y12 := rv28
              show PV _ _ _ _ _ _ _ 38 [.ref 0, .int x0, .int v2, .int y12] [.int v28] _
              have k38 : (amv x0 (Int32.ofInt (y12.toInt.toNat : Nat))).toInt = v28.toInt := by rw [ofn (by omega), rv28]
              refine pv_if_eq (M := mX11_refuseCover) (tgt := 58) dX11_refuseCover_38 41 rfl (by decide) (fun c30 => ?_) (fun c30 => ?_)
              · have c30 := iv_eq (X := v28.toInt) (Y := 0) c30 rfl (by decide)
                refine iv_inc (M := mX11_refuseCover) (C := 1) dX11_refuseCover_58 61 rfl rfl (by decide) rfl rfl (by decide) (by omega) (by omega) (fun v31 ev31 => ?_)
                show PV _ _ _ _ _ _ _ 61 [.ref 0, .int x0, .int v2, .int v31] [] _
                refine pv_goto (M := mX11_refuseCover) (tgt := 27) dX11_refuseCover_61 (by decide) ?_
                have kb : ∀ i : Nat, (i : Int) < v31.toInt → (amv x0 (Int32.ofInt i)).toInt ≠ 0 → (m (61 + 2 * i) 1).toInt ≤ 12 := fun i a b => if z : (i : Int) = y12.toInt then (by rw [show i = (y12.toInt).toNat by omega] at b ⊢; omega) else kg i (by omega) b
                exact ih19 v31 (by first | omega | assumption | exact (iv_rng _).2 | exact (iv_rng _).1 | decide) (by first | omega | assumption | exact (iv_rng _).2 | exact (iv_rng _).1 | decide) kb (by omega)
              · have c30 := iv_ne (X := v28.toInt) (Y := 0) c30 rfl (by decide)
                refine pv_aload_n (M := mX11_refuseCover) 0 dX11_refuseCover_41 42 rfl rfl rfl ?_
                refine mv_get (M := mX11_refuseCover) (v := .ref 60) dX11_refuseCover_42 FX11 3 wd410 (by decide) (tl0 hT) rfl rfl 45 rfl ?_
                refine pv_iload_n (M := mX11_refuseCover) 3 dX11_refuseCover_45 46 rfl rfl rfl ?_
                refine iv_qdeed (M := mX11_refuseCover) (X := y12.toInt) dX11_refuseCover_46 hT R rfl (by omega) (by omega) 47 rfl (fun b33 eb33 hb33 => ?_)
                have zb33 := hb33.2.2.2.2
                refine iv_get (M := mX11_refuseCover) (l1 := 0) (l2 := 16) dX11_refuseCover_47 FX8 1 wd200 (by decide) hb33.1 rfl I hb33.2.2.1 50 rfl (fun v34 ev34 pv34 qv34 => ?_)
                have k50 : v34.toInt = (m (61 + 2 * y12.toInt.toNat) 1).toInt := (congrArg Int32.toInt ev34).trans (congrArg (fun z => (m z 1).toInt) (by omega))
                refine pv_bipush (M := mX11_refuseCover) (v := 12) dX11_refuseCover_50 52 rfl (by decide) ?_
                refine pv_icmp_le (M := mX11_refuseCover) (tgt := 58) dX11_refuseCover_52 55 rfl (by decide) (fun c36 => ?_) (fun c36 => ?_)
                · have c36 := iv_le (X := v34.toInt) (Y := 12) c36 rfl (by decide)
                  refine iv_inc (M := mX11_refuseCover) (C := 1) dX11_refuseCover_58 61 rfl rfl (by decide) rfl rfl (by decide) (by omega) (by omega) (fun v37 ev37 => ?_)
                  show PV _ _ _ _ _ _ _ 61 [.ref 0, .int x0, .int v2, .int v37] [] _
                  refine pv_goto (M := mX11_refuseCover) (tgt := 27) dX11_refuseCover_61 (by decide) ?_
                  have kb : ∀ i : Nat, (i : Int) < v37.toInt → (amv x0 (Int32.ofInt i)).toInt ≠ 0 → (m (61 + 2 * i) 1).toInt ≤ 12 := fun i a b => if z : (i : Int) = y12.toInt then (by rw [show i = (y12.toInt).toNat by omega] at b ⊢; omega) else kg i (by omega) b
                  exact ih19 v37 (by first | omega | assumption | exact (iv_rng _).2 | exact (iv_rng _).1 | decide) (by first | omega | assumption | exact (iv_rng _).2 | exact (iv_rng _).1 | decide) kb (by omega)
                · have c36 := iv_nle (X := v34.toInt) (Y := 12) c36 rfl (by decide)
                  refine pv_bipush (M := mX11_refuseCover) (v := (-2)) dX11_refuseCover_55 57 rfl (by decide) ?_
                  have z39 : ((-2) : Int32).toInt = (-2) := by decide
                  exact pv_iret (M := mX11_refuseCover) dX11_refuseCover_57 rfl rfl ⟨_, rfl, rfl, by decide, by decide, (rfz_no (by decide) (fun q => by have d := q.2.2.2 y12.toInt.toNat (by omega) (by omega); omega))⟩
        have z40 : (0 : Int32).toInt = 0 := by decide
        exact lp18 (((8 - 0) : Int).toNat + 1) 0 (by first | omega | assumption | exact (iv_rng _).2 | exact (iv_rng _).1 | decide) (by first | omega | assumption | exact (iv_rng _).2 | exact (iv_rng _).1 | decide) (fun i a => by rw [Int32.toInt_zero] at a; omega) (by omega)
      · have c11 := iv_nle (X := v2.toInt) (Y := 4) c11 rfl (by decide)
        refine pv_iconst (M := mX11_refuseCover) (v := (-1)) dX11_refuseCover_23 24 rfl (by decide) ?_
        have z41 : ((-1) : Int32).toInt = (-1) := by decide
        exact pv_iret (M := mX11_refuseCover) dX11_refuseCover_24 rfl rfl ⟨_, rfl, rfl, by decide, by decide, (rfz_no (by decide) (fun q => by have a := q.1; have b := q.2.1; have d := q.2.2.1; omega))⟩

set_option maxHeartbeats 2000000 in
set_option maxRecDepth 20000 in
theorem s_X11_longestBehind (g : pv_G) {T : List mv_T} {m : Nat → Nat → Int32} {n : Nat → Nat → Int64} {r : Nat → Value} {la lb : Nat} (hT : TX T) (I : IV BB m) (R : RX T r la lb) (x0 : Int32) (hl0 : 0 ≤ x0.toInt) (hh0 : x0.toInt ≤ 7) (c : Int) (hp0 : MX m c) (hp1 : 0 ≤ c) : PM g mX11_longestBehind yX11_longestBehind (sqP (mk T m n r) 0 8 (fun v => v.toInt ≤ c)) 4 0 0 [.ref 0, .int x0] (mk T m n r) := by
  have Kp : fr (wl []) m m := fr.rf
  have R0 := R
  have zR := R.2.2.2.2.1.1
  have zR2 := R.2.2.2.2.2.1
  refine PM.of 2 (lo := [.ref 0, .int x0, pv_U, pv_U]) rfl (by decide) rfl rfl (Nat.le_of_ble_eq_true rfl) ?_
  refine pv_iconst (M := mX11_longestBehind) (v := 0) dX11_longestBehind_0 1 rfl (by decide) ?_
  refine pv_istore_n (M := mX11_longestBehind) 2 (lo2 := [.ref 0, .int x0, .int 0, pv_U]) dX11_longestBehind_1 2 rfl rfl (by decide) rfl rfl ?_
  refine pv_iconst (M := mX11_longestBehind) (v := 0) dX11_longestBehind_2 3 rfl (by decide) ?_
  refine pv_istore_n (M := mX11_longestBehind) 3 (lo2 := [.ref 0, .int x0, .int 0, .int 0]) dX11_longestBehind_3 4 rfl rfl (by decide) rfl rfl ?_
  have lp8 : ∀ (fuel7 : Nat) (y1 : Int32) (y2 : Int32), (0 ≤ y1.toInt) → (y1.toInt ≤ 8) → (0 ≤ y2.toInt) → (y2.toInt ≤ 8) → (y1.toInt ≤ c) → ((8 - y2.toInt) : Int).toNat < fuel7 → PV none g mX11_longestBehind (sqP (mk T m n r) 0 8 (fun v => v.toInt ≤ c)) 4 0 0 4 [.ref 0, .int x0, .int y1, .int y2] [] (mk T m n r) := by
    intro fuel7
    induction fuel7 with
    | zero => intro y1 y2 b10 b11 b12 b13 b14 z15; omega
    | succ fuel7 ih9 =>
      intro y1 y2 b10 b11 b12 b13 b14 z15
      refine pv_iload_n (M := mX11_longestBehind) 3 dX11_longestBehind_4 5 rfl rfl rfl ?_
      refine pv_bipush (M := mX11_longestBehind) (v := 8) dX11_longestBehind_5 7 rfl (by decide) ?_
      refine pv_icmp_ge (M := mX11_longestBehind) (tgt := 44) dX11_longestBehind_7 10 rfl (by decide) (fun c16 => ?_) (fun c16 => ?_)
      · have c16 := iv_le (X := 8) (Y := y2.toInt) c16 (by decide) rfl
        refine pv_iload_n (M := mX11_longestBehind) 2 dX11_longestBehind_44 45 rfl rfl rfl ?_
        exact pv_iret (M := mX11_longestBehind) dX11_longestBehind_45 rfl rfl ⟨_, rfl, rfl, by omega, by omega, (by first | omega | assumption)⟩
      · have c16 := iv_nle (X := 8) (Y := y2.toInt) c16 (by decide) rfl
        refine pv_aload_n (M := mX11_longestBehind) 0 dX11_longestBehind_10 11 rfl rfl rfl ?_
        refine pv_iload_n (M := mX11_longestBehind) 3 dX11_longestBehind_11 12 rfl rfl rfl ?_
        refine pv_callv (M := mX11_longestBehind) (as := [.int y2]) (st := []) (kc2 := 0) (ks2 := 0) dX11_longestBehind_12 wd828 YX11_isDeed ⟨wd830, wd25⟩ (mk_get (tl0 hT)) rfl rfl (s_X11_isDeed g hT I R y2) rfl rfl (Nat.le_of_ble_eq_true rfl) (by decide) rfl rfl 15 rfl (fun rv h1 q17 => ?_)
        obtain ⟨v18, rfl, rfl, pv18, qv18, rv18⟩ := q17
        replace rv18 : (v18 = 0 ∨ (0 ≤ y2.toInt ∧ y2.toInt ≤ 7)) ∧ v18 = ddv m y2 := rv18
        show PV _ _ _ _ _ _ _ 15 [.ref 0, .int x0, .int y1, .int y2] [.int v18] _
        refine pv_if_eq (M := mX11_longestBehind) (tgt := 38) dX11_longestBehind_15 18 rfl (by decide) (fun c19 => ?_) (fun c19 => ?_)
        · have c19 := iv_eq (X := v18.toInt) (Y := 0) c19 rfl (by decide)
          refine iv_inc (M := mX11_longestBehind) (C := 1) dX11_longestBehind_38 41 rfl rfl (by decide) rfl rfl (by decide) (by omega) (by omega) (fun v20 ev20 => ?_)
          show PV _ _ _ _ _ _ _ 41 [.ref 0, .int x0, .int y1, .int v20] [] _
          refine pv_goto (M := mX11_longestBehind) (tgt := 4) dX11_longestBehind_41 (by decide) ?_
          exact ih9 y1 v20 (by first | omega | assumption | exact (iv_rng _).2 | exact (iv_rng _).1 | decide) (by first | omega | assumption | exact (iv_rng _).2 | exact (iv_rng _).1 | decide) (by first | omega | assumption | exact (iv_rng _).2 | exact (iv_rng _).1 | decide) (by first | omega | assumption | exact (iv_rng _).2 | exact (iv_rng _).1 | decide) (by first | omega | assumption | (show y1.toInt ≤ c; omega) | decide) (by omega)
        · have pc19 := rv18.1.resolve_left c19
          have c19 := iv_ne (X := v18.toInt) (Y := 0) c19 rfl (by decide)
          refine pv_aload_n (M := mX11_longestBehind) 0 dX11_longestBehind_18 19 rfl rfl rfl ?_
          refine pv_iload_n (M := mX11_longestBehind) 3 dX11_longestBehind_19 20 rfl rfl rfl ?_
          refine pv_iload_n (M := mX11_longestBehind) 1 dX11_longestBehind_20 21 rfl rfl rfl ?_
          refine pv_callv (M := mX11_longestBehind) (as := [.int y2, .int x0]) (st := []) (kc2 := 0) (ks2 := 0) dX11_longestBehind_21 wd1116 YX11_descends ⟨wd1118, wd49⟩ (mk_get (tl0 hT)) rfl rfl (s_X11_descends g hT I R y2 (by omega) (by omega) x0 (by omega) (by omega)) rfl rfl (Nat.le_of_ble_eq_true rfl) (by decide) rfl rfl 24 rfl (fun rv h1 q21 => ?_)
          obtain ⟨v22, rfl, rfl, pv22, qv22, rv22⟩ := q21
          show PV _ _ _ _ _ _ _ 24 [.ref 0, .int x0, .int y1, .int y2] [.int v22] _
          refine pv_if_eq (M := mX11_longestBehind) (tgt := 38) dX11_longestBehind_24 27 rfl (by decide) (fun c23 => ?_) (fun c23 => ?_)
          · have c23 := iv_eq (X := v22.toInt) (Y := 0) c23 rfl (by decide)
            refine iv_inc (M := mX11_longestBehind) (C := 1) dX11_longestBehind_38 41 rfl rfl (by decide) rfl rfl (by decide) (by omega) (by omega) (fun v24 ev24 => ?_)
            show PV _ _ _ _ _ _ _ 41 [.ref 0, .int x0, .int y1, .int v24] [] _
            refine pv_goto (M := mX11_longestBehind) (tgt := 4) dX11_longestBehind_41 (by decide) ?_
            exact ih9 y1 v24 (by first | omega | assumption | exact (iv_rng _).2 | exact (iv_rng _).1 | decide) (by first | omega | assumption | exact (iv_rng _).2 | exact (iv_rng _).1 | decide) (by first | omega | assumption | exact (iv_rng _).2 | exact (iv_rng _).1 | decide) (by first | omega | assumption | exact (iv_rng _).2 | exact (iv_rng _).1 | decide) (by first | omega | assumption | (show y1.toInt ≤ c; omega) | decide) (by omega)
          · have c23 := iv_ne (X := v22.toInt) (Y := 0) c23 rfl (by decide)
            refine pv_iload_n (M := mX11_longestBehind) 2 dX11_longestBehind_27 28 rfl rfl rfl ?_
            refine pv_aload_n (M := mX11_longestBehind) 0 dX11_longestBehind_28 29 rfl rfl rfl ?_
            refine mv_get (M := mX11_longestBehind) (v := .ref 121) dX11_longestBehind_29 FX11 15 wd422 (by decide) (tl0 hT) rfl rfl 32 rfl ?_
            refine pv_iload_n (M := mX11_longestBehind) 3 dX11_longestBehind_32 33 rfl rfl rfl ?_
            refine iv_iald (M := mX11_longestBehind) (X := y2.toInt) (l1 := 0) (l2 := 8) dX11_longestBehind_33 (tl121 hT) rfl (by omega) (by omega) I (fun _ => rfl) 34 rfl (fun v25 ev25 pv25 qv25 => ?_)
            have kq : v25.toInt ≤ c := by rw [ev25]; exact hp0 _ (by omega)
            refine iv_max (M := mX11_longestBehind) (X := y1.toInt) (Y := v25.toInt) dX11_longestBehind_34 wd883 Wmmax (Nat.le_of_ble_eq_true rfl) (by decide) rfl rfl 37 rfl (fun v27 ev27 fv27 gv27 => ?_)
            refine pv_istore_n (M := mX11_longestBehind) 2 (lo2 := [.ref 0, .int x0, .int v27, .int y2]) dX11_longestBehind_37 38 rfl rfl (by decide) rfl rfl ?_
            refine iv_inc (M := mX11_longestBehind) (C := 1) dX11_longestBehind_38 41 rfl rfl (by decide) rfl rfl (by decide) (by omega) (by omega) (fun v28 ev28 => ?_)
            show PV _ _ _ _ _ _ _ 41 [.ref 0, .int x0, .int v27, .int v28] [] _
            refine pv_goto (M := mX11_longestBehind) (tgt := 4) dX11_longestBehind_41 (by decide) ?_
            exact ih9 v27 v28 (by first | omega | assumption | exact (iv_rng _).2 | exact (iv_rng _).1 | decide) (by first | omega | assumption | exact (iv_rng _).2 | exact (iv_rng _).1 | decide) (by first | omega | assumption | exact (iv_rng _).2 | exact (iv_rng _).1 | decide) (by first | omega | assumption | exact (iv_rng _).2 | exact (iv_rng _).1 | decide) (by first | omega | assumption | (show v27.toInt ≤ c; omega) | decide) (by omega)
  have z29 : (0 : Int32).toInt = 0 := by decide
  have z30 : (0 : Int32).toInt = 0 := by decide
  exact lp8 (((8 - 0) : Int).toNat + 1) 0 0 (by first | omega | assumption | exact (iv_rng _).2 | exact (iv_rng _).1 | decide) (by first | omega | assumption | exact (iv_rng _).2 | exact (iv_rng _).1 | decide) (by first | omega | assumption | exact (iv_rng _).2 | exact (iv_rng _).1 | decide) (by first | omega | assumption | exact (iv_rng _).2 | exact (iv_rng _).1 | decide) (by first | omega | assumption | (show 0 ≤ c; omega) | decide) (by omega)

set_option maxHeartbeats 2000000 in
set_option maxRecDepth 20000 in
theorem s_X11_measureChains (g : pv_G) {T : List mv_T} {m : Nat → Nat → Int32} {n : Nat → Nat → Int64} {r : Nat → Value} {la lb : Nat} (hT : TX T) (I : IV BB m) (R : RX T r la lb) : PM g mX11_measureChains yX11_measureChains (sqV T BB (wl [(121, 121, none)]) r m (fun m' => True)) 5 0 0 [.ref 0] (mk T m n r) := by
  have Kp : fr (wl [(121, 121, none)]) m m := fr.rf
  have R0 := R
  have zR := R.2.2.2.2.1.1
  have zR2 := R.2.2.2.2.2.1
  refine PM.of 2 (lo := [.ref 0, pv_U, pv_U]) rfl (by decide) rfl rfl (Nat.le_of_ble_eq_true rfl) ?_
  refine pv_aload_n (M := mX11_measureChains) 0 dX11_measureChains_0 1 rfl rfl rfl ?_
  refine mv_get (M := mX11_measureChains) (v := .ref 121) dX11_measureChains_1 FX11 15 wd422 (by decide) (tl0 hT) rfl rfl 4 rfl ?_
  refine pv_iconst (M := mX11_measureChains) (v := 0) dX11_measureChains_4 5 rfl (by decide) ?_
  have z1 : (0 : Int32).toInt = 0 := by decide
  refine pv_calls (M := mX11_measureChains) (as := [.ref 121, .int 0]) (st := []) (kc2 := 0) (ks2 := 0) dX11_measureChains_5 wd1128 YJ7_fill_53178 wd896 (s_J7_fill_53178 g hT I 121 8 0 8 ⟨(tl121 hT), (fun _ => rfl), by decide⟩ 0 (by first | omega | assumption | exact (iv_rng _).2 | exact (iv_rng _).1 | decide) (by first | omega | assumption | exact (iv_rng _).2 | exact (iv_rng _).1 | decide)) rfl rfl (Nat.le_of_ble_eq_true rfl) (by decide) rfl rfl 8 rfl (fun rv h1 q2 => ?_)
  obtain ⟨m3, n4, rfl, rfl, I5, K6, rm3⟩ := q2
  replace rm3 : ∀ j : Nat, j < 8 → m3 121 j = (0 : Int32) := by have q_ := rm3; (try rw [z1] at q_); exact q_
  have K6c := K6
  have K6 := Kp.trans (K6.sub (fun _ _ q => q))
  show PV _ _ _ _ _ _ _ 8 [.ref 0, pv_U, pv_U] [] _
  have kz := rm3
  refine pv_iconst (M := mX11_measureChains) (v := 1) dX11_measureChains_8 9 rfl (by decide) ?_
  refine pv_istore_n (M := mX11_measureChains) 1 (lo2 := [.ref 0, .int 1, pv_U]) dX11_measureChains_9 10 rfl rfl (by decide) rfl rfl ?_
  have lp14 : ∀ (fuel13 : Nat) (y8 : Int32) (m9 : Nat → Nat → Int32) (n10 : Nat → Nat → Int64), (1 ≤ y8.toInt) → (y8.toInt ≤ 17) → (MX m9 (cdF m9 y8.toInt 7 8)) → IV BB m9 → fr (wl [(121, 121, none)]) m m9 → ((17 - y8.toInt) : Int).toNat < fuel13 → PV none g mX11_measureChains (sqV T BB (wl [(121, 121, none)]) r m (fun m' => True)) 5 0 0 10 [.ref 0, .int y8, pv_U] [] (mk T m9 n10 r) := by
    intro fuel13
    induction fuel13 with
    | zero => intro y8 m9 n10 b16 b17 b18 I11 K12 z19; omega
    | succ fuel13 ih15 =>
      intro y8 m9 n10 b16 b17 b18 I11 K12 z19
      have kg0 := (show MX m9 (cdF m9 y8.toInt 7 8) by assumption)
      refine pv_iload_n (M := mX11_measureChains) 1 dX11_measureChains_10 11 rfl rfl rfl ?_
      refine pv_bipush (M := mX11_measureChains) (v := 16) dX11_measureChains_11 13 rfl (by decide) ?_
      refine pv_icmp_gt (M := mX11_measureChains) (tgt := 61) dX11_measureChains_13 16 rfl (by decide) (fun c21 => ?_) (fun c21 => ?_)
      · have c21 := iv_lt (X := 16) (Y := y8.toInt) c21 (by decide) rfl
        exact pv_vret (M := mX11_measureChains) dX11_measureChains_61 rfl ⟨_, _, rfl, rfl, I11, K12, trivial⟩
      · have c21 := iv_nlt (X := 16) (Y := y8.toInt) c21 (by decide) rfl
        refine pv_bipush (M := mX11_measureChains) (v := 7) dX11_measureChains_16 18 rfl (by decide) ?_
        refine pv_istore_n (M := mX11_measureChains) 2 (lo2 := [.ref 0, .int y8, .int 7]) dX11_measureChains_18 19 rfl rfl (by decide) rfl rfl ?_
        have lp28 : ∀ (fuel27 : Nat) (y22 : Int32) (m23 : Nat → Nat → Int32) (n24 : Nat → Nat → Int64), (-1 ≤ y22.toInt) → (y22.toInt ≤ 7) → (MX m23 (cdF m23 y8.toInt y22.toInt 8)) → IV BB m23 → fr (wl [(121, 121, none)]) m m23 → ((y22.toInt - (-1)) : Int).toNat < fuel27 → PV none g mX11_measureChains (sqV T BB (wl [(121, 121, none)]) r m (fun m' => True)) 5 0 0 19 [.ref 0, .int y8, .int y22] [] (mk T m23 n24 r) := by
          intro fuel27
          induction fuel27 with
          | zero => intro y22 m23 n24 b30 b31 b32 I25 K26 z33; omega
          | succ fuel27 ih29 =>
            intro y22 m23 n24 b30 b31 b32 I25 K26 z33
            have kg := (show MX m23 (cdF m23 y8.toInt y22.toInt 8) by assumption)
            refine pv_iload_n (M := mX11_measureChains) 2 dX11_measureChains_19 20 rfl rfl rfl ?_
            refine pv_if_lt (M := mX11_measureChains) (tgt := 55) dX11_measureChains_20 23 rfl (by decide) (fun c35 => ?_) (fun c35 => ?_)
            · have c35 := iv_lt (X := y22.toInt) (Y := 0) c35 rfl (by decide)
              have k55 : MX m23 (cdF m23 (y8.toInt + 1) 7 8) := by rw [← cdF_next 8 (by decide), ← (show y22.toInt = -1 by omega)]; exact kg
              refine iv_inc (M := mX11_measureChains) (C := 1) dX11_measureChains_55 58 rfl rfl (by decide) rfl rfl (by decide) (by omega) (by omega) (fun v37 ev37 => ?_)
              show PV _ _ _ _ _ _ _ 58 [.ref 0, .int v37, .int y22] [] _
              refine pv_goto (M := mX11_measureChains) (tgt := 10) dX11_measureChains_58 (by decide) ?_
              refine pv_fg (lo2 := [.ref 0, .int v37, pv_U]) ⟨Or.inr rfl, ⟨Or.inr rfl, ⟨Or.inl rfl, trivial⟩⟩⟩ ?_
              have kn1 : MX m23 (cdF m23 v37.toInt 7 8) := by rw [show v37.toInt = y8.toInt + 1 by omega]; exact k55
              exact ih15 v37 m23 n24 (by first | omega | assumption | exact (iv_rng _).2 | exact (iv_rng _).1 | decide) (by first | omega | assumption | exact (iv_rng _).2 | exact (iv_rng _).1 | decide) kn1 I25 K26 (by omega)
            · have c35 := iv_nlt (X := y22.toInt) (Y := 0) c35 rfl (by decide)
              refine pv_aload_n (M := mX11_measureChains) 0 dX11_measureChains_23 24 rfl rfl rfl ?_
              refine mv_get (M := mX11_measureChains) (v := .ref 60) dX11_measureChains_24 FX11 3 wd410 (by decide) (tl0 hT) rfl rfl 27 rfl ?_
              refine pv_iload_n (M := mX11_measureChains) 2 dX11_measureChains_27 28 rfl rfl rfl ?_
              refine iv_qdeed (M := mX11_measureChains) (X := y22.toInt) dX11_measureChains_28 hT R rfl (by omega) (by omega) 29 rfl (fun b39 eb39 hb39 => ?_)
              have zb39 := hb39.2.2.2.2
              refine iv_get (M := mX11_measureChains) (l1 := 0) (l2 := 16) dX11_measureChains_29 FX8 1 wd200 (by decide) hb39.1 rfl I25 hb39.2.2.1 32 rfl (fun v40 ev40 pv40 qv40 => ?_)
              have k32 : v40.toInt = (m23 (61 + 2 * y22.toInt.toNat) 1).toInt := (congrArg Int32.toInt ev40).trans (congrArg (fun z => (m23 z 1).toInt) (by omega))
              refine pv_iload_n (M := mX11_measureChains) 1 dX11_measureChains_32 33 rfl rfl rfl ?_
              refine pv_icmp_ne (M := mX11_measureChains) (tgt := 49) dX11_measureChains_33 36 rfl (by decide) (fun c42 => ?_) (fun c42 => ?_)
              · have c42 := iv_ne (X := v40.toInt) (Y := y8.toInt) c42 rfl rfl
                have k49 : MX m23 (cdF m23 y8.toInt (y22.toInt - 1) 8) := by first | exact MX_set kg K6c (by rw [cd_set K6c]; omega) (by rw [cd_set K6c]; omega) | (rw [cdF_skip (by omega) (by omega)]; exact kg)
                refine iv_inc (M := mX11_measureChains) (C := (-1)) dX11_measureChains_49 52 rfl rfl (by decide) rfl rfl (by decide) (by omega) (by omega) (fun v44 ev44 => ?_)
                show PV _ _ _ _ _ _ _ 52 [.ref 0, .int y8, .int v44] [] _
                refine pv_goto (M := mX11_measureChains) (tgt := 19) dX11_measureChains_52 (by decide) ?_
                have kn2 : MX m23 (cdF m23 y8.toInt v44.toInt 8) := by rw [show v44.toInt = y22.toInt - 1 by omega]; exact k49
                exact ih29 v44 m23 n24 (by first | omega | assumption | exact (iv_rng _).2 | exact (iv_rng _).1 | decide) (by first | omega | assumption | exact (iv_rng _).2 | exact (iv_rng _).1 | decide) kn2 I25 K26 (by omega)
              · have c42 := iv_eq (X := v40.toInt) (Y := y8.toInt) c42 rfl rfl
                have kh := cdF_hit (m := m23) (s := y8.toInt) (i := y22.toInt) (by omega) (by omega) 8
                have kh2 := (cdF_b (m := m23) (s := y8.toInt) (i := y22.toInt - 1) 8).2
                have kh3 : (y22.toInt < ((8 : Nat) : Int)) := by omega
                rw [if_pos kh3] at kh
                refine pv_aload_n (M := mX11_measureChains) 0 dX11_measureChains_36 37 rfl rfl rfl ?_
                refine mv_get (M := mX11_measureChains) (v := .ref 121) dX11_measureChains_37 FX11 15 wd422 (by decide) (tl0 hT) rfl rfl 40 rfl ?_
                refine pv_iload_n (M := mX11_measureChains) 2 dX11_measureChains_40 41 rfl rfl rfl ?_
                refine pv_iconst (M := mX11_measureChains) (v := 1) dX11_measureChains_41 42 rfl (by decide) ?_
                refine pv_aload_n (M := mX11_measureChains) 0 dX11_measureChains_42 43 rfl rfl rfl ?_
                refine pv_iload_n (M := mX11_measureChains) 2 dX11_measureChains_43 44 rfl rfl rfl ?_
                refine pv_callv (M := mX11_measureChains) (as := [.int y22]) (st := [.int 1, .int y22, .ref 121]) (kc2 := 0) (ks2 := 0) dX11_measureChains_44 wd1129 YX11_longestBehind ⟨wd1131, wd51⟩ (mk_get (tl0 hT)) rfl rfl (s_X11_longestBehind g hT I25 R y22 (by omega) (by omega) (cdF m23 y8.toInt y22.toInt 8) kg (cdF_b 8).1) rfl rfl (Nat.le_of_ble_eq_true rfl) (by decide) rfl rfl 47 rfl (fun rv h1 q50 => ?_)
                obtain ⟨v51, rfl, rfl, pv51, qv51, rv51⟩ := q50
                replace rv51 : v51.toInt ≤ (cdF m23 y8.toInt y22.toInt 8) := rv51
                show PV _ _ _ _ _ _ _ 47 [.ref 0, .int y8, .int y22] [.int v51, .int 1, .int y22, .ref 121] _
                refine iv_iadd (M := mX11_measureChains) (X := 1) (Y := v51.toInt) dX11_measureChains_47 48 rfl (by decide) rfl (by omega) (by omega) (fun v52 ev52 => ?_)
                refine iv_iast (M := mX11_measureChains) (X := y22.toInt) (l1 := 0) (l2 := 8) dX11_measureChains_48 (tl121 hT) rfl (by omega) (by omega) I25 (fun _ => rfl) (by omega) (by omega) 49 rfl (fun m53 e56 I54 => ?_)
                have K55 := K26.set e56 (wl_r (by omega) (by omega))
                have k49 : MX m53 (cdF m53 y8.toInt (y22.toInt - 1) 8) := by first | exact MX_set kg e56 (by rw [cd_set e56]; omega) (by rw [cd_set e56]; omega) | (rw [cdF_skip (by omega) (by omega)]; exact kg)
                refine iv_inc (M := mX11_measureChains) (C := (-1)) dX11_measureChains_49 52 rfl rfl (by decide) rfl rfl (by decide) (by omega) (by omega) (fun v58 ev58 => ?_)
                show PV _ _ _ _ _ _ _ 52 [.ref 0, .int y8, .int v58] [] _
                refine pv_goto (M := mX11_measureChains) (tgt := 19) dX11_measureChains_52 (by decide) ?_
                have kn2 : MX m53 (cdF m53 y8.toInt v58.toInt 8) := by rw [show v58.toInt = y22.toInt - 1 by omega]; exact k49
                exact ih29 v58 m53 n24 (by first | omega | assumption | exact (iv_rng _).2 | exact (iv_rng _).1 | decide) (by first | omega | assumption | exact (iv_rng _).2 | exact (iv_rng _).1 | decide) kn2 I54 K55 (by omega)
        have z60 : (7 : Int32).toInt = 7 := by decide
        exact lp28 (((7 - (-1)) : Int).toNat + 1) 7 m9 n10 (by first | omega | assumption | exact (iv_rng _).2 | exact (iv_rng _).1 | decide) (by first | omega | assumption | exact (iv_rng _).2 | exact (iv_rng _).1 | decide) kg0 I11 K12 (by omega)
  have z61 : (1 : Int32).toInt = 1 := by decide
  have kin : MX m3 (cdF m3 (1 : Int) 7 8) := fun j hj => by rw [kz j hj]; have := (cdF_b (m := m3) (s := 1) (i := 7) 8).1; have : (0 : Int32).toInt = 0 := (by decide); omega
  exact lp14 (((17 - 1) : Int).toNat + 1) 1 m3 n4 (by first | omega | assumption | exact (iv_rng _).2 | exact (iv_rng _).1 | decide) (by first | omega | assumption | exact (iv_rng _).2 | exact (iv_rng _).1 | decide) kin I5 K6 (by omega)

set_option maxHeartbeats 2000000 in
set_option maxRecDepth 20000 in
theorem s_X11_nextInChain (g : pv_G) {T : List mv_T} {m : Nat → Nat → Int32} {n : Nat → Nat → Int64} {r : Nat → Value} {la lb : Nat} (hT : TX T) (I : IV BB m) (R : RX T r la lb) (x0 : Int32) (hl0 : 0 ≤ x0.toInt) (hh0 : x0.toInt ≤ 7) : PM g mX11_nextInChain yX11_nextInChain (sqP (mk T m n r) (-1) 7 (fun v => True)) 4 0 0 [.ref 0, .int x0] (mk T m n r) := by
  have Kp : fr (wl []) m m := fr.rf
  have R0 := R
  have zR := R.2.2.2.2.1.1
  have zR2 := R.2.2.2.2.2.1
  refine PM.of 1 (lo := [.ref 0, .int x0, pv_U]) rfl (by decide) rfl rfl (Nat.le_of_ble_eq_true rfl) ?_
  refine pv_iconst (M := mX11_nextInChain) (v := 0) dX11_nextInChain_0 1 rfl (by decide) ?_
  refine pv_istore_n (M := mX11_nextInChain) 2 (lo2 := [.ref 0, .int x0, .int 0]) dX11_nextInChain_1 2 rfl rfl (by decide) rfl rfl ?_
  have lp7 : ∀ (fuel6 : Nat) (y1 : Int32), (0 ≤ y1.toInt) → (y1.toInt ≤ 8) → ((8 - y1.toInt) : Int).toNat < fuel6 → PV none g mX11_nextInChain (sqP (mk T m n r) (-1) 7 (fun v => True)) 4 0 0 2 [.ref 0, .int x0, .int y1] [] (mk T m n r) := by
    intro fuel6
    induction fuel6 with
    | zero => intro y1 b9 b10 z11; omega
    | succ fuel6 ih8 =>
      intro y1 b9 b10 z11
      refine pv_iload_n (M := mX11_nextInChain) 2 dX11_nextInChain_2 3 rfl rfl rfl ?_
      refine pv_bipush (M := mX11_nextInChain) (v := 8) dX11_nextInChain_3 5 rfl (by decide) ?_
      refine pv_icmp_ge (M := mX11_nextInChain) (tgt := 50) dX11_nextInChain_5 8 rfl (by decide) (fun c12 => ?_) (fun c12 => ?_)
      · have c12 := iv_le (X := 8) (Y := y1.toInt) c12 (by decide) rfl
        refine pv_iconst (M := mX11_nextInChain) (v := (-1)) dX11_nextInChain_50 51 rfl (by decide) ?_
        exact pv_iret (M := mX11_nextInChain) dX11_nextInChain_51 rfl rfl ⟨_, rfl, rfl, by decide, by decide, trivial⟩
      · have c12 := iv_nle (X := 8) (Y := y1.toInt) c12 (by decide) rfl
        refine pv_aload_n (M := mX11_nextInChain) 0 dX11_nextInChain_8 9 rfl rfl rfl ?_
        refine pv_iload_n (M := mX11_nextInChain) 2 dX11_nextInChain_9 10 rfl rfl rfl ?_
        refine pv_callv (M := mX11_nextInChain) (as := [.int y1]) (st := []) (kc2 := 0) (ks2 := 0) dX11_nextInChain_10 wd828 YX11_isDeed ⟨wd830, wd25⟩ (mk_get (tl0 hT)) rfl rfl (s_X11_isDeed g hT I R y1) rfl rfl (Nat.le_of_ble_eq_true rfl) (by decide) rfl rfl 13 rfl (fun rv h1 q13 => ?_)
        obtain ⟨v14, rfl, rfl, pv14, qv14, rv14⟩ := q13
        replace rv14 : (v14 = 0 ∨ (0 ≤ y1.toInt ∧ y1.toInt ≤ 7)) ∧ v14 = ddv m y1 := rv14
        show PV _ _ _ _ _ _ _ 13 [.ref 0, .int x0, .int y1] [.int v14] _
        refine pv_if_eq (M := mX11_nextInChain) (tgt := 44) dX11_nextInChain_13 16 rfl (by decide) (fun c15 => ?_) (fun c15 => ?_)
        · have c15 := iv_eq (X := v14.toInt) (Y := 0) c15 rfl (by decide)
          refine iv_inc (M := mX11_nextInChain) (C := 1) dX11_nextInChain_44 47 rfl rfl (by decide) rfl rfl (by decide) (by omega) (by omega) (fun v16 ev16 => ?_)
          show PV _ _ _ _ _ _ _ 47 [.ref 0, .int x0, .int v16] [] _
          refine pv_goto (M := mX11_nextInChain) (tgt := 2) dX11_nextInChain_47 (by decide) ?_
          exact ih8 v16 (by first | omega | assumption | exact (iv_rng _).2 | exact (iv_rng _).1 | decide) (by first | omega | assumption | exact (iv_rng _).2 | exact (iv_rng _).1 | decide) (by omega)
        · have pc15 := rv14.1.resolve_left c15
          have c15 := iv_ne (X := v14.toInt) (Y := 0) c15 rfl (by decide)
          refine pv_aload_n (M := mX11_nextInChain) 0 dX11_nextInChain_16 17 rfl rfl rfl ?_
          refine mv_get (M := mX11_nextInChain) (v := .ref 121) dX11_nextInChain_17 FX11 15 wd422 (by decide) (tl0 hT) rfl rfl 20 rfl ?_
          refine pv_iload_n (M := mX11_nextInChain) 2 dX11_nextInChain_20 21 rfl rfl rfl ?_
          refine iv_iald (M := mX11_nextInChain) (X := y1.toInt) (l1 := 0) (l2 := 8) dX11_nextInChain_21 (tl121 hT) rfl (by omega) (by omega) I (fun _ => rfl) 22 rfl (fun v17 ev17 pv17 qv17 => ?_)
          refine pv_aload_n (M := mX11_nextInChain) 0 dX11_nextInChain_22 23 rfl rfl rfl ?_
          refine mv_get (M := mX11_nextInChain) (v := .ref 121) dX11_nextInChain_23 FX11 15 wd422 (by decide) (tl0 hT) rfl rfl 26 rfl ?_
          refine pv_iload_n (M := mX11_nextInChain) 1 dX11_nextInChain_26 27 rfl rfl rfl ?_
          refine iv_iald (M := mX11_nextInChain) (X := x0.toInt) (l1 := 0) (l2 := 8) dX11_nextInChain_27 (tl121 hT) rfl (by omega) (by omega) I (fun _ => rfl) 28 rfl (fun v18 ev18 pv18 qv18 => ?_)
          refine pv_iconst (M := mX11_nextInChain) (v := 1) dX11_nextInChain_28 29 rfl (by decide) ?_
          refine iv_isub (M := mX11_nextInChain) (X := v18.toInt) (Y := 1) dX11_nextInChain_29 30 rfl rfl (by decide) (by omega) (by omega) (fun v19 ev19 => ?_)
          refine pv_icmp_ne (M := mX11_nextInChain) (tgt := 44) dX11_nextInChain_30 33 rfl (by decide) (fun c20 => ?_) (fun c20 => ?_)
          · have c20 := iv_ne (X := v17.toInt) (Y := v19.toInt) c20 rfl rfl
            refine iv_inc (M := mX11_nextInChain) (C := 1) dX11_nextInChain_44 47 rfl rfl (by decide) rfl rfl (by decide) (by omega) (by omega) (fun v21 ev21 => ?_)
            show PV _ _ _ _ _ _ _ 47 [.ref 0, .int x0, .int v21] [] _
            refine pv_goto (M := mX11_nextInChain) (tgt := 2) dX11_nextInChain_47 (by decide) ?_
            exact ih8 v21 (by first | omega | assumption | exact (iv_rng _).2 | exact (iv_rng _).1 | decide) (by first | omega | assumption | exact (iv_rng _).2 | exact (iv_rng _).1 | decide) (by omega)
          · have c20 := iv_eq (X := v17.toInt) (Y := v19.toInt) c20 rfl rfl
            refine pv_aload_n (M := mX11_nextInChain) 0 dX11_nextInChain_33 34 rfl rfl rfl ?_
            refine pv_iload_n (M := mX11_nextInChain) 2 dX11_nextInChain_34 35 rfl rfl rfl ?_
            refine pv_iload_n (M := mX11_nextInChain) 1 dX11_nextInChain_35 36 rfl rfl rfl ?_
            refine pv_callv (M := mX11_nextInChain) (as := [.int y1, .int x0]) (st := []) (kc2 := 0) (ks2 := 0) dX11_nextInChain_36 wd1116 YX11_descends ⟨wd1118, wd49⟩ (mk_get (tl0 hT)) rfl rfl (s_X11_descends g hT I R y1 (by omega) (by omega) x0 (by omega) (by omega)) rfl rfl (Nat.le_of_ble_eq_true rfl) (by decide) rfl rfl 39 rfl (fun rv h1 q22 => ?_)
            obtain ⟨v23, rfl, rfl, pv23, qv23, rv23⟩ := q22
            show PV _ _ _ _ _ _ _ 39 [.ref 0, .int x0, .int y1] [.int v23] _
            refine pv_if_eq (M := mX11_nextInChain) (tgt := 44) dX11_nextInChain_39 42 rfl (by decide) (fun c24 => ?_) (fun c24 => ?_)
            · have c24 := iv_eq (X := v23.toInt) (Y := 0) c24 rfl (by decide)
              refine iv_inc (M := mX11_nextInChain) (C := 1) dX11_nextInChain_44 47 rfl rfl (by decide) rfl rfl (by decide) (by omega) (by omega) (fun v25 ev25 => ?_)
              show PV _ _ _ _ _ _ _ 47 [.ref 0, .int x0, .int v25] [] _
              refine pv_goto (M := mX11_nextInChain) (tgt := 2) dX11_nextInChain_47 (by decide) ?_
              exact ih8 v25 (by first | omega | assumption | exact (iv_rng _).2 | exact (iv_rng _).1 | decide) (by first | omega | assumption | exact (iv_rng _).2 | exact (iv_rng _).1 | decide) (by omega)
            · have c24 := iv_ne (X := v23.toInt) (Y := 0) c24 rfl (by decide)
              refine pv_iload_n (M := mX11_nextInChain) 2 dX11_nextInChain_42 43 rfl rfl rfl ?_
              exact pv_iret (M := mX11_nextInChain) dX11_nextInChain_43 rfl rfl ⟨_, rfl, rfl, by omega, by omega, trivial⟩
  have z26 : (0 : Int32).toInt = 0 := by decide
  exact lp7 (((8 - 0) : Int).toNat + 1) 0 (by first | omega | assumption | exact (iv_rng _).2 | exact (iv_rng _).1 | decide) (by first | omega | assumption | exact (iv_rng _).2 | exact (iv_rng _).1 | decide) (by omega)

set_option maxHeartbeats 2000000 in
set_option maxRecDepth 20000 in
theorem s_X11_linkChain (g : pv_G) {T : List mv_T} {m : Nat → Nat → Int32} {n : Nat → Nat → Int64} {r : Nat → Value} {la lb : Nat} (hT : TX T) (I : IV BB m) (R : RX T r la lb) (a0 : Nat) (rm0 : Nat) (ha0 : RowAt T a0 rm0) : PM g mX11_linkChain yX11_linkChain (sqI T BB (wl [(122, 122, none)]) r m 0 8 (fun m' v => True)) 5 0 0 [.ref 0, .ref a0] (mk T m n r) := by
  have Kp : fr (wl [(122, 122, none)]) m m := fr.rf
  have R0 := R
  have zR := R.2.2.2.2.1.1
  have zR2 := R.2.2.2.2.2.1
  have zr0 := ha0.2.2.2.2
  refine PM.of 4 (lo := [.ref 0, .ref a0, pv_U, pv_U, pv_U, pv_U]) rfl (by decide) rfl rfl (Nat.le_of_ble_eq_true rfl) ?_
  refine pv_iconst (M := mX11_linkChain) (v := 0) dX11_linkChain_0 1 rfl (by decide) ?_
  refine pv_istore_n (M := mX11_linkChain) 2 (lo2 := [.ref 0, .ref a0, .int 0, pv_U, pv_U, pv_U]) dX11_linkChain_1 2 rfl rfl (by decide) rfl rfl ?_
  refine pv_iconst (M := mX11_linkChain) (v := (-1)) dX11_linkChain_2 3 rfl (by decide) ?_
  refine pv_istore_n (M := mX11_linkChain) 3 (lo2 := [.ref 0, .ref a0, .int 0, .int (-1), pv_U, pv_U]) dX11_linkChain_3 4 rfl rfl (by decide) rfl rfl ?_
  refine pv_iconst (M := mX11_linkChain) (v := 0) dX11_linkChain_4 5 rfl (by decide) ?_
  refine pv_istore (M := mX11_linkChain) (lo2 := [.ref 0, .ref a0, .int 0, .int (-1), .int 0, pv_U]) dX11_linkChain_5 7 rfl (by decide) rfl rfl ?_
  have lp9 : ∀ (fuel8 : Nat) (y1 : Int32) (y2 : Int32) (y3 : Int32), (0 ≤ y1.toInt) → (y1.toInt ≤ 8) → (-1 ≤ y2.toInt) → (y2.toInt ≤ 7) → (0 ≤ y3.toInt) → (y3.toInt ≤ 8) → ((8 - y3.toInt) : Int).toNat < fuel8 → PV none g mX11_linkChain (sqI T BB (wl [(122, 122, none)]) r m 0 8 (fun m' v => True)) 5 0 0 7 [.ref 0, .ref a0, .int y1, .int y2, .int y3, pv_U] [] (mk T m n r) := by
    intro fuel8
    induction fuel8 with
    | zero => intro y1 y2 y3 b11 b12 b13 b14 b15 b16 z17; omega
    | succ fuel8 ih10 =>
      intro y1 y2 y3 b11 b12 b13 b14 b15 b16 z17
      refine pv_iload (M := mX11_linkChain) dX11_linkChain_7 9 rfl rfl ?_
      refine pv_bipush (M := mX11_linkChain) (v := 8) dX11_linkChain_9 11 rfl (by decide) ?_
      refine pv_icmp_ge (M := mX11_linkChain) (tgt := 56) dX11_linkChain_11 14 rfl (by decide) (fun c18 => ?_) (fun c18 => ?_)
      · have c18 := iv_le (X := 8) (Y := y3.toInt) c18 (by decide) rfl
        refine pv_iload_n (M := mX11_linkChain) 3 dX11_linkChain_56 57 rfl rfl rfl ?_
        refine pv_istore (M := mX11_linkChain) (lo2 := [.ref 0, .ref a0, .int y1, .int y2, .int y2, pv_U]) dX11_linkChain_57 59 rfl (by decide) rfl rfl ?_
        refine pv_iconst (M := mX11_linkChain) (v := 0) dX11_linkChain_59 60 rfl (by decide) ?_
        refine pv_istore (M := mX11_linkChain) (lo2 := [.ref 0, .ref a0, .int y1, .int y2, .int y2, .int 0]) dX11_linkChain_60 62 rfl (by decide) rfl rfl ?_
        have lp26 : ∀ (fuel25 : Nat) (y19 : Int32) (y20 : Int32) (m21 : Nat → Nat → Int32) (n22 : Nat → Nat → Int64), (-1 ≤ y19.toInt) → (y19.toInt ≤ 7) → (0 ≤ y20.toInt) → (y20.toInt ≤ 8) → IV BB m21 → fr (wl [(122, 122, none)]) m m21 → ((8 - y20.toInt) : Int).toNat < fuel25 → PV none g mX11_linkChain (sqI T BB (wl [(122, 122, none)]) r m 0 8 (fun m' v => True)) 5 0 0 62 [.ref 0, .ref a0, .int y1, .int y2, .int y19, .int y20] [] (mk T m21 n22 r) := by
          intro fuel25
          induction fuel25 with
          | zero => intro y19 y20 m21 n22 b28 b29 b30 b31 I23 K24 z32; omega
          | succ fuel25 ih27 =>
            intro y19 y20 m21 n22 b28 b29 b30 b31 I23 K24 z32
            refine pv_iload (M := mX11_linkChain) dX11_linkChain_62 64 rfl rfl ?_
            refine pv_iload_n (M := mX11_linkChain) 2 dX11_linkChain_64 65 rfl rfl rfl ?_
            refine pv_icmp_ge (M := mX11_linkChain) (tgt := 97) dX11_linkChain_65 68 rfl (by decide) (fun c33 => ?_) (fun c33 => ?_)
            · have c33 := iv_le (X := y1.toInt) (Y := y20.toInt) c33 rfl rfl
              refine pv_iload_n (M := mX11_linkChain) 2 dX11_linkChain_97 98 rfl rfl rfl ?_
              exact pv_iret (M := mX11_linkChain) dX11_linkChain_98 rfl rfl ⟨_, _, _, rfl, rfl, I23, K24, by omega, by omega, trivial⟩
            · have c33 := iv_nle (X := y1.toInt) (Y := y20.toInt) c33 rfl rfl
              refine pv_iload (M := mX11_linkChain) dX11_linkChain_68 70 rfl rfl ?_
              refine pv_iconst (M := mX11_linkChain) (v := (-1)) dX11_linkChain_70 71 rfl (by decide) ?_
              refine pv_icmp_eq (M := mX11_linkChain) (tgt := 97) dX11_linkChain_71 74 rfl (by decide) (fun c34 => ?_) (fun c34 => ?_)
              · have c34 := iv_eq (X := y19.toInt) (Y := (-1)) c34 rfl (by decide)
                refine pv_iload_n (M := mX11_linkChain) 2 dX11_linkChain_97 98 rfl rfl rfl ?_
                exact pv_iret (M := mX11_linkChain) dX11_linkChain_98 rfl rfl ⟨_, _, _, rfl, rfl, I23, K24, by omega, by omega, trivial⟩
              · have c34 := iv_ne (X := y19.toInt) (Y := (-1)) c34 rfl (by decide)
                refine pv_aload_n (M := mX11_linkChain) 0 dX11_linkChain_74 75 rfl rfl rfl ?_
                refine mv_get (M := mX11_linkChain) (v := .ref 122) dX11_linkChain_75 FX11 16 wd423 (by decide) (tl0 hT) rfl rfl 78 rfl ?_
                refine pv_iload (M := mX11_linkChain) dX11_linkChain_78 80 rfl rfl ?_
                refine pv_iload (M := mX11_linkChain) dX11_linkChain_80 82 rfl rfl ?_
                refine iv_iast (M := mX11_linkChain) (X := y20.toInt) (l1 := (-2147483648)) (l2 := 2147483647) dX11_linkChain_82 (tl122 hT) rfl (by omega) (by omega) I23 (fun _ => rfl) (iv_rng y19).1 (iv_rng y19).2 83 rfl (fun m35 e38 I36 => ?_)
                have K37 := K24.set e38 (wl_r (by omega) (by omega))
                refine pv_aload_n (M := mX11_linkChain) 0 dX11_linkChain_83 84 rfl rfl rfl ?_
                refine pv_iload (M := mX11_linkChain) dX11_linkChain_84 86 rfl rfl ?_
                refine pv_callv (M := mX11_linkChain) (as := [.int y19]) (st := []) (kc2 := 0) (ks2 := 0) dX11_linkChain_86 wd1137 YX11_nextInChain ⟨wd1139, wd53⟩ (mk_get (tl0 hT)) rfl rfl (s_X11_nextInChain g hT I36 R y19 (by omega) (by omega)) rfl rfl (Nat.le_of_ble_eq_true rfl) (by decide) rfl rfl 89 rfl (fun rv h1 q39 => ?_)
                obtain ⟨v40, rfl, rfl, pv40, qv40, rv40⟩ := q39
                show PV _ _ _ _ _ _ _ 89 [.ref 0, .ref a0, .int y1, .int y2, .int y19, .int y20] [.int v40] _
                refine pv_istore (M := mX11_linkChain) (lo2 := [.ref 0, .ref a0, .int y1, .int y2, .int v40, .int y20]) dX11_linkChain_89 91 rfl (by decide) rfl rfl ?_
                refine iv_inc (M := mX11_linkChain) (C := 1) dX11_linkChain_91 94 rfl rfl (by decide) rfl rfl (by decide) (by omega) (by omega) (fun v41 ev41 => ?_)
                show PV _ _ _ _ _ _ _ 94 [.ref 0, .ref a0, .int y1, .int y2, .int v40, .int v41] [] _
                refine pv_goto (M := mX11_linkChain) (tgt := 62) dX11_linkChain_94 (by decide) ?_
                exact ih27 v40 v41 m35 n22 (by first | omega | assumption | exact (iv_rng _).2 | exact (iv_rng _).1 | decide) (by first | omega | assumption | exact (iv_rng _).2 | exact (iv_rng _).1 | decide) (by first | omega | assumption | exact (iv_rng _).2 | exact (iv_rng _).1 | decide) (by first | omega | assumption | exact (iv_rng _).2 | exact (iv_rng _).1 | decide) I36 K37 (by omega)
        have z42 : (0 : Int32).toInt = 0 := by decide
        exact lp26 (((8 - 0) : Int).toNat + 1) y2 0 m n (by first | omega | assumption | exact (iv_rng _).2 | exact (iv_rng _).1 | decide) (by first | omega | assumption | exact (iv_rng _).2 | exact (iv_rng _).1 | decide) (by first | omega | assumption | exact (iv_rng _).2 | exact (iv_rng _).1 | decide) (by first | omega | assumption | exact (iv_rng _).2 | exact (iv_rng _).1 | decide) I Kp (by omega)
      · have c18 := iv_nle (X := 8) (Y := y3.toInt) c18 (by decide) rfl
        refine pv_aload_n (M := mX11_linkChain) 0 dX11_linkChain_14 15 rfl rfl rfl ?_
        refine mv_get (M := mX11_linkChain) (v := .ref 121) dX11_linkChain_15 FX11 15 wd422 (by decide) (tl0 hT) rfl rfl 18 rfl ?_
        refine pv_iload (M := mX11_linkChain) dX11_linkChain_18 20 rfl rfl ?_
        refine iv_iald (M := mX11_linkChain) (X := y3.toInt) (l1 := 0) (l2 := 8) dX11_linkChain_20 (tl121 hT) rfl (by omega) (by omega) I (fun _ => rfl) 21 rfl (fun v43 ev43 pv43 qv43 => ?_)
        refine pv_iload_n (M := mX11_linkChain) 2 dX11_linkChain_21 22 rfl rfl rfl ?_
        refine pv_icmp_le (M := mX11_linkChain) (tgt := 50) dX11_linkChain_22 25 rfl (by decide) (fun c44 => ?_) (fun c44 => ?_)
        · have c44 := iv_le (X := v43.toInt) (Y := y1.toInt) c44 rfl rfl
          refine iv_inc (M := mX11_linkChain) (C := 1) dX11_linkChain_50 53 rfl rfl (by decide) rfl rfl (by decide) (by omega) (by omega) (fun v45 ev45 => ?_)
          show PV _ _ _ _ _ _ _ 53 [.ref 0, .ref a0, .int y1, .int y2, .int v45, pv_U] [] _
          refine pv_goto (M := mX11_linkChain) (tgt := 7) dX11_linkChain_53 (by decide) ?_
          exact ih10 y1 y2 v45 (by first | omega | assumption | exact (iv_rng _).2 | exact (iv_rng _).1 | decide) (by first | omega | assumption | exact (iv_rng _).2 | exact (iv_rng _).1 | decide) (by first | omega | assumption | exact (iv_rng _).2 | exact (iv_rng _).1 | decide) (by first | omega | assumption | exact (iv_rng _).2 | exact (iv_rng _).1 | decide) (by first | omega | assumption | exact (iv_rng _).2 | exact (iv_rng _).1 | decide) (by first | omega | assumption | exact (iv_rng _).2 | exact (iv_rng _).1 | decide) (by omega)
        · have c44 := iv_nle (X := v43.toInt) (Y := y1.toInt) c44 rfl rfl
          refine pv_aload_n (M := mX11_linkChain) 0 dX11_linkChain_25 26 rfl rfl rfl ?_
          refine mv_get (M := mX11_linkChain) (v := .ref 60) dX11_linkChain_26 FX11 3 wd410 (by decide) (tl0 hT) rfl rfl 29 rfl ?_
          refine pv_iload (M := mX11_linkChain) dX11_linkChain_29 31 rfl rfl ?_
          refine iv_qdeed (M := mX11_linkChain) (X := y3.toInt) dX11_linkChain_31 hT R rfl (by omega) (by omega) 32 rfl (fun b46 eb46 hb46 => ?_)
          have zb46 := hb46.2.2.2.2
          refine pv_aload_n (M := mX11_linkChain) 1 dX11_linkChain_32 33 rfl rfl rfl ?_
          refine pv_callv (M := mX11_linkChain) (as := [.ref a0]) (st := []) (kc2 := 0) (ks2 := 0) dX11_linkChain_33 wd1060 YX8_comesFrom ⟨wd1061, wd1062⟩ (mk_get hb46.1) rfl rfl (s_X8_comesFrom g hT I b46 16 hb46 a0 rm0 ha0) rfl rfl (Nat.le_of_ble_eq_true rfl) (by decide) rfl rfl 36 rfl (fun rv h1 q47 => ?_)
          obtain ⟨v48, rfl, rfl, pv48, qv48, rv48⟩ := q47
          show PV _ _ _ _ _ _ _ 36 [.ref 0, .ref a0, .int y1, .int y2, .int y3, pv_U] [.int v48] _
          refine pv_if_eq (M := mX11_linkChain) (tgt := 50) dX11_linkChain_36 39 rfl (by decide) (fun c49 => ?_) (fun c49 => ?_)
          · have c49 := iv_eq (X := v48.toInt) (Y := 0) c49 rfl (by decide)
            refine iv_inc (M := mX11_linkChain) (C := 1) dX11_linkChain_50 53 rfl rfl (by decide) rfl rfl (by decide) (by omega) (by omega) (fun v50 ev50 => ?_)
            show PV _ _ _ _ _ _ _ 53 [.ref 0, .ref a0, .int y1, .int y2, .int v50, pv_U] [] _
            refine pv_goto (M := mX11_linkChain) (tgt := 7) dX11_linkChain_53 (by decide) ?_
            exact ih10 y1 y2 v50 (by first | omega | assumption | exact (iv_rng _).2 | exact (iv_rng _).1 | decide) (by first | omega | assumption | exact (iv_rng _).2 | exact (iv_rng _).1 | decide) (by first | omega | assumption | exact (iv_rng _).2 | exact (iv_rng _).1 | decide) (by first | omega | assumption | exact (iv_rng _).2 | exact (iv_rng _).1 | decide) (by first | omega | assumption | exact (iv_rng _).2 | exact (iv_rng _).1 | decide) (by first | omega | assumption | exact (iv_rng _).2 | exact (iv_rng _).1 | decide) (by omega)
          · have c49 := iv_ne (X := v48.toInt) (Y := 0) c49 rfl (by decide)
            refine pv_aload_n (M := mX11_linkChain) 0 dX11_linkChain_39 40 rfl rfl rfl ?_
            refine mv_get (M := mX11_linkChain) (v := .ref 121) dX11_linkChain_40 FX11 15 wd422 (by decide) (tl0 hT) rfl rfl 43 rfl ?_
            refine pv_iload (M := mX11_linkChain) dX11_linkChain_43 45 rfl rfl ?_
            refine iv_iald (M := mX11_linkChain) (X := y3.toInt) (l1 := 0) (l2 := 8) dX11_linkChain_45 (tl121 hT) rfl (by omega) (by omega) I (fun _ => rfl) 46 rfl (fun v51 ev51 pv51 qv51 => ?_)
            refine pv_istore_n (M := mX11_linkChain) 2 (lo2 := [.ref 0, .ref a0, .int v51, .int y2, .int y3, pv_U]) dX11_linkChain_46 47 rfl rfl (by decide) rfl rfl ?_
            refine pv_iload (M := mX11_linkChain) dX11_linkChain_47 49 rfl rfl ?_
            refine pv_istore_n (M := mX11_linkChain) 3 (lo2 := [.ref 0, .ref a0, .int v51, .int y3, .int y3, pv_U]) dX11_linkChain_49 50 rfl rfl (by decide) rfl rfl ?_
            refine iv_inc (M := mX11_linkChain) (C := 1) dX11_linkChain_50 53 rfl rfl (by decide) rfl rfl (by decide) (by omega) (by omega) (fun v52 ev52 => ?_)
            show PV _ _ _ _ _ _ _ 53 [.ref 0, .ref a0, .int v51, .int y3, .int v52, pv_U] [] _
            refine pv_goto (M := mX11_linkChain) (tgt := 7) dX11_linkChain_53 (by decide) ?_
            exact ih10 v51 y3 v52 (by first | omega | assumption | exact (iv_rng _).2 | exact (iv_rng _).1 | decide) (by first | omega | assumption | exact (iv_rng _).2 | exact (iv_rng _).1 | decide) (by first | omega | assumption | exact (iv_rng _).2 | exact (iv_rng _).1 | decide) (by first | omega | assumption | exact (iv_rng _).2 | exact (iv_rng _).1 | decide) (by first | omega | assumption | exact (iv_rng _).2 | exact (iv_rng _).1 | decide) (by first | omega | assumption | exact (iv_rng _).2 | exact (iv_rng _).1 | decide) (by omega)
  have z53 : (0 : Int32).toInt = 0 := by decide
  have z54 : ((-1) : Int32).toInt = (-1) := by decide
  have z55 : (0 : Int32).toInt = 0 := by decide
  exact lp9 (((8 - 0) : Int).toNat + 1) 0 (-1) 0 (by first | omega | assumption | exact (iv_rng _).2 | exact (iv_rng _).1 | decide) (by first | omega | assumption | exact (iv_rng _).2 | exact (iv_rng _).1 | decide) (by first | omega | assumption | exact (iv_rng _).2 | exact (iv_rng _).1 | decide) (by first | omega | assumption | exact (iv_rng _).2 | exact (iv_rng _).1 | decide) (by first | omega | assumption | exact (iv_rng _).2 | exact (iv_rng _).1 | decide) (by first | omega | assumption | exact (iv_rng _).2 | exact (iv_rng _).1 | decide) (by omega)

set_option maxHeartbeats 2000000 in
set_option maxRecDepth 20000 in
theorem s_X11_chain (g : pv_G) {T : List mv_T} {m : Nat → Nat → Int32} {n : Nat → Nat → Int64} {r : Nat → Value} {la lb : Nat} (hT : TX T) (I : IV BB m) (R : RX T r la lb) (x0 : Int32) (x1 : Int32) : PM g mX11_chain yX11_chain (sqI T BB wN r m (-2147483648) 2147483647 (fun m' v => True)) 6 0 0 [.ref 0, .int x0, .int x1] (mk T m n r) := by
  have Kp : fr wN m m := fr.rf
  have R0 := R
  have zR := R.2.2.2.2.1.1
  have zR2 := R.2.2.2.2.2.1
  refine PM.of 1 (lo := [.ref 0, .int x0, .int x1, pv_U]) rfl (by decide) rfl rfl (Nat.le_of_ble_eq_true rfl) ?_
  refine pv_aload_n (M := mX11_chain) 0 dX11_chain_0 1 rfl rfl rfl ?_
  refine pv_iload_n (M := mX11_chain) 1 dX11_chain_1 2 rfl rfl rfl ?_
  refine pv_callv (M := mX11_chain) (as := [.int x0]) (st := []) (kc2 := 0) (ks2 := 0) dX11_chain_2 wd700 YX11_isBlank ⟨wd702, wd16⟩ (mk_get (tl0 hT)) rfl rfl (s_X11_isBlank g hT I R x0) rfl rfl (Nat.le_of_ble_eq_true rfl) (by decide) rfl rfl 5 rfl (fun rv h1 q1 => ?_)
  obtain ⟨v2, rfl, rfl, pv2, qv2, rv2⟩ := q1
  replace rv2 : v2 = 0 ∨ (0 ≤ x0.toInt ∧ x0.toInt ≤ 7) := rv2
  show PV _ _ _ _ _ _ _ 5 [.ref 0, .int x0, .int x1, pv_U] [.int v2] _
  refine pv_if_eq (M := mX11_chain) (tgt := 13) dX11_chain_5 8 rfl (by decide) (fun c3 => ?_) (fun c3 => ?_)
  · have c3 := iv_eq (X := v2.toInt) (Y := 0) c3 rfl (by decide)
    refine pv_iconst (M := mX11_chain) (v := (-1)) dX11_chain_13 14 rfl (by decide) ?_
    exact pv_iret (M := mX11_chain) dX11_chain_14 rfl rfl ⟨_, _, _, rfl, rfl, I, Kp, by decide, by decide, trivial⟩
  · have pc3 := rv2.resolve_left c3
    have c3 := iv_ne (X := v2.toInt) (Y := 0) c3 rfl (by decide)
    refine pv_iload_n (M := mX11_chain) 2 dX11_chain_8 9 rfl rfl rfl ?_
    refine pv_iconst (M := mX11_chain) (v := (-1)) dX11_chain_9 10 rfl (by decide) ?_
    refine pv_icmp_ge (M := mX11_chain) (tgt := 15) dX11_chain_10 13 rfl (by decide) (fun c4 => ?_) (fun c4 => ?_)
    · have c4 := iv_le (X := (-1)) (Y := x1.toInt) c4 (by decide) rfl
      refine pv_aload_n (M := mX11_chain) 0 dX11_chain_15 16 rfl rfl rfl ?_
      refine pv_callv (M := mX11_chain) (as := []) (st := []) (kc2 := 0) (ks2 := 0) dX11_chain_16 wd1124 YX11_measureChains ⟨wd1126, wd50⟩ (mk_get (tl0 hT)) rfl rfl (s_X11_measureChains g hT I R) rfl rfl (Nat.le_of_ble_eq_true rfl) (by decide) rfl rfl 19 rfl (fun rv h1 q5 => ?_)
      obtain ⟨m6, n7, rfl, rfl, I8, K9, rm6⟩ := q5
      have K9c := K9
      have K9 := Kp.trans (K9.sub (by first | exact wg_l (by decide) | exact wg_g (by decide) | exact WX_wg | exact la7_wg zR (by decide) | exact wsL_wg zR (by decide)))
      show PV _ _ _ _ _ _ _ 19 [.ref 0, .int x0, .int x1, pv_U] [] _
      refine pv_aload_n (M := mX11_chain) 0 dX11_chain_19 20 rfl rfl rfl ?_
      refine pv_aload_n (M := mX11_chain) 0 dX11_chain_20 21 rfl rfl rfl ?_
      refine mv_get (M := mX11_chain) (v := .ref 3) dX11_chain_21 FX11 1 wd408 (by decide) (tl0 hT) rfl rfl 24 rfl ?_
      refine pv_iload_n (M := mX11_chain) 1 dX11_chain_24 25 rfl rfl rfl ?_
      refine iv_qblank (M := mX11_chain) (X := x0.toInt) dX11_chain_25 hT R rfl (by omega) (by omega) 26 rfl (fun b10 eb10 hb10 => ?_)
      have zb10 := hb10.2.2.2.2.2.2.2
      refine mv_get (M := mX11_chain) (v := .ref (b10 + 3)) dX11_chain_26 FX0 1 wd210 (by decide) hb10.1 rfl rfl 29 rfl ?_
      refine pv_callv (M := mX11_chain) (as := [.ref (b10 + 3)]) (st := []) (kc2 := 0) (ks2 := 0) dX11_chain_29 wd1133 YX11_linkChain ⟨wd1135, wd52⟩ (mk_get (tl0 hT)) rfl rfl (s_X11_linkChain g hT I8 R (b10 + 3) 40 hb10.2.2.1) rfl rfl (Nat.le_of_ble_eq_true rfl) (by decide) rfl rfl 32 rfl (fun rv h1 q11 => ?_)
      obtain ⟨m12, n13, v16, rfl, rfl, I14, K15, pv16, qv16, rv16⟩ := q11
      have K15c := K15
      have K15 := K9.trans (K15.sub (by first | exact wg_l (by decide) | exact wg_g (by decide) | exact WX_wg | exact la7_wg zR (by decide) | exact wsL_wg zR (by decide)))
      show PV _ _ _ _ _ _ _ 32 [.ref 0, .int x0, .int x1, pv_U] [.int v16] _
      refine pv_istore_n (M := mX11_chain) 3 (lo2 := [.ref 0, .int x0, .int x1, .int v16]) dX11_chain_32 33 rfl rfl (by decide) rfl rfl ?_
      refine pv_iload_n (M := mX11_chain) 2 dX11_chain_33 34 rfl rfl rfl ?_
      refine pv_iconst (M := mX11_chain) (v := (-1)) dX11_chain_34 35 rfl (by decide) ?_
      refine pv_icmp_ne (M := mX11_chain) (tgt := 40) dX11_chain_35 38 rfl (by decide) (fun c17 => ?_) (fun c17 => ?_)
      · have c17 := iv_ne (X := x1.toInt) (Y := (-1)) c17 rfl (by decide)
        refine pv_iload_n (M := mX11_chain) 2 dX11_chain_40 41 rfl rfl rfl ?_
        refine pv_if_lt (M := mX11_chain) (tgt := 58) dX11_chain_41 44 rfl (by decide) (fun c18 => ?_) (fun c18 => ?_)
        · have c18 := iv_lt (X := x1.toInt) (Y := 0) c18 rfl (by decide)
          omega
        · have c18 := iv_nlt (X := x1.toInt) (Y := 0) c18 rfl (by decide)
          refine pv_iload_n (M := mX11_chain) 2 dX11_chain_44 45 rfl rfl rfl ?_
          refine pv_iload_n (M := mX11_chain) 3 dX11_chain_45 46 rfl rfl rfl ?_
          refine pv_icmp_ge (M := mX11_chain) (tgt := 58) dX11_chain_46 49 rfl (by decide) (fun c19 => ?_) (fun c19 => ?_)
          · have c19 := iv_le (X := v16.toInt) (Y := x1.toInt) c19 rfl rfl
            refine pv_bipush (M := mX11_chain) (v := (-2)) dX11_chain_58 60 rfl (by decide) ?_
            exact pv_iret (M := mX11_chain) dX11_chain_60 rfl rfl ⟨_, _, _, rfl, rfl, I14, K15, by decide, by decide, trivial⟩
          · have c19 := iv_nle (X := v16.toInt) (Y := x1.toInt) c19 rfl rfl
            refine pv_aload_n (M := mX11_chain) 0 dX11_chain_49 50 rfl rfl rfl ?_
            refine mv_get (M := mX11_chain) (v := .ref 122) dX11_chain_50 FX11 16 wd423 (by decide) (tl0 hT) rfl rfl 53 rfl ?_
            refine pv_iload_n (M := mX11_chain) 2 dX11_chain_53 54 rfl rfl rfl ?_
            refine iv_iald (M := mX11_chain) (X := x1.toInt) (l1 := (-2147483648)) (l2 := 2147483647) dX11_chain_54 (tl122 hT) rfl (by omega) (by omega) I14 (fun _ => rfl) 55 rfl (fun v20 ev20 pv20 qv20 => ?_)
            refine pv_goto (M := mX11_chain) (tgt := 60) dX11_chain_55 (by decide) ?_
            exact pv_iret (M := mX11_chain) dX11_chain_60 rfl rfl ⟨_, _, _, rfl, rfl, I14, K15, (iv_rng v20).1, (iv_rng v20).2, trivial⟩
      · have c17 := iv_eq (X := x1.toInt) (Y := (-1)) c17 rfl (by decide)
        refine pv_iload_n (M := mX11_chain) 3 dX11_chain_38 39 rfl rfl rfl ?_
        exact pv_iret (M := mX11_chain) dX11_chain_39 rfl rfl ⟨_, _, _, rfl, rfl, I14, K15, (iv_rng v16).1, (iv_rng v16).2, trivial⟩
    · have c4 := iv_nle (X := (-1)) (Y := x1.toInt) c4 (by decide) rfl
      refine pv_iconst (M := mX11_chain) (v := (-1)) dX11_chain_13 14 rfl (by decide) ?_
      exact pv_iret (M := mX11_chain) dX11_chain_14 rfl rfl ⟨_, _, _, rfl, rfl, I, Kp, by decide, by decide, trivial⟩
