set_option maxHeartbeats 2000000 in
set_option maxRecDepth 20000 in
theorem s_X7_peek (g : pv_G) {T : List mv_T} {m : Nat → Nat → Int32} {n : Nat → Nat → Int64} {r : Nat → Value} {la lb : Nat} (hT : TX T) (I : IV BB m) (R : RX T r la lb) : PM g mX7_peek yX7_peek (sqP (mk T m n r) (-2147483648) 2147483647 (fun v => v.toInt = -1 ∨ (m 86 3).toInt < (m 86 2).toInt)) 1 0 0 [.ref 86] (mk T m n r) := by
  have Kp : fr (wl []) m m := fr.rf
  have R0 := R
  have zR := R.2.2.2.2.1.1
  have zR2 := R.2.2.2.2.2.1
  have z7 : 0 ≤ (m 86 3).toInt ∧ (m 86 3).toInt ≤ 160 := I 86 3
  have z8 : 0 ≤ (m 86 2).toInt ∧ (m 86 2).toInt ≤ 160 := I 86 2
  refine PM.of 0 (lo := [.ref 86]) rfl (by decide) rfl rfl (Nat.le_of_ble_eq_true rfl) ?_
  refine pv_aload_n (M := mX7_peek) 0 dX7_peek_0 1 rfl rfl rfl ?_
  refine iv_get (M := mX7_peek) (l1 := 0) (l2 := 160) dX7_peek_1 FX7 3 wd283 (by decide) (tl86 hT) rfl I rfl 4 rfl (fun v1 ev1 pv1 qv1 => ?_)
  have wv1 : v1.toInt = (m 86 3).toInt := congrArg Int32.toInt ev1
  refine pv_aload_n (M := mX7_peek) 0 dX7_peek_4 5 rfl rfl rfl ?_
  refine iv_get (M := mX7_peek) (l1 := 0) (l2 := 160) dX7_peek_5 FX7 2 wd282 (by decide) (tl86 hT) rfl I rfl 8 rfl (fun v2 ev2 pv2 qv2 => ?_)
  have wv2 : v2.toInt = (m 86 2).toInt := congrArg Int32.toInt ev2
  refine pv_icmp_ge (M := mX7_peek) (tgt := 23) dX7_peek_8 11 rfl (by decide) (fun c3 => ?_) (fun c3 => ?_)
  · have c3 := iv_le (X := v2.toInt) (Y := v1.toInt) c3 rfl rfl
    refine pv_iconst (M := mX7_peek) (v := (-1)) dX7_peek_23 24 rfl (by decide) ?_
    have z4 : ((-1) : Int32).toInt = (-1) := by decide
    exact pv_iret (M := mX7_peek) dX7_peek_24 rfl rfl ⟨_, rfl, rfl, by decide, by decide, (by first | omega | assumption)⟩
  · have c3 := iv_nle (X := v2.toInt) (Y := v1.toInt) c3 rfl rfl
    refine pv_aload_n (M := mX7_peek) 0 dX7_peek_11 12 rfl rfl rfl ?_
    refine mv_get (M := mX7_peek) (v := .ref 87) dX7_peek_12 FX7 0 wd280 (by decide) (tl86 hT) rfl rfl 15 rfl ?_
    refine pv_aload_n (M := mX7_peek) 0 dX7_peek_15 16 rfl rfl rfl ?_
    refine iv_get (M := mX7_peek) (l1 := 0) (l2 := 160) dX7_peek_16 FX7 3 wd283 (by decide) (tl86 hT) rfl I rfl 19 rfl (fun v5 ev5 pv5 qv5 => ?_)
    have wv5 : v5.toInt = (m 86 3).toInt := congrArg Int32.toInt ev5
    refine iv_iald (M := mX7_peek) (X := v5.toInt) (l1 := (-2147483648)) (l2 := 2147483647) dX7_peek_19 (tl87 hT) rfl (by omega) (by omega) I (fun _ => rfl) 20 rfl (fun v6 ev6 pv6 qv6 => ?_)
    refine pv_goto (M := mX7_peek) (tgt := 24) dX7_peek_20 (by decide) ?_
    exact pv_iret (M := mX7_peek) dX7_peek_24 rfl rfl ⟨_, rfl, rfl, (iv_rng v6).1, (iv_rng v6).2, (by first | omega | assumption)⟩

set_option maxHeartbeats 2000000 in
set_option maxRecDepth 20000 in
theorem s_X7_fail (g : pv_G) {T : List mv_T} {m : Nat → Nat → Int32} {n : Nat → Nat → Int64} {r : Nat → Value} {la lb : Nat} (hT : TX T) (I : IV BB m) (R : RX T r la lb) (x0 : Int32) (hp0 : (m 86 3).toInt ≤ (m 86 2).toInt) : PM g mX7_fail yX7_fail (sqI T BB (wl [(77, 96, none)]) r m 0 1 (fun m' v => v.toInt = 0 ∧ (m 86 3).toInt ≤ (m' 86 3).toInt ∧ (m' 86 3).toInt ≤ (m' 86 2).toInt ∧ (m' 86 2).toInt = (m 86 2).toInt)) 1 0 0 [.ref 86, .int x0] (mk T m n r) := by
  have Kp : fr (wl [(77, 96, none)]) m m := fr.rf
  have R0 := R
  have zR := R.2.2.2.2.1.1
  have zR2 := R.2.2.2.2.2.1
  have z11 : 0 ≤ (m 86 3).toInt ∧ (m 86 3).toInt ≤ 160 := I 86 3
  have z12 : 0 ≤ (m 86 2).toInt ∧ (m 86 2).toInt ≤ 160 := I 86 2
  refine PM.of 0 (lo := [.ref 86, .int x0]) rfl (by decide) rfl rfl (Nat.le_of_ble_eq_true rfl) ?_
  refine pv_aload_n (M := mX7_fail) 0 dX7_fail_0 1 rfl rfl rfl ?_
  refine pv_sipush (M := mX7_fail) (v := (-1000)) dX7_fail_1 4 rfl (by decide) ?_
  refine pv_iload_n (M := mX7_fail) 1 dX7_fail_4 5 rfl rfl rfl ?_
  refine iv_mulU (M := mX7_fail) dX7_fail_5 6 rfl (fun v1 ev1 => ?_)
  refine pv_aload_n (M := mX7_fail) 0 dX7_fail_6 7 rfl rfl rfl ?_
  refine iv_get (M := mX7_fail) (l1 := 0) (l2 := 160) dX7_fail_7 FX7 3 wd283 (by decide) (tl86 hT) rfl I rfl 10 rfl (fun v2 ev2 pv2 qv2 => ?_)
  have wv2 : v2.toInt = (m 86 3).toInt := congrArg Int32.toInt ev2
  refine iv_subU (M := mX7_fail) dX7_fail_10 11 rfl (fun v3 ev3 => ?_)
  refine iv_put (M := mX7_fail) (l1 := (-2147483648)) (l2 := 2147483647) dX7_fail_11 FX7 4 wd284 (by decide) rfl (tl86 hT) rfl rfl rfl I rfl (iv_rng v3).1 (iv_rng v3).2 14 rfl (fun m4 e7 I5 => ?_)
  have K6 := Kp.set e7 (wl_r (by omega) (by omega))
  have w8 : (m4 86 3).toInt = (m 86 3).toInt := by rw [e7, up2_ne (by omega)]
  have w9 : (m4 86 2).toInt = (m 86 2).toInt := by rw [e7, up2_ne (by omega)]
  refine pv_iconst (M := mX7_fail) (v := 0) dX7_fail_14 15 rfl (by decide) ?_
  have z10 : (0 : Int32).toInt = 0 := by decide
  exact pv_iret (M := mX7_fail) dX7_fail_15 rfl rfl ⟨_, _, _, rfl, rfl, I5, K6, by decide, by decide, (by refine ⟨?_, ?_, ?_, ?_⟩ <;> omega)⟩

set_option maxHeartbeats 2000000 in
set_option maxRecDepth 20000 in
theorem s_X7_pass (g : pv_G) {T : List mv_T} {m : Nat → Nat → Int32} {n : Nat → Nat → Int64} {r : Nat → Value} {la lb : Nat} (hT : TX T) (I : IV BB m) (R : RX T r la lb) (x0 : Int32) (hl0 : 0 ≤ x0.toInt) (hh0 : x0.toInt ≤ 1000) (hp0 : (m 86 3).toInt ≤ (m 86 2).toInt) : PM g mX7_pass yX7_pass (sqI T BB (wl [(77, 96, none)]) r m 0 1 (fun m' v => (m 86 3).toInt ≤ (m' 86 3).toInt ∧ (m' 86 3).toInt ≤ (m' 86 2).toInt ∧ (m' 86 2).toInt = (m 86 2).toInt)) 2 0 0 [.ref 86, .int x0] (mk T m n r) := by
  have Kp : fr (wl [(77, 96, none)]) m m := fr.rf
  have R0 := R
  have zR := R.2.2.2.2.1.1
  have zR2 := R.2.2.2.2.2.1
  have z20 : 0 ≤ (m 86 3).toInt ∧ (m 86 3).toInt ≤ 160 := I 86 3
  have z21 : 0 ≤ (m 86 2).toInt ∧ (m 86 2).toInt ≤ 160 := I 86 2
  refine PM.of 0 (lo := [.ref 86, .int x0]) rfl (by decide) rfl rfl (Nat.le_of_ble_eq_true rfl) ?_
  refine pv_aload_n (M := mX7_pass) 0 dX7_pass_0 1 rfl rfl rfl ?_
  refine pv_callv (M := mX7_pass) (as := []) (st := []) (kc2 := 0) (ks2 := 0) dX7_pass_1 wd527 YX7_peek ⟨wd529, wd2⟩ (mk_get (tl86 hT)) rfl rfl (s_X7_peek g hT I R) rfl rfl (Nat.le_of_ble_eq_true rfl) (by decide) rfl rfl 4 rfl (fun rv h1 q1 => ?_)
  obtain ⟨v2, rfl, rfl, pv2, qv2, rv2⟩ := q1
  replace rv2 : v2.toInt = -1 ∨ (m 86 3).toInt < (m 86 2).toInt := rv2
  show PV _ _ _ _ _ _ _ 4 [.ref 86, .int x0] [.int v2] _
  refine pv_iload_n (M := mX7_pass) 1 dX7_pass_4 5 rfl rfl rfl ?_
  refine pv_icmp_eq (M := mX7_pass) (tgt := 14) dX7_pass_5 8 rfl (by decide) (fun c3 => ?_) (fun c3 => ?_)
  · have c3 := iv_eq (X := v2.toInt) (Y := x0.toInt) c3 rfl rfl
    refine pv_aload_n (M := mX7_pass) 0 dX7_pass_14 15 rfl rfl rfl ?_
    refine pv_dup (M := mX7_pass) dX7_pass_15 16 rfl rfl ?_
    refine iv_get (M := mX7_pass) (l1 := 0) (l2 := 160) dX7_pass_16 FX7 3 wd283 (by decide) (tl86 hT) rfl I rfl 19 rfl (fun v4 ev4 pv4 qv4 => ?_)
    have wv4 : v4.toInt = (m 86 3).toInt := congrArg Int32.toInt ev4
    refine pv_iconst (M := mX7_pass) (v := 1) dX7_pass_19 20 rfl (by decide) ?_
    refine iv_iadd (M := mX7_pass) (X := v4.toInt) (Y := 1) dX7_pass_20 21 rfl rfl (by decide) (by omega) (by omega) (fun v5 ev5 => ?_)
    refine iv_put (M := mX7_pass) (l1 := 0) (l2 := 160) dX7_pass_21 FX7 3 wd283 (by decide) rfl (tl86 hT) rfl rfl rfl I rfl (by omega) (by omega) 24 rfl (fun m6 e9 I7 => ?_)
    have K8 := Kp.set e9 (wl_r (by omega) (by omega))
    have w10 : (m6 86 3).toInt = v5.toInt := by rw [e9, up2_eq]
    have w11 : (m6 86 2).toInt = (m 86 2).toInt := by rw [e9, up2_ne (by omega)]
    refine pv_iconst (M := mX7_pass) (v := 1) dX7_pass_24 25 rfl (by decide) ?_
    have z12 : (1 : Int32).toInt = 1 := by decide
    exact pv_iret (M := mX7_pass) dX7_pass_25 rfl rfl ⟨_, _, _, rfl, rfl, I7, K8, by decide, by decide, (by refine ⟨?_, ?_, ?_⟩ <;> omega)⟩
  · have c3 := iv_ne (X := v2.toInt) (Y := x0.toInt) c3 rfl rfl
    refine pv_aload_n (M := mX7_pass) 0 dX7_pass_8 9 rfl rfl rfl ?_
    refine pv_iconst (M := mX7_pass) (v := 1) dX7_pass_9 10 rfl (by decide) ?_
    have z13 : (1 : Int32).toInt = 1 := by decide
    refine pv_callv (M := mX7_pass) (as := [.int 1]) (st := []) (kc2 := 0) (ks2 := 0) dX7_pass_10 wd531 YX7_fail ⟨wd533, wd3⟩ (mk_get (tl86 hT)) rfl rfl (s_X7_fail g hT I R 1 (by first | omega | assumption | exact (iv_rng _).2 | exact (iv_rng _).1 | decide)) rfl rfl (Nat.le_of_ble_eq_true rfl) (by decide) rfl rfl 13 rfl (fun rv h1 q14 => ?_)
    obtain ⟨m15, n16, v19, rfl, rfl, I17, K18, pv19, qv19, rv19⟩ := q14
    replace rv19 : v19.toInt = 0 ∧ (m 86 3).toInt ≤ (m15 86 3).toInt ∧ (m15 86 3).toInt ≤ (m15 86 2).toInt ∧ (m15 86 2).toInt = (m 86 2).toInt := rv19
    have K18c := K18
    have K18 := Kp.trans (K18.sub (fun _ _ q => q))
    show PV _ _ _ _ _ _ _ 13 [.ref 86, .int x0] [.int v19] _
    exact pv_iret (M := mX7_pass) dX7_pass_13 rfl (iv_nz (by omega) (by omega)) ⟨_, _, _, rfl, rfl, I17, K18, by omega, by omega, (by refine ⟨?_, ?_, ?_⟩ <;> omega)⟩

set_option maxHeartbeats 2000000 in
set_option maxRecDepth 20000 in
theorem s_X7_open (g : pv_G) {T : List mv_T} {m : Nat → Nat → Int32} {n : Nat → Nat → Int64} {r : Nat → Value} {la lb : Nat} (hT : TX T) (I : IV BB m) (R : RX T r la lb) (x0 : Int32) (hp0 : (m 86 3).toInt < (m 86 2).toInt) : PM g mX7_open yX7_open (sqI T BB (wl [(77, 96, none)]) r m 0 1 (fun m' v => (v = 0 ∨ x0.toInt ≤ 5) ∧ (m 86 3).toInt ≤ (m' 86 3).toInt ∧ (m' 86 3).toInt ≤ (m' 86 2).toInt ∧ (m' 86 2).toInt = (m 86 2).toInt)) 2 0 0 [.ref 86, .int x0] (mk T m n r) := by
  have Kp : fr (wl [(77, 96, none)]) m m := fr.rf
  have R0 := R
  have zR := R.2.2.2.2.1.1
  have zR2 := R.2.2.2.2.2.1
  have z18 : 0 ≤ (m 86 3).toInt ∧ (m 86 3).toInt ≤ 160 := I 86 3
  have z19 : 0 ≤ (m 86 2).toInt ∧ (m 86 2).toInt ≤ 160 := I 86 2
  refine PM.of 0 (lo := [.ref 86, .int x0]) rfl (by decide) rfl rfl (Nat.le_of_ble_eq_true rfl) ?_
  refine pv_iload_n (M := mX7_open) 1 dX7_open_0 1 rfl rfl rfl ?_
  refine pv_bipush (M := mX7_open) (v := 6) dX7_open_1 3 rfl (by decide) ?_
  refine pv_icmp_lt (M := mX7_open) (tgt := 12) dX7_open_3 6 rfl (by decide) (fun c1 => ?_) (fun c1 => ?_)
  · have c1 := iv_lt (X := x0.toInt) (Y := 6) c1 rfl (by decide)
    refine pv_aload_n (M := mX7_open) 0 dX7_open_12 13 rfl rfl rfl ?_
    refine pv_dup (M := mX7_open) dX7_open_13 14 rfl rfl ?_
    refine iv_get (M := mX7_open) (l1 := 0) (l2 := 160) dX7_open_14 FX7 3 wd283 (by decide) (tl86 hT) rfl I rfl 17 rfl (fun v2 ev2 pv2 qv2 => ?_)
    have wv2 : v2.toInt = (m 86 3).toInt := congrArg Int32.toInt ev2
    refine pv_iconst (M := mX7_open) (v := 1) dX7_open_17 18 rfl (by decide) ?_
    refine iv_iadd (M := mX7_open) (X := v2.toInt) (Y := 1) dX7_open_18 19 rfl rfl (by decide) (by omega) (by omega) (fun v3 ev3 => ?_)
    refine iv_put (M := mX7_open) (l1 := 0) (l2 := 160) dX7_open_19 FX7 3 wd283 (by decide) rfl (tl86 hT) rfl rfl rfl I rfl (by omega) (by omega) 22 rfl (fun m4 e7 I5 => ?_)
    have K6 := Kp.set e7 (wl_r (by omega) (by omega))
    have w8 : (m4 86 3).toInt = v3.toInt := by rw [e7, up2_eq]
    have w9 : (m4 86 2).toInt = (m 86 2).toInt := by rw [e7, up2_ne (by omega)]
    refine pv_iconst (M := mX7_open) (v := 1) dX7_open_22 23 rfl (by decide) ?_
    have z10 : (1 : Int32).toInt = 1 := by decide
    exact pv_iret (M := mX7_open) dX7_open_23 rfl rfl ⟨_, _, _, rfl, rfl, I5, K6, by decide, by decide, (by refine ⟨?_, ?_, ?_, ?_⟩ <;> first | omega | (exact Or.inl (Int32.toInt_inj.mp (by rw [Int32.toInt_zero]; omega))) | (exact Or.inr (by omega)))⟩
  · have c1 := iv_nlt (X := x0.toInt) (Y := 6) c1 rfl (by decide)
    refine pv_aload_n (M := mX7_open) 0 dX7_open_6 7 rfl rfl rfl ?_
    refine pv_iconst (M := mX7_open) (v := 5) dX7_open_7 8 rfl (by decide) ?_
    have z11 : (5 : Int32).toInt = 5 := by decide
    refine pv_callv (M := mX7_open) (as := [.int 5]) (st := []) (kc2 := 0) (ks2 := 0) dX7_open_8 wd531 YX7_fail ⟨wd533, wd3⟩ (mk_get (tl86 hT)) rfl rfl (s_X7_fail g hT I R 5 (by first | omega | assumption | exact (iv_rng _).2 | exact (iv_rng _).1 | decide)) rfl rfl (Nat.le_of_ble_eq_true rfl) (by decide) rfl rfl 11 rfl (fun rv h1 q12 => ?_)
    obtain ⟨m13, n14, v17, rfl, rfl, I15, K16, pv17, qv17, rv17⟩ := q12
    replace rv17 : v17.toInt = 0 ∧ (m 86 3).toInt ≤ (m13 86 3).toInt ∧ (m13 86 3).toInt ≤ (m13 86 2).toInt ∧ (m13 86 2).toInt = (m 86 2).toInt := rv17
    have K16c := K16
    have K16 := Kp.trans (K16.sub (fun _ _ q => q))
    show PV _ _ _ _ _ _ _ 11 [.ref 86, .int x0] [.int v17] _
    exact pv_iret (M := mX7_open) dX7_open_11 rfl (iv_nz (by omega) (by omega)) ⟨_, _, _, rfl, rfl, I15, K16, by omega, by omega, (by refine ⟨?_, ?_, ?_, ?_⟩ <;> first | omega | (exact Or.inl (Int32.toInt_inj.mp (by rw [Int32.toInt_zero]; omega))) | (exact Or.inr (by omega)))⟩

set_option maxHeartbeats 2000000 in
set_option maxRecDepth 20000 in
theorem s_X7_digitAhead (g : pv_G) {T : List mv_T} {m : Nat → Nat → Int32} {n : Nat → Nat → Int64} {r : Nat → Value} {la lb : Nat} (hT : TX T) (I : IV BB m) (R : RX T r la lb) : PM g mX7_digitAhead yX7_digitAhead (sqP (mk T m n r) 0 1 (fun v => v = 0 ∨ ((m 86 3).toInt < (m 86 2).toInt ∧ 48 ≤ (m 87 (m 86 3).toInt.toNat).toInt ∧ (m 87 (m 86 3).toInt.toNat).toInt ≤ 57))) 1 0 0 [.ref 86] (mk T m n r) := by
  have Kp : fr (wl []) m m := fr.rf
  have R0 := R
  have zR := R.2.2.2.2.1.1
  have zR2 := R.2.2.2.2.2.1
  have z16 : 0 ≤ (m 86 3).toInt ∧ (m 86 3).toInt ≤ 160 := I 86 3
  have z17 : 0 ≤ (m 86 2).toInt ∧ (m 86 2).toInt ≤ 160 := I 86 2
  refine PM.of 0 (lo := [.ref 86]) rfl (by decide) rfl rfl (Nat.le_of_ble_eq_true rfl) ?_
  refine pv_aload_n (M := mX7_digitAhead) 0 dX7_digitAhead_0 1 rfl rfl rfl ?_
  refine iv_get (M := mX7_digitAhead) (l1 := 0) (l2 := 160) dX7_digitAhead_1 FX7 3 wd283 (by decide) (tl86 hT) rfl I rfl 4 rfl (fun v1 ev1 pv1 qv1 => ?_)
  have wv1 : v1.toInt = (m 86 3).toInt := congrArg Int32.toInt ev1
  refine pv_aload_n (M := mX7_digitAhead) 0 dX7_digitAhead_4 5 rfl rfl rfl ?_
  refine iv_get (M := mX7_digitAhead) (l1 := 0) (l2 := 160) dX7_digitAhead_5 FX7 2 wd282 (by decide) (tl86 hT) rfl I rfl 8 rfl (fun v2 ev2 pv2 qv2 => ?_)
  have wv2 : v2.toInt = (m 86 2).toInt := congrArg Int32.toInt ev2
  refine pv_icmp_ge (M := mX7_digitAhead) (tgt := 43) dX7_digitAhead_8 11 rfl (by decide) (fun c3 => ?_) (fun c3 => ?_)
  · have c3 := iv_le (X := v2.toInt) (Y := v1.toInt) c3 rfl rfl
    refine pv_iconst (M := mX7_digitAhead) (v := 0) dX7_digitAhead_43 44 rfl (by decide) ?_
    have z4 : (0 : Int32).toInt = 0 := by decide
    exact pv_iret (M := mX7_digitAhead) dX7_digitAhead_44 rfl rfl ⟨_, rfl, rfl, by decide, by decide, Or.inl rfl⟩
  · have c3 := iv_nle (X := v2.toInt) (Y := v1.toInt) c3 rfl rfl
    refine pv_aload_n (M := mX7_digitAhead) 0 dX7_digitAhead_11 12 rfl rfl rfl ?_
    refine mv_get (M := mX7_digitAhead) (v := .ref 87) dX7_digitAhead_12 FX7 0 wd280 (by decide) (tl86 hT) rfl rfl 15 rfl ?_
    refine pv_aload_n (M := mX7_digitAhead) 0 dX7_digitAhead_15 16 rfl rfl rfl ?_
    refine iv_get (M := mX7_digitAhead) (l1 := 0) (l2 := 160) dX7_digitAhead_16 FX7 3 wd283 (by decide) (tl86 hT) rfl I rfl 19 rfl (fun v5 ev5 pv5 qv5 => ?_)
    have wv5 : v5.toInt = (m 86 3).toInt := congrArg Int32.toInt ev5
    refine iv_iald (M := mX7_digitAhead) (X := v5.toInt) (l1 := (-2147483648)) (l2 := 2147483647) dX7_digitAhead_19 (tl87 hT) rfl (by omega) (by omega) I (fun _ => rfl) 20 rfl (fun v6 ev6 pv6 qv6 => ?_)
    have k19 : v6.toInt = (m 87 (m 86 3).toInt.toNat).toInt := (congrArg Int32.toInt ev6).trans (congrArg (fun z => (m 87 z).toInt) (by omega))
    refine pv_bipush (M := mX7_digitAhead) (v := 48) dX7_digitAhead_20 22 rfl (by decide) ?_
    refine pv_icmp_lt (M := mX7_digitAhead) (tgt := 43) dX7_digitAhead_22 25 rfl (by decide) (fun c8 => ?_) (fun c8 => ?_)
    · have c8 := iv_lt (X := v6.toInt) (Y := 48) c8 rfl (by decide)
      refine pv_iconst (M := mX7_digitAhead) (v := 0) dX7_digitAhead_43 44 rfl (by decide) ?_
      have z9 : (0 : Int32).toInt = 0 := by decide
      exact pv_iret (M := mX7_digitAhead) dX7_digitAhead_44 rfl rfl ⟨_, rfl, rfl, by decide, by decide, Or.inl rfl⟩
    · have c8 := iv_nlt (X := v6.toInt) (Y := 48) c8 rfl (by decide)
      refine pv_aload_n (M := mX7_digitAhead) 0 dX7_digitAhead_25 26 rfl rfl rfl ?_
      refine mv_get (M := mX7_digitAhead) (v := .ref 87) dX7_digitAhead_26 FX7 0 wd280 (by decide) (tl86 hT) rfl rfl 29 rfl ?_
      refine pv_aload_n (M := mX7_digitAhead) 0 dX7_digitAhead_29 30 rfl rfl rfl ?_
      refine iv_get (M := mX7_digitAhead) (l1 := 0) (l2 := 160) dX7_digitAhead_30 FX7 3 wd283 (by decide) (tl86 hT) rfl I rfl 33 rfl (fun v10 ev10 pv10 qv10 => ?_)
      have wv10 : v10.toInt = (m 86 3).toInt := congrArg Int32.toInt ev10
      refine iv_iald (M := mX7_digitAhead) (X := v10.toInt) (l1 := (-2147483648)) (l2 := 2147483647) dX7_digitAhead_33 (tl87 hT) rfl (by omega) (by omega) I (fun _ => rfl) 34 rfl (fun v11 ev11 pv11 qv11 => ?_)
      have k33 : v11.toInt = (m 87 (m 86 3).toInt.toNat).toInt := (congrArg Int32.toInt ev11).trans (congrArg (fun z => (m 87 z).toInt) (by omega))
      refine pv_bipush (M := mX7_digitAhead) (v := 57) dX7_digitAhead_34 36 rfl (by decide) ?_
      refine pv_icmp_gt (M := mX7_digitAhead) (tgt := 43) dX7_digitAhead_36 39 rfl (by decide) (fun c13 => ?_) (fun c13 => ?_)
      · have c13 := iv_lt (X := 57) (Y := v11.toInt) c13 (by decide) rfl
        refine pv_iconst (M := mX7_digitAhead) (v := 0) dX7_digitAhead_43 44 rfl (by decide) ?_
        have z14 : (0 : Int32).toInt = 0 := by decide
        exact pv_iret (M := mX7_digitAhead) dX7_digitAhead_44 rfl rfl ⟨_, rfl, rfl, by decide, by decide, Or.inl rfl⟩
      · have c13 := iv_nlt (X := 57) (Y := v11.toInt) c13 (by decide) rfl
        refine pv_iconst (M := mX7_digitAhead) (v := 1) dX7_digitAhead_39 40 rfl (by decide) ?_
        refine pv_goto (M := mX7_digitAhead) (tgt := 44) dX7_digitAhead_40 (by decide) ?_
        have z15 : (1 : Int32).toInt = 1 := by decide
        exact pv_iret (M := mX7_digitAhead) dX7_digitAhead_44 rfl rfl ⟨_, rfl, rfl, by decide, by decide, (Or.inr (by omega))⟩

set_option maxHeartbeats 2000000 in
set_option maxRecDepth 20000 in
theorem s_X7_timesAhead (g : pv_G) {T : List mv_T} {m : Nat → Nat → Int32} {n : Nat → Nat → Int64} {r : Nat → Value} {la lb : Nat} (hT : TX T) (I : IV BB m) (R : RX T r la lb) : PM g mX7_timesAhead yX7_timesAhead (sqP (mk T m n r) 0 1 (fun v => v = 0 ∨ (m 86 3).toInt < (m 86 2).toInt)) 2 0 0 [.ref 86] (mk T m n r) := by
  have Kp : fr (wl []) m m := fr.rf
  have R0 := R
  have zR := R.2.2.2.2.1.1
  have zR2 := R.2.2.2.2.2.1
  refine PM.of 1 (lo := [.ref 86, pv_U]) rfl (by decide) rfl rfl (Nat.le_of_ble_eq_true rfl) ?_
  refine pv_aload_n (M := mX7_timesAhead) 0 dX7_timesAhead_0 1 rfl rfl rfl ?_
  refine pv_callv (M := mX7_timesAhead) (as := []) (st := []) (kc2 := 0) (ks2 := 0) dX7_timesAhead_1 wd527 YX7_peek ⟨wd529, wd2⟩ (mk_get (tl86 hT)) rfl rfl (s_X7_peek g hT I R) rfl rfl (Nat.le_of_ble_eq_true rfl) (by decide) rfl rfl 4 rfl (fun rv h1 q1 => ?_)
  obtain ⟨v2, rfl, rfl, pv2, qv2, rv2⟩ := q1
  replace rv2 : v2.toInt = -1 ∨ (m 86 3).toInt < (m 86 2).toInt := rv2
  show PV _ _ _ _ _ _ _ 4 [.ref 86, pv_U] [.int v2] _
  refine pv_istore_n (M := mX7_timesAhead) 1 (lo2 := [.ref 86, .int v2]) dX7_timesAhead_4 5 rfl rfl (by decide) rfl rfl ?_
  refine pv_iload_n (M := mX7_timesAhead) 1 dX7_timesAhead_5 6 rfl rfl rfl ?_
  refine pv_bipush (M := mX7_timesAhead) (v := 42) dX7_timesAhead_6 8 rfl (by decide) ?_
  refine pv_icmp_eq (M := mX7_timesAhead) (tgt := 23) dX7_timesAhead_8 11 rfl (by decide) (fun c3 => ?_) (fun c3 => ?_)
  · have c3 := iv_eq (X := v2.toInt) (Y := 42) c3 rfl (by decide)
    refine pv_iconst (M := mX7_timesAhead) (v := 1) dX7_timesAhead_23 24 rfl (by decide) ?_
    refine pv_goto (M := mX7_timesAhead) (tgt := 28) dX7_timesAhead_24 (by decide) ?_
    have z4 : (1 : Int32).toInt = 1 := by decide
    exact pv_iret (M := mX7_timesAhead) dX7_timesAhead_28 rfl rfl ⟨_, rfl, rfl, by decide, by decide, (Or.inr (by omega))⟩
  · have c3 := iv_ne (X := v2.toInt) (Y := 42) c3 rfl (by decide)
    refine pv_iload_n (M := mX7_timesAhead) 1 dX7_timesAhead_11 12 rfl rfl rfl ?_
    refine pv_bipush (M := mX7_timesAhead) (v := 47) dX7_timesAhead_12 14 rfl (by decide) ?_
    refine pv_icmp_eq (M := mX7_timesAhead) (tgt := 23) dX7_timesAhead_14 17 rfl (by decide) (fun c5 => ?_) (fun c5 => ?_)
    · have c5 := iv_eq (X := v2.toInt) (Y := 47) c5 rfl (by decide)
      refine pv_iconst (M := mX7_timesAhead) (v := 1) dX7_timesAhead_23 24 rfl (by decide) ?_
      refine pv_goto (M := mX7_timesAhead) (tgt := 28) dX7_timesAhead_24 (by decide) ?_
      have z6 : (1 : Int32).toInt = 1 := by decide
      exact pv_iret (M := mX7_timesAhead) dX7_timesAhead_28 rfl rfl ⟨_, rfl, rfl, by decide, by decide, (Or.inr (by omega))⟩
    · have c5 := iv_ne (X := v2.toInt) (Y := 47) c5 rfl (by decide)
      refine pv_iload_n (M := mX7_timesAhead) 1 dX7_timesAhead_17 18 rfl rfl rfl ?_
      refine pv_bipush (M := mX7_timesAhead) (v := 37) dX7_timesAhead_18 20 rfl (by decide) ?_
      refine pv_icmp_ne (M := mX7_timesAhead) (tgt := 27) dX7_timesAhead_20 23 rfl (by decide) (fun c7 => ?_) (fun c7 => ?_)
      · have c7 := iv_ne (X := v2.toInt) (Y := 37) c7 rfl (by decide)
        refine pv_iconst (M := mX7_timesAhead) (v := 0) dX7_timesAhead_27 28 rfl (by decide) ?_
        have z8 : (0 : Int32).toInt = 0 := by decide
        exact pv_iret (M := mX7_timesAhead) dX7_timesAhead_28 rfl rfl ⟨_, rfl, rfl, by decide, by decide, Or.inl rfl⟩
      · have c7 := iv_eq (X := v2.toInt) (Y := 37) c7 rfl (by decide)
        refine pv_iconst (M := mX7_timesAhead) (v := 1) dX7_timesAhead_23 24 rfl (by decide) ?_
        refine pv_goto (M := mX7_timesAhead) (tgt := 28) dX7_timesAhead_24 (by decide) ?_
        have z9 : (1 : Int32).toInt = 1 := by decide
        exact pv_iret (M := mX7_timesAhead) dX7_timesAhead_28 rfl rfl ⟨_, rfl, rfl, by decide, by decide, (Or.inr (by omega))⟩

set_option maxHeartbeats 2000000 in
set_option maxRecDepth 20000 in
theorem s_J0_coder_7d493 (g : pv_G) {T : List mv_T} {m : Nat → Nat → Int32} {n : Nat → Nat → Int64} {r : Nat → Value} (hT : TX T) (I : IV BB m) : PM g mJ0_coder_7d493 yJ0_coder_7d493 (sqP (mk T m n r) (-2147483648) 2147483647 (fun v => True)) 1 0 0 [.retAddr (g.2.2.1 6 + 1)] (mk T m n r) := by
  have Kp : fr (wl []) m m := fr.rf
  refine PM.of 0 (lo := [.retAddr (g.2.2.1 6 + 1)]) rfl (by decide) rfl rfl (Nat.le_of_ble_eq_true rfl) ?_
  refine pv_gets (M := mJ0_coder_7d493) (v := 1) dJ0_coder_7d493_0 wd584 3 rfl ?_
  refine pv_if_eq (M := mJ0_coder_7d493) (tgt := 13) dJ0_coder_7d493_3 6 rfl (by decide) (fun q => absurd q (by decide)) (fun _ => ?_)
  refine pv_aloadS_n (M := mJ0_coder_7d493) 0 dJ0_coder_7d493_6 7 rfl rfl rfl ?_
  refine pv_getC (M := mJ0_coder_7d493) dJ0_coder_7d493_7 wd1799 10 rfl ?_
  refine pv_goto (M := mJ0_coder_7d493) (tgt := 14) dJ0_coder_7d493_10 (by decide) ?_
  exact pv_iret (M := mJ0_coder_7d493) dJ0_coder_7d493_14 rfl rfl ⟨_, rfl, rfl, by decide, by decide, trivial⟩

set_option maxHeartbeats 2000000 in
set_option maxRecDepth 20000 in
theorem s_J0_isLatin1_aae02 (g : pv_G) {T : List mv_T} {m : Nat → Nat → Int32} {n : Nat → Nat → Int64} {r : Nat → Value} (hT : TX T) (I : IV BB m) : PM g mJ0_isLatin1_aae02 yJ0_isLatin1_aae02 (sqP (mk T m n r) 1 1 (fun v => True)) 1 0 0 [.retAddr (g.2.2.1 6 + 1)] (mk T m n r) := by
  have Kp : fr (wl []) m m := fr.rf
  refine PM.of 0 (lo := [.retAddr (g.2.2.1 6 + 1)]) rfl (by decide) rfl rfl (Nat.le_of_ble_eq_true rfl) ?_
  refine pv_gets (M := mJ0_isLatin1_aae02) (v := 1) dJ0_isLatin1_aae02_0 wd584 3 rfl ?_
  refine pv_if_eq (M := mJ0_isLatin1_aae02) (tgt := 17) dJ0_isLatin1_aae02_3 6 rfl (by decide) (fun q => absurd q (by decide)) (fun _ => ?_)
  refine pv_aloadS_n (M := mJ0_isLatin1_aae02) 0 dJ0_isLatin1_aae02_6 7 rfl rfl rfl ?_
  refine pv_getC (M := mJ0_isLatin1_aae02) dJ0_isLatin1_aae02_7 wd1799 10 rfl ?_
  refine pv_if_ne (M := mJ0_isLatin1_aae02) (tgt := 17) dJ0_isLatin1_aae02_10 13 rfl (by decide) (fun q => absurd (by decide) q) (fun _ => ?_)
  refine pv_iconst (M := mJ0_isLatin1_aae02) (v := 1) dJ0_isLatin1_aae02_13 14 rfl (by decide) ?_
  refine pv_goto (M := mJ0_isLatin1_aae02) (tgt := 18) dJ0_isLatin1_aae02_14 (by decide) ?_
  exact pv_iret (M := mJ0_isLatin1_aae02) dJ0_isLatin1_aae02_18 rfl rfl ⟨_, rfl, rfl, by decide, by decide, trivial⟩

set_option maxHeartbeats 2000000 in
set_option maxRecDepth 20000 in
theorem s_J0_length_8abf5 (g : pv_G) {T : List mv_T} {m : Nat → Nat → Int32} {n : Nat → Nat → Int64} {r : Nat → Value} (hT : TX T) (I : IV BB m) : PM g mJ0_length_8abf5 yJ0_length_8abf5 (sqP (mk T m n r) (-2147483648) 2147483647 (fun v => True)) 2 0 0 [.retAddr (g.2.2.1 6 + 1)] (mk T m n r) := by
  have Kp : fr (wl []) m m := fr.rf
  refine PM.of 0 (lo := [.retAddr (g.2.2.1 6 + 1)]) rfl (by decide) rfl rfl (Nat.le_of_ble_eq_true rfl) ?_
  refine pv_aloadS_n (M := mJ0_length_8abf5) 0 dJ0_length_8abf5_0 1 rfl rfl rfl ?_
  refine pv_getV (M := mJ0_length_8abf5) dJ0_length_8abf5_1 wd1800 4 rfl ?_
  refine pv_strlen (M := mJ0_length_8abf5) dJ0_length_8abf5_4 5 rfl ?_
  refine pv_aloadS_n (M := mJ0_length_8abf5) 0 dJ0_length_8abf5_5 6 rfl rfl rfl ?_
  refine pv_callvS (M := mJ0_length_8abf5) (as := []) (st := [.int 10]) (kc2 := 0) (ks2 := 0) dJ0_length_8abf5_6 wd590 YJ0_coder_7d493 ⟨wd591, wd592⟩ rfl (s_J0_coder_7d493 g hT I) rfl rfl (Nat.le_of_ble_eq_true rfl) (by decide) rfl rfl 9 rfl (fun rv h1 q2 => ?_)
  obtain ⟨v3, rfl, rfl, pv3, qv3, rv3⟩ := q2
  show PV _ _ _ _ _ _ _ 9 [.retAddr (g.2.2.1 6 + 1)] [.int v3, .int 10] _
  refine iv_shrU (M := mJ0_length_8abf5) dJ0_length_8abf5_9 10 rfl (fun v4 ev4 => ?_)
  exact pv_iret (M := mJ0_length_8abf5) dJ0_length_8abf5_10 rfl rfl ⟨_, rfl, rfl, (iv_rng v4).1, (iv_rng v4).2, trivial⟩

set_option maxHeartbeats 2000000 in
set_option maxRecDepth 20000 in
theorem s_J1_canEncode_9a6ad (g : pv_G) {T : List mv_T} {m : Nat → Nat → Int32} {n : Nat → Nat → Int64} {r : Nat → Value} (hT : TX T) (I : IV BB m) (x0 : Int32) : PM g mJ1_canEncode_9a6ad yJ1_canEncode_9a6ad (sqP (mk T m n r) 0 1 (fun v => True)) 1 0 0 [.int x0] (mk T m n r) := by
  have Kp : fr (wl []) m m := fr.rf
  refine PM.of 0 (lo := [.int x0]) rfl (by decide) rfl rfl (Nat.le_of_ble_eq_true rfl) ?_
  refine pv_iload_n (M := mJ1_canEncode_9a6ad) 0 dJ1_canEncode_9a6ad_0 1 rfl rfl rfl ?_
  refine pv_if_lt (M := mJ1_canEncode_9a6ad) (tgt := 15) dJ1_canEncode_9a6ad_1 4 rfl (by decide) (fun c1 => ?_) (fun c1 => ?_)
  · have c1 := iv_lt (X := x0.toInt) (Y := 0) c1 rfl (by decide)
    refine pv_iconst (M := mJ1_canEncode_9a6ad) (v := 0) dJ1_canEncode_9a6ad_15 16 rfl (by decide) ?_
    exact pv_iret (M := mJ1_canEncode_9a6ad) dJ1_canEncode_9a6ad_16 rfl rfl ⟨_, rfl, rfl, by decide, by decide, trivial⟩
  · have c1 := iv_nlt (X := x0.toInt) (Y := 0) c1 rfl (by decide)
    refine pv_iload_n (M := mJ1_canEncode_9a6ad) 0 dJ1_canEncode_9a6ad_4 5 rfl rfl rfl ?_
    refine pv_sipush (M := mJ1_canEncode_9a6ad) (v := 255) dJ1_canEncode_9a6ad_5 8 rfl (by decide) ?_
    refine pv_icmp_gt (M := mJ1_canEncode_9a6ad) (tgt := 15) dJ1_canEncode_9a6ad_8 11 rfl (by decide) (fun c2 => ?_) (fun c2 => ?_)
    · have c2 := iv_lt (X := 255) (Y := x0.toInt) c2 (by decide) rfl
      refine pv_iconst (M := mJ1_canEncode_9a6ad) (v := 0) dJ1_canEncode_9a6ad_15 16 rfl (by decide) ?_
      exact pv_iret (M := mJ1_canEncode_9a6ad) dJ1_canEncode_9a6ad_16 rfl rfl ⟨_, rfl, rfl, by decide, by decide, trivial⟩
    · have c2 := iv_nlt (X := 255) (Y := x0.toInt) c2 (by decide) rfl
      refine pv_iconst (M := mJ1_canEncode_9a6ad) (v := 1) dJ1_canEncode_9a6ad_11 12 rfl (by decide) ?_
      refine pv_goto (M := mJ1_canEncode_9a6ad) (tgt := 16) dJ1_canEncode_9a6ad_12 (by decide) ?_
      exact pv_iret (M := mJ1_canEncode_9a6ad) dJ1_canEncode_9a6ad_16 rfl rfl ⟨_, rfl, rfl, by decide, by decide, trivial⟩

set_option maxHeartbeats 2000000 in
set_option maxRecDepth 20000 in
theorem s_J1_indexOfChar_4cfef (g : pv_G) {T : List mv_T} {m : Nat → Nat → Int32} {n : Nat → Nat → Int64} {r : Nat → Value} (hT : TX T) (I : IV BB m) (x1 : Int32) (x2 : Int32) (hl2 : 0 ≤ x2.toInt) (hh2 : x2.toInt ≤ 2147483647) (x3 : Int32) (hl3 : -2147483648 ≤ x3.toInt) (hh3 : x3.toInt ≤ 10) : PM g mJ1_indexOfChar_4cfef yJ1_indexOfChar_4cfef (sqP (mk T m n r) (-1) 9 (fun v => True)) 1 0 0 [.retAddr (g.2.2.1 7 + 1), .int x1, .int x2, .int x3] (mk T m n r) := by
  have Kp : fr (wl []) m m := fr.rf
  refine PM.of 2 (lo := [.retAddr (g.2.2.1 7 + 1), .int x1, .int x2, .int x3, pv_U, pv_U]) rfl (by decide) rfl rfl (Nat.le_of_ble_eq_true rfl) ?_
  refine pv_iload_n (M := mJ1_indexOfChar_4cfef) 1 dJ1_indexOfChar_4cfef_0 1 rfl rfl rfl ?_
  refine iv_i2b (M := mJ1_indexOfChar_4cfef) dJ1_indexOfChar_4cfef_1 2 rfl (fun v1 ev1 pv1 qv1 => ?_)
  refine pv_istore (M := mJ1_indexOfChar_4cfef) (lo2 := [.retAddr (g.2.2.1 7 + 1), .int x1, .int x2, .int x3, .int v1, pv_U]) dJ1_indexOfChar_4cfef_2 4 rfl (by decide) rfl rfl ?_
  refine pv_iload_n (M := mJ1_indexOfChar_4cfef) 2 dJ1_indexOfChar_4cfef_4 5 rfl rfl rfl ?_
  refine pv_istore (M := mJ1_indexOfChar_4cfef) (lo2 := [.retAddr (g.2.2.1 7 + 1), .int x1, .int x2, .int x3, .int v1, .int x2]) dJ1_indexOfChar_4cfef_5 7 rfl (by decide) rfl rfl ?_
  have lp8 : ∀ (fuel7 : Nat) (y2 : Int32), (0 ≤ y2.toInt) → (y2.toInt ≤ 2147483647) → ((10 - y2.toInt) : Int).toNat < fuel7 → PV none g mJ1_indexOfChar_4cfef (sqP (mk T m n r) (-1) 9 (fun v => True)) 1 0 0 7 [.retAddr (g.2.2.1 7 + 1), .int x1, .int x2, .int x3, .int v1, .int y2] [] (mk T m n r) := by
    intro fuel7
    induction fuel7 with
    | zero => intro y2 b10 b11 z12; omega
    | succ fuel7 ih9 =>
      intro y2 b10 b11 z12
      refine pv_iload (M := mJ1_indexOfChar_4cfef) dJ1_indexOfChar_4cfef_7 9 rfl rfl ?_
      refine pv_iload_n (M := mJ1_indexOfChar_4cfef) 3 dJ1_indexOfChar_4cfef_9 10 rfl rfl rfl ?_
      refine pv_icmp_ge (M := mJ1_indexOfChar_4cfef) (tgt := 31) dJ1_indexOfChar_4cfef_10 13 rfl (by decide) (fun c13 => ?_) (fun c13 => ?_)
      · have c13 := iv_le (X := x3.toInt) (Y := y2.toInt) c13 rfl rfl
        refine pv_iconst (M := mJ1_indexOfChar_4cfef) (v := (-1)) dJ1_indexOfChar_4cfef_31 32 rfl (by decide) ?_
        exact pv_iret (M := mJ1_indexOfChar_4cfef) dJ1_indexOfChar_4cfef_32 rfl rfl ⟨_, rfl, rfl, by decide, by decide, trivial⟩
      · have c13 := iv_nle (X := x3.toInt) (Y := y2.toInt) c13 rfl rfl
        refine pv_aloadS_n (M := mJ1_indexOfChar_4cfef) 0 dJ1_indexOfChar_4cfef_13 14 rfl rfl rfl ?_
        refine pv_iload (M := mJ1_indexOfChar_4cfef) dJ1_indexOfChar_4cfef_14 16 rfl rfl ?_
        refine pv_strld (M := mJ1_indexOfChar_4cfef) dJ1_indexOfChar_4cfef_16 (iv_in (X := y2.toInt) rfl (by omega) (by omega)) 17 rfl (fun v14 => ?_)
        refine pv_iload (M := mJ1_indexOfChar_4cfef) dJ1_indexOfChar_4cfef_17 19 rfl rfl ?_
        refine pv_icmp_ne (M := mJ1_indexOfChar_4cfef) (tgt := 25) dJ1_indexOfChar_4cfef_19 22 rfl (by decide) (fun c15 => ?_) (fun c15 => ?_)
        · have c15 := iv_ne (X := v14.toInt) (Y := v1.toInt) c15 rfl rfl
          refine iv_inc (M := mJ1_indexOfChar_4cfef) (C := 1) dJ1_indexOfChar_4cfef_25 28 rfl rfl (by decide) rfl rfl (by decide) (by omega) (by omega) (fun v16 ev16 => ?_)
          show PV _ _ _ _ _ _ _ 28 [.retAddr (g.2.2.1 7 + 1), .int x1, .int x2, .int x3, .int v1, .int v16] [] _
          refine pv_goto (M := mJ1_indexOfChar_4cfef) (tgt := 7) dJ1_indexOfChar_4cfef_28 (by decide) ?_
          exact ih9 v16 (by first | omega | assumption | exact (iv_rng _).2 | exact (iv_rng _).1 | decide) (by first | omega | assumption | exact (iv_rng _).2 | exact (iv_rng _).1 | decide) (by omega)
        · have c15 := iv_eq (X := v14.toInt) (Y := v1.toInt) c15 rfl rfl
          refine pv_iload (M := mJ1_indexOfChar_4cfef) dJ1_indexOfChar_4cfef_22 24 rfl rfl ?_
          exact pv_iret (M := mJ1_indexOfChar_4cfef) dJ1_indexOfChar_4cfef_24 rfl rfl ⟨_, rfl, rfl, by omega, by omega, trivial⟩
  exact lp8 (((10 - x2.toInt) : Int).toNat + 1) x2 (by first | omega | assumption | exact (iv_rng _).2 | exact (iv_rng _).1 | decide) (by first | omega | assumption | exact (iv_rng _).2 | exact (iv_rng _).1 | decide) (by omega)

set_option maxHeartbeats 2000000 in
set_option maxRecDepth 20000 in
theorem s_J1_indexOf_4cfef (g : pv_G) {T : List mv_T} {m : Nat → Nat → Int32} {n : Nat → Nat → Int64} {r : Nat → Value} (hT : TX T) (I : IV BB m) (x1 : Int32) (x2 : Int32) (x3 : Int32) : PM g mJ1_indexOf_4cfef yJ1_indexOf_4cfef (sqP (mk T m n r) (-1) 9 (fun v => True)) 2 0 0 [.retAddr (g.2.2.1 7 + 1), .int x1, .int x2, .int x3] (mk T m n r) := by
  have Kp : fr (wl []) m m := fr.rf
  refine PM.of 0 (lo := [.retAddr (g.2.2.1 7 + 1), .int x1, .int x2, .int x3]) rfl (by decide) rfl rfl (Nat.le_of_ble_eq_true rfl) ?_
  refine pv_iload_n (M := mJ1_indexOf_4cfef) 1 dJ1_indexOf_4cfef_0 1 rfl rfl rfl ?_
  refine pv_calls (M := mJ1_indexOf_4cfef) (as := [.int x1]) (st := []) (kc2 := 0) (ks2 := 0) dJ1_indexOf_4cfef_1 wd597 YJ1_canEncode_9a6ad wd598 (s_J1_canEncode_9a6ad g hT I x1) rfl rfl (Nat.le_of_ble_eq_true rfl) (by decide) rfl rfl 4 rfl (fun rv h1 q1 => ?_)
  obtain ⟨v2, rfl, rfl, pv2, qv2, rv2⟩ := q1
  show PV _ _ _ _ _ _ _ 4 [.retAddr (g.2.2.1 7 + 1), .int x1, .int x2, .int x3] [.int v2] _
  refine pv_if_ne (M := mJ1_indexOf_4cfef) (tgt := 9) dJ1_indexOf_4cfef_4 7 rfl (by decide) (fun c3 => ?_) (fun c3 => ?_)
  · have c3 := iv_ne (X := v2.toInt) (Y := 0) c3 rfl (by decide)
    refine pv_iload_n (M := mJ1_indexOf_4cfef) 2 dJ1_indexOf_4cfef_9 10 rfl rfl rfl ?_
    refine pv_iconst (M := mJ1_indexOf_4cfef) (v := 0) dJ1_indexOf_4cfef_10 11 rfl (by decide) ?_
    refine iv_max (M := mJ1_indexOf_4cfef) (X := x2.toInt) (Y := 0) dJ1_indexOf_4cfef_11 wd600 Wmmax (Nat.le_of_ble_eq_true rfl) (by decide) rfl (by decide) 14 rfl (fun v4 ev4 fv4 gv4 => ?_)
    refine pv_istore_n (M := mJ1_indexOf_4cfef) 2 (lo2 := [.retAddr (g.2.2.1 7 + 1), .int x1, .int v4, .int x3]) dJ1_indexOf_4cfef_14 15 rfl rfl (by decide) rfl rfl ?_
    refine pv_iload_n (M := mJ1_indexOf_4cfef) 3 dJ1_indexOf_4cfef_15 16 rfl rfl rfl ?_
    refine pv_aloadS_n (M := mJ1_indexOf_4cfef) 0 dJ1_indexOf_4cfef_16 17 rfl rfl rfl ?_
    refine pv_strlen (M := mJ1_indexOf_4cfef) dJ1_indexOf_4cfef_17 18 rfl ?_
    refine iv_min (M := mJ1_indexOf_4cfef) (X := x3.toInt) (Y := 10) dJ1_indexOf_4cfef_18 wd601 Wmmin (Nat.le_of_ble_eq_true rfl) (by decide) rfl (by decide) 21 rfl (fun v6 ev6 fv6 gv6 => ?_)
    refine pv_istore_n (M := mJ1_indexOf_4cfef) 3 (lo2 := [.retAddr (g.2.2.1 7 + 1), .int x1, .int v4, .int v6]) dJ1_indexOf_4cfef_21 22 rfl rfl (by decide) rfl rfl ?_
    refine pv_iload_n (M := mJ1_indexOf_4cfef) 2 dJ1_indexOf_4cfef_22 23 rfl rfl rfl ?_
    refine pv_iload_n (M := mJ1_indexOf_4cfef) 3 dJ1_indexOf_4cfef_23 24 rfl rfl rfl ?_
    refine pv_icmp_lt (M := mJ1_indexOf_4cfef) (tgt := 29) dJ1_indexOf_4cfef_24 27 rfl (by decide) (fun c7 => ?_) (fun c7 => ?_)
    · have c7 := iv_lt (X := v4.toInt) (Y := v6.toInt) c7 rfl rfl
      refine pv_aloadS_n (M := mJ1_indexOf_4cfef) 0 dJ1_indexOf_4cfef_29 30 rfl rfl rfl ?_
      refine pv_iload_n (M := mJ1_indexOf_4cfef) 1 dJ1_indexOf_4cfef_30 31 rfl rfl rfl ?_
      refine pv_iload_n (M := mJ1_indexOf_4cfef) 2 dJ1_indexOf_4cfef_31 32 rfl rfl rfl ?_
      refine pv_iload_n (M := mJ1_indexOf_4cfef) 3 dJ1_indexOf_4cfef_32 33 rfl rfl rfl ?_
      refine pv_calls (M := mJ1_indexOf_4cfef) (as := [.retAddr (g.2.2.1 7 + 1), .int x1, .int v4, .int v6]) (st := []) (kc2 := 0) (ks2 := 0) dJ1_indexOf_4cfef_33 wd602 YJ1_indexOfChar_4cfef wd603 (s_J1_indexOfChar_4cfef g hT I x1 v4 (by omega) (by omega) v6 (by omega) (by omega)) rfl rfl (Nat.le_of_ble_eq_true rfl) (by decide) rfl rfl 36 rfl (fun rv h1 q8 => ?_)
      obtain ⟨v9, rfl, rfl, pv9, qv9, rv9⟩ := q8
      show PV _ _ _ _ _ _ _ 36 [.retAddr (g.2.2.1 7 + 1), .int x1, .int v4, .int v6] [.int v9] _
      exact pv_iret (M := mJ1_indexOf_4cfef) dJ1_indexOf_4cfef_36 rfl rfl ⟨_, rfl, rfl, by omega, by omega, trivial⟩
    · have c7 := iv_nlt (X := v4.toInt) (Y := v6.toInt) c7 rfl rfl
      refine pv_iconst (M := mJ1_indexOf_4cfef) (v := (-1)) dJ1_indexOf_4cfef_27 28 rfl (by decide) ?_
      exact pv_iret (M := mJ1_indexOf_4cfef) dJ1_indexOf_4cfef_28 rfl rfl ⟨_, rfl, rfl, by decide, by decide, trivial⟩
  · have c3 := iv_eq (X := v2.toInt) (Y := 0) c3 rfl (by decide)
    refine pv_iconst (M := mJ1_indexOf_4cfef) (v := (-1)) dJ1_indexOf_4cfef_7 8 rfl (by decide) ?_
    exact pv_iret (M := mJ1_indexOf_4cfef) dJ1_indexOf_4cfef_8 rfl rfl ⟨_, rfl, rfl, by decide, by decide, trivial⟩

set_option maxHeartbeats 2000000 in
set_option maxRecDepth 20000 in
theorem s_J0_indexOf_7cf53 (g : pv_G) {T : List mv_T} {m : Nat → Nat → Int32} {n : Nat → Nat → Int64} {r : Nat → Value} (hT : TX T) (I : IV BB m) (x0 : Int32) (x1 : Int32) : PM g mJ0_indexOf_7cf53 yJ0_indexOf_7cf53 (sqP (mk T m n r) (-1) 9 (fun v => True)) 3 0 0 [.retAddr (g.2.2.1 6 + 1), .int x0, .int x1] (mk T m n r) := by
  have Kp : fr (wl []) m m := fr.rf
  refine PM.of 0 (lo := [.retAddr (g.2.2.1 6 + 1), .int x0, .int x1]) rfl (by decide) rfl rfl (Nat.le_of_ble_eq_true rfl) ?_
  refine pv_aloadS_n (M := mJ0_indexOf_7cf53) 0 dJ0_indexOf_7cf53_0 1 rfl rfl rfl ?_
  refine pv_callvS (M := mJ0_indexOf_7cf53) (as := []) (st := []) (kc2 := 0) (ks2 := 0) dJ0_indexOf_7cf53_1 wd580 YJ0_isLatin1_aae02 ⟨wd581, wd582⟩ rfl (s_J0_isLatin1_aae02 g hT I) rfl rfl (Nat.le_of_ble_eq_true rfl) (by decide) rfl rfl 4 rfl (fun rv h1 q1 => ?_)
  obtain ⟨v2, rfl, rfl, pv2, qv2, rv2⟩ := q1
  show PV _ _ _ _ _ _ _ 4 [.retAddr (g.2.2.1 6 + 1), .int x0, .int x1] [.int v2] _
  refine pv_if_eq (M := mJ0_indexOf_7cf53) (tgt := 23) dJ0_indexOf_7cf53_4 7 rfl (by decide) (fun c3 => ?_) (fun c3 => ?_)
  · have c3 := iv_eq (X := v2.toInt) (Y := 0) c3 rfl (by decide)
    omega
  · have c3 := iv_ne (X := v2.toInt) (Y := 0) c3 rfl (by decide)
    refine pv_aloadS_n (M := mJ0_indexOf_7cf53) 0 dJ0_indexOf_7cf53_7 8 rfl rfl rfl ?_
    refine pv_getV (M := mJ0_indexOf_7cf53) dJ0_indexOf_7cf53_8 wd1800 11 rfl ?_
    refine pv_iload_n (M := mJ0_indexOf_7cf53) 1 dJ0_indexOf_7cf53_11 12 rfl rfl rfl ?_
    refine pv_iload_n (M := mJ0_indexOf_7cf53) 2 dJ0_indexOf_7cf53_12 13 rfl rfl rfl ?_
    refine pv_aloadS_n (M := mJ0_indexOf_7cf53) 0 dJ0_indexOf_7cf53_13 14 rfl rfl rfl ?_
    refine pv_callvS (M := mJ0_indexOf_7cf53) (as := []) (st := [.int x1, .int x0, .retAddr (g.2.2.1 7 + 1)]) (kc2 := 0) (ks2 := 0) dJ0_indexOf_7cf53_14 wd586 YJ0_length_8abf5 ⟨wd587, wd588⟩ rfl (s_J0_length_8abf5 g hT I) rfl rfl (Nat.le_of_ble_eq_true rfl) (by decide) rfl rfl 17 rfl (fun rv h1 q4 => ?_)
    obtain ⟨v5, rfl, rfl, pv5, qv5, rv5⟩ := q4
    show PV _ _ _ _ _ _ _ 17 [.retAddr (g.2.2.1 6 + 1), .int x0, .int x1] [.int v5, .int x1, .int x0, .retAddr (g.2.2.1 7 + 1)] _
    refine pv_calls (M := mJ0_indexOf_7cf53) (as := [.retAddr (g.2.2.1 7 + 1), .int x0, .int x1, .int v5]) (st := []) (kc2 := 0) (ks2 := 0) dJ0_indexOf_7cf53_17 wd594 YJ1_indexOf_4cfef wd595 (s_J1_indexOf_4cfef g hT I x0 x1 v5) rfl rfl (Nat.le_of_ble_eq_true rfl) (by decide) rfl rfl 20 rfl (fun rv h1 q6 => ?_)
    obtain ⟨v7, rfl, rfl, pv7, qv7, rv7⟩ := q6
    show PV _ _ _ _ _ _ _ 20 [.retAddr (g.2.2.1 6 + 1), .int x0, .int x1] [.int v7] _
    refine pv_goto (M := mJ0_indexOf_7cf53) (tgt := 36) dJ0_indexOf_7cf53_20 (by decide) ?_
    exact pv_iret (M := mJ0_indexOf_7cf53) dJ0_indexOf_7cf53_36 rfl rfl ⟨_, rfl, rfl, by omega, by omega, trivial⟩

set_option maxHeartbeats 2000000 in
set_option maxRecDepth 20000 in
theorem s_J0_indexOf_0f7a4 (g : pv_G) {T : List mv_T} {m : Nat → Nat → Int32} {n : Nat → Nat → Int64} {r : Nat → Value} (hT : TX T) (I : IV BB m) (x0 : Int32) : PM g mJ0_indexOf_0f7a4 yJ0_indexOf_0f7a4 (sqP (mk T m n r) (-1) 9 (fun v => True)) 4 0 0 [.retAddr (g.2.2.1 6 + 1), .int x0] (mk T m n r) := by
  have Kp : fr (wl []) m m := fr.rf
  refine PM.of 0 (lo := [.retAddr (g.2.2.1 6 + 1), .int x0]) rfl (by decide) rfl rfl (Nat.le_of_ble_eq_true rfl) ?_
  refine pv_aloadS_n (M := mJ0_indexOf_0f7a4) 0 dJ0_indexOf_0f7a4_0 1 rfl rfl rfl ?_
  refine pv_iload_n (M := mJ0_indexOf_0f7a4) 1 dJ0_indexOf_0f7a4_1 2 rfl rfl rfl ?_
  refine pv_iconst (M := mJ0_indexOf_0f7a4) (v := 0) dJ0_indexOf_0f7a4_2 3 rfl (by decide) ?_
  refine pv_callvS (M := mJ0_indexOf_0f7a4) (as := [.int x0, .int 0]) (st := []) (kc2 := 0) (ks2 := 0) dJ0_indexOf_0f7a4_3 wd576 YJ0_indexOf_7cf53 ⟨wd577, wd578⟩ rfl (s_J0_indexOf_7cf53 g hT I x0 0) rfl rfl (Nat.le_of_ble_eq_true rfl) (by decide) rfl rfl 6 rfl (fun rv h1 q1 => ?_)
  obtain ⟨v2, rfl, rfl, pv2, qv2, rv2⟩ := q1
  show PV _ _ _ _ _ _ _ 6 [.retAddr (g.2.2.1 6 + 1), .int x0] [.int v2] _
  exact pv_iret (M := mJ0_indexOf_0f7a4) dJ0_indexOf_0f7a4_6 rfl rfl ⟨_, rfl, rfl, by omega, by omega, trivial⟩

set_option maxHeartbeats 2000000 in
set_option maxRecDepth 20000 in
theorem s_X7_readNumber (g : pv_G) {T : List mv_T} {m : Nat → Nat → Int32} {n : Nat → Nat → Int64} {r : Nat → Value} {la lb : Nat} (hT : TX T) (I : IV BB m) (R : RX T r la lb) (hp0 : (m 86 3).toInt ≤ (m 86 2).toInt) : PM g mX7_readNumber yX7_readNumber (sqI T BB (wl [(77, 96, none)]) r m 0 1 (fun m' v => (m 86 3).toInt ≤ (m' 86 3).toInt ∧ (m' 86 3).toInt ≤ (m' 86 2).toInt ∧ (m' 86 2).toInt = (m 86 2).toInt)) 2 0 0 [.ref 86] (mk T m n r) := by
  have Kp : fr (wl [(77, 96, none)]) m m := fr.rf
  have R0 := R
  have zR := R.2.2.2.2.1.1
  have zR2 := R.2.2.2.2.2.1
  have z81 : 0 ≤ (m 86 3).toInt ∧ (m 86 3).toInt ≤ 160 := I 86 3
  have z82 : 0 ≤ (m 86 2).toInt ∧ (m 86 2).toInt ≤ 160 := I 86 2
  refine PM.of 2 (lo := [.ref 86, pv_U, pv_U]) rfl (by decide) rfl rfl (Nat.le_of_ble_eq_true rfl) ?_
  refine pv_iconst (M := mX7_readNumber) (v := 0) dX7_readNumber_0 1 rfl (by decide) ?_
  refine pv_istore_n (M := mX7_readNumber) 1 (lo2 := [.ref 86, .int 0, pv_U]) dX7_readNumber_1 2 rfl rfl (by decide) rfl rfl ?_
  refine pv_iconst (M := mX7_readNumber) (v := 0) dX7_readNumber_2 3 rfl (by decide) ?_
  refine pv_istore_n (M := mX7_readNumber) 2 (lo2 := [.ref 86, .int 0, .int 0]) dX7_readNumber_3 4 rfl rfl (by decide) rfl rfl ?_
  have lp8 : ∀ (fuel7 : Nat) (y1 : Int32) (y2 : Int32) (m3 : Nat → Nat → Int32) (n4 : Nat → Nat → Int64), (0 ≤ y1.toInt) → (y1.toInt ≤ 99999) → (0 ≤ y2.toInt) → (y2.toInt ≤ 5) → (y1.toInt + 1 ≤ pow10 y2.toInt) → ((m 86 3).toInt ≤ (m3 86 3).toInt) → ((m3 86 3).toInt ≤ (m3 86 2).toInt) → ((m3 86 2).toInt = (m 86 2).toInt) → IV BB m3 → fr (wl [(77, 96, none)]) m m3 → ((5 - y2.toInt) : Int).toNat < fuel7 → PV none g mX7_readNumber (sqI T BB (wl [(77, 96, none)]) r m 0 1 (fun m' v => (m 86 3).toInt ≤ (m' 86 3).toInt ∧ (m' 86 3).toInt ≤ (m' 86 2).toInt ∧ (m' 86 2).toInt = (m 86 2).toInt)) 2 0 0 4 [.ref 86, .int y1, .int y2] [] (mk T m3 n4 r) := by
    intro fuel7
    induction fuel7 with
    | zero => intro y1 y2 m3 n4 b10 b11 b12 b13 b14 b15 b16 b17 I5 K6 z18; omega
    | succ fuel7 ih9 =>
      intro y1 y2 m3 n4 b10 b11 b12 b13 b14 b15 b16 b17 I5 K6 z18
      have z19 : 0 ≤ (m3 86 3).toInt ∧ (m3 86 3).toInt ≤ 160 := I5 86 3
      have z20 : 0 ≤ (m3 86 2).toInt ∧ (m3 86 2).toInt ≤ 160 := I5 86 2
      refine pv_iload_n (M := mX7_readNumber) 2 dX7_readNumber_4 5 rfl rfl rfl ?_
      refine pv_iconst (M := mX7_readNumber) (v := 5) dX7_readNumber_5 6 rfl (by decide) ?_
      refine pv_icmp_ge (M := mX7_readNumber) (tgt := 50) dX7_readNumber_6 9 rfl (by decide) (fun c21 => ?_) (fun c21 => ?_)
      · have c21 := iv_le (X := 5) (Y := y2.toInt) c21 (by decide) rfl
        refine pv_aload_n (M := mX7_readNumber) 0 dX7_readNumber_50 51 rfl rfl rfl ?_
        refine pv_callv (M := mX7_readNumber) (as := []) (st := []) (kc2 := 0) (ks2 := 0) dX7_readNumber_51 wd559 YX7_digitAhead ⟨wd561, wd9⟩ (mk_get (tl86 hT)) rfl rfl (s_X7_digitAhead g hT I5 R) rfl rfl (Nat.le_of_ble_eq_true rfl) (by decide) rfl rfl 54 rfl (fun rv h1 q22 => ?_)
        obtain ⟨v23, rfl, rfl, pv23, qv23, rv23⟩ := q22
        replace rv23 : v23 = 0 ∨ ((m3 86 3).toInt < (m3 86 2).toInt ∧ 48 ≤ (m3 87 (m3 86 3).toInt.toNat).toInt ∧ (m3 87 (m3 86 3).toInt.toNat).toInt ≤ 57) := rv23
        show PV _ _ _ _ _ _ _ 54 [.ref 86, .int y1, .int y2] [.int v23] _
        refine pv_if_eq (M := mX7_readNumber) (tgt := 63) dX7_readNumber_54 57 rfl (by decide) (fun c24 => ?_) (fun c24 => ?_)
        · have c24 := iv_eq (X := v23.toInt) (Y := 0) c24 rfl (by decide)
          refine pv_aload_n (M := mX7_readNumber) 0 dX7_readNumber_63 64 rfl rfl rfl ?_
          refine mv_get (M := mX7_readNumber) (v := .ref lb) dX7_readNumber_64 FX7 1 wd281 (by decide) (tl86 hT) rfl R.2.2.2.1 67 rfl ?_
          refine pv_bipush (M := mX7_readNumber) (v := 35) dX7_readNumber_67 69 rfl (by decide) ?_
          refine pv_iload_n (M := mX7_readNumber) 1 dX7_readNumber_69 70 rfl rfl rfl ?_
          refine pv_callv (M := mX7_readNumber) (as := [.int 35, .int y1]) (st := []) (kc2 := 0) (ks2 := 0) dX7_readNumber_70 wd567 YX6_emit ⟨wd568, wd569⟩ (mk_get R.2.2.2.2.2.2.1) rfl rfl (s_X6_emit g hT I5 lb R.2.2.2.2.2 35 y1 (by omega) (by omega)) rfl rfl (Nat.le_of_ble_eq_true rfl) (by decide) rfl rfl 73 rfl (fun rv h1 q25 => ?_)
          obtain ⟨m26, n27, rfl, rfl, I28, K29, rm26⟩ := q25
          have K29c := K29
          have w30 : (m26 86 3).toInt = (m3 86 3).toInt := congrArg Int32.toInt (K29 86 3 (wr_out (by omega)))
          have w31 : (m26 86 2).toInt = (m3 86 2).toInt := congrArg Int32.toInt (K29 86 2 (wr_out (by omega)))
          have K29 := K6.trans (K29.sub (wr_wr (by omega) (by omega)))
          show PV _ _ _ _ _ _ _ 73 [.ref 86, .int y1, .int y2] [] _
          refine pv_iconst (M := mX7_readNumber) (v := 1) dX7_readNumber_73 74 rfl (by decide) ?_
          have z32 : (1 : Int32).toInt = 1 := by decide
          exact pv_iret (M := mX7_readNumber) dX7_readNumber_74 rfl rfl ⟨_, _, _, rfl, rfl, I28, K29, by decide, by decide, (by refine ⟨?_, ?_, ?_⟩ <;> omega)⟩
        · have pc24 := rv23.resolve_left c24
          have c24 := iv_ne (X := v23.toInt) (Y := 0) c24 rfl (by decide)
          refine pv_aload_n (M := mX7_readNumber) 0 dX7_readNumber_57 58 rfl rfl rfl ?_
          refine pv_iconst (M := mX7_readNumber) (v := 2) dX7_readNumber_58 59 rfl (by decide) ?_
          have z33 : (2 : Int32).toInt = 2 := by decide
          refine pv_callv (M := mX7_readNumber) (as := [.int 2]) (st := []) (kc2 := 0) (ks2 := 0) dX7_readNumber_59 wd531 YX7_fail ⟨wd533, wd3⟩ (mk_get (tl86 hT)) rfl rfl (s_X7_fail g hT I5 R 2 (by first | omega | assumption | exact (iv_rng _).2 | exact (iv_rng _).1 | decide)) rfl rfl (Nat.le_of_ble_eq_true rfl) (by decide) rfl rfl 62 rfl (fun rv h1 q34 => ?_)
          obtain ⟨m35, n36, v39, rfl, rfl, I37, K38, pv39, qv39, rv39⟩ := q34
          replace rv39 : v39.toInt = 0 ∧ (m3 86 3).toInt ≤ (m35 86 3).toInt ∧ (m35 86 3).toInt ≤ (m35 86 2).toInt ∧ (m35 86 2).toInt = (m3 86 2).toInt := rv39
          have K38c := K38
          have K38 := K6.trans (K38.sub (fun _ _ q => q))
          show PV _ _ _ _ _ _ _ 62 [.ref 86, .int y1, .int y2] [.int v39] _
          exact pv_iret (M := mX7_readNumber) dX7_readNumber_62 rfl (iv_nz (by omega) (by omega)) ⟨_, _, _, rfl, rfl, I37, K38, by omega, by omega, (by refine ⟨?_, ?_, ?_⟩ <;> omega)⟩
      · have c21 := iv_nle (X := 5) (Y := y2.toInt) c21 (by decide) rfl
        refine pv_aload_n (M := mX7_readNumber) 0 dX7_readNumber_9 10 rfl rfl rfl ?_
        refine pv_callv (M := mX7_readNumber) (as := []) (st := []) (kc2 := 0) (ks2 := 0) dX7_readNumber_10 wd559 YX7_digitAhead ⟨wd561, wd9⟩ (mk_get (tl86 hT)) rfl rfl (s_X7_digitAhead g hT I5 R) rfl rfl (Nat.le_of_ble_eq_true rfl) (by decide) rfl rfl 13 rfl (fun rv h1 q40 => ?_)
        obtain ⟨v41, rfl, rfl, pv41, qv41, rv41⟩ := q40
        replace rv41 : v41 = 0 ∨ ((m3 86 3).toInt < (m3 86 2).toInt ∧ 48 ≤ (m3 87 (m3 86 3).toInt.toNat).toInt ∧ (m3 87 (m3 86 3).toInt.toNat).toInt ≤ 57) := rv41
        show PV _ _ _ _ _ _ _ 13 [.ref 86, .int y1, .int y2] [.int v41] _
        refine pv_if_eq (M := mX7_readNumber) (tgt := 50) dX7_readNumber_13 16 rfl (by decide) (fun c42 => ?_) (fun c42 => ?_)
        · have c42 := iv_eq (X := v41.toInt) (Y := 0) c42 rfl (by decide)
          refine pv_aload_n (M := mX7_readNumber) 0 dX7_readNumber_50 51 rfl rfl rfl ?_
          refine pv_callv (M := mX7_readNumber) (as := []) (st := []) (kc2 := 0) (ks2 := 0) dX7_readNumber_51 wd559 YX7_digitAhead ⟨wd561, wd9⟩ (mk_get (tl86 hT)) rfl rfl (s_X7_digitAhead g hT I5 R) rfl rfl (Nat.le_of_ble_eq_true rfl) (by decide) rfl rfl 54 rfl (fun rv h1 q43 => ?_)
          obtain ⟨v44, rfl, rfl, pv44, qv44, rv44⟩ := q43
          replace rv44 : v44 = 0 ∨ ((m3 86 3).toInt < (m3 86 2).toInt ∧ 48 ≤ (m3 87 (m3 86 3).toInt.toNat).toInt ∧ (m3 87 (m3 86 3).toInt.toNat).toInt ≤ 57) := rv44
          show PV _ _ _ _ _ _ _ 54 [.ref 86, .int y1, .int y2] [.int v44] _
          refine pv_if_eq (M := mX7_readNumber) (tgt := 63) dX7_readNumber_54 57 rfl (by decide) (fun c45 => ?_) (fun c45 => ?_)
          · have c45 := iv_eq (X := v44.toInt) (Y := 0) c45 rfl (by decide)
            refine pv_aload_n (M := mX7_readNumber) 0 dX7_readNumber_63 64 rfl rfl rfl ?_
            refine mv_get (M := mX7_readNumber) (v := .ref lb) dX7_readNumber_64 FX7 1 wd281 (by decide) (tl86 hT) rfl R.2.2.2.1 67 rfl ?_
            refine pv_bipush (M := mX7_readNumber) (v := 35) dX7_readNumber_67 69 rfl (by decide) ?_
            refine pv_iload_n (M := mX7_readNumber) 1 dX7_readNumber_69 70 rfl rfl rfl ?_
            refine pv_callv (M := mX7_readNumber) (as := [.int 35, .int y1]) (st := []) (kc2 := 0) (ks2 := 0) dX7_readNumber_70 wd567 YX6_emit ⟨wd568, wd569⟩ (mk_get R.2.2.2.2.2.2.1) rfl rfl (s_X6_emit g hT I5 lb R.2.2.2.2.2 35 y1 (by omega) (by omega)) rfl rfl (Nat.le_of_ble_eq_true rfl) (by decide) rfl rfl 73 rfl (fun rv h1 q46 => ?_)
            obtain ⟨m47, n48, rfl, rfl, I49, K50, rm47⟩ := q46
            have K50c := K50
            have w51 : (m47 86 3).toInt = (m3 86 3).toInt := congrArg Int32.toInt (K50 86 3 (wr_out (by omega)))
            have w52 : (m47 86 2).toInt = (m3 86 2).toInt := congrArg Int32.toInt (K50 86 2 (wr_out (by omega)))
            have K50 := K6.trans (K50.sub (wr_wr (by omega) (by omega)))
            show PV _ _ _ _ _ _ _ 73 [.ref 86, .int y1, .int y2] [] _
            refine pv_iconst (M := mX7_readNumber) (v := 1) dX7_readNumber_73 74 rfl (by decide) ?_
            have z53 : (1 : Int32).toInt = 1 := by decide
            exact pv_iret (M := mX7_readNumber) dX7_readNumber_74 rfl rfl ⟨_, _, _, rfl, rfl, I49, K50, by decide, by decide, (by refine ⟨?_, ?_, ?_⟩ <;> omega)⟩
          · have pc45 := rv44.resolve_left c45
            have c45 := iv_ne (X := v44.toInt) (Y := 0) c45 rfl (by decide)
            refine pv_aload_n (M := mX7_readNumber) 0 dX7_readNumber_57 58 rfl rfl rfl ?_
            refine pv_iconst (M := mX7_readNumber) (v := 2) dX7_readNumber_58 59 rfl (by decide) ?_
            have z54 : (2 : Int32).toInt = 2 := by decide
            refine pv_callv (M := mX7_readNumber) (as := [.int 2]) (st := []) (kc2 := 0) (ks2 := 0) dX7_readNumber_59 wd531 YX7_fail ⟨wd533, wd3⟩ (mk_get (tl86 hT)) rfl rfl (s_X7_fail g hT I5 R 2 (by first | omega | assumption | exact (iv_rng _).2 | exact (iv_rng _).1 | decide)) rfl rfl (Nat.le_of_ble_eq_true rfl) (by decide) rfl rfl 62 rfl (fun rv h1 q55 => ?_)
            obtain ⟨m56, n57, v60, rfl, rfl, I58, K59, pv60, qv60, rv60⟩ := q55
            replace rv60 : v60.toInt = 0 ∧ (m3 86 3).toInt ≤ (m56 86 3).toInt ∧ (m56 86 3).toInt ≤ (m56 86 2).toInt ∧ (m56 86 2).toInt = (m3 86 2).toInt := rv60
            have K59c := K59
            have K59 := K6.trans (K59.sub (fun _ _ q => q))
            show PV _ _ _ _ _ _ _ 62 [.ref 86, .int y1, .int y2] [.int v60] _
            exact pv_iret (M := mX7_readNumber) dX7_readNumber_62 rfl (iv_nz (by omega) (by omega)) ⟨_, _, _, rfl, rfl, I58, K59, by omega, by omega, (by refine ⟨?_, ?_, ?_⟩ <;> omega)⟩
        · have pc42 := rv41.resolve_left c42
          have c42 := iv_ne (X := v41.toInt) (Y := 0) c42 rfl (by decide)
          refine pv_iload_n (M := mX7_readNumber) 1 dX7_readNumber_16 17 rfl rfl rfl ?_
          refine pv_bipush (M := mX7_readNumber) (v := 10) dX7_readNumber_17 19 rfl (by decide) ?_
          refine iv_imul (M := mX7_readNumber) (X := y1.toInt) (Y := 10) dX7_readNumber_19 20 rfl rfl (by decide) (by omega) (by omega) (fun v61 ev61 => ?_)
          refine pv_aload_n (M := mX7_readNumber) 0 dX7_readNumber_20 21 rfl rfl rfl ?_
          refine mv_get (M := mX7_readNumber) (v := .ref 87) dX7_readNumber_21 FX7 0 wd280 (by decide) (tl86 hT) rfl rfl 24 rfl ?_
          refine pv_aload_n (M := mX7_readNumber) 0 dX7_readNumber_24 25 rfl rfl rfl ?_
          refine iv_get (M := mX7_readNumber) (l1 := 0) (l2 := 160) dX7_readNumber_25 FX7 3 wd283 (by decide) (tl86 hT) rfl I5 rfl 28 rfl (fun v62 ev62 pv62 qv62 => ?_)
          have wv62 : v62.toInt = (m3 86 3).toInt := congrArg Int32.toInt ev62
          refine iv_iald (M := mX7_readNumber) (X := v62.toInt) (l1 := (-2147483648)) (l2 := 2147483647) dX7_readNumber_28 (tl87 hT) rfl (by omega) (by omega) I5 (fun _ => rfl) 29 rfl (fun v63 ev63 pv63 qv63 => ?_)
          have k29 : v63.toInt = (m3 87 (m3 86 3).toInt.toNat).toInt := (congrArg Int32.toInt ev63).trans (congrArg (fun z => (m3 87 z).toInt) (by omega))
          refine iv_iadd (M := mX7_readNumber) (X := v61.toInt) (Y := v63.toInt) dX7_readNumber_29 30 rfl rfl rfl (by omega) (by omega) (fun v65 ev65 => ?_)
          refine pv_bipush (M := mX7_readNumber) (v := 48) dX7_readNumber_30 32 rfl (by decide) ?_
          refine iv_isub (M := mX7_readNumber) (X := v65.toInt) (Y := 48) dX7_readNumber_32 33 rfl rfl (by decide) (by omega) (by omega) (fun v66 ev66 => ?_)
          have kz := pow10_4 (k := y2.toInt) (by omega)
          refine pv_istore_n (M := mX7_readNumber) 1 (lo2 := [.ref 86, .int v66, .int y2]) dX7_readNumber_33 34 rfl rfl (by decide) rfl rfl ?_
          refine pv_aload_n (M := mX7_readNumber) 0 dX7_readNumber_34 35 rfl rfl rfl ?_
          refine pv_dup (M := mX7_readNumber) dX7_readNumber_35 36 rfl rfl ?_
          refine iv_get (M := mX7_readNumber) (l1 := 0) (l2 := 160) dX7_readNumber_36 FX7 3 wd283 (by decide) (tl86 hT) rfl I5 rfl 39 rfl (fun v68 ev68 pv68 qv68 => ?_)
          have wv68 : v68.toInt = (m3 86 3).toInt := congrArg Int32.toInt ev68
          refine pv_iconst (M := mX7_readNumber) (v := 1) dX7_readNumber_39 40 rfl (by decide) ?_
          refine iv_iadd (M := mX7_readNumber) (X := v68.toInt) (Y := 1) dX7_readNumber_40 41 rfl rfl (by decide) (by omega) (by omega) (fun v69 ev69 => ?_)
          refine iv_put (M := mX7_readNumber) (l1 := 0) (l2 := 160) dX7_readNumber_41 FX7 3 wd283 (by decide) rfl (tl86 hT) rfl rfl rfl I5 rfl (by omega) (by omega) 44 rfl (fun m70 e73 I71 => ?_)
          have K72 := K6.set e73 (wl_r (by omega) (by omega))
          have w74 : (m70 86 3).toInt = v69.toInt := by rw [e73, up2_eq]
          have w75 : (m70 86 2).toInt = (m3 86 2).toInt := by rw [e73, up2_ne (by omega)]
          refine iv_inc (M := mX7_readNumber) (C := 1) dX7_readNumber_44 47 rfl rfl (by decide) rfl rfl (by decide) (by omega) (by omega) (fun v76 ev76 => ?_)
          show PV _ _ _ _ _ _ _ 47 [.ref 86, .int v66, .int v76] [] _
          refine pv_goto (M := mX7_readNumber) (tgt := 4) dX7_readNumber_47 (by decide) ?_
          have kp := pow10_s (k := v76.toInt) (by omega) (by omega)
          have kq : pow10 (v76.toInt - 1) = pow10 y2.toInt := congrArg pow10 (by omega)
          exact ih9 v66 v76 m70 n4 (by first | omega | assumption | exact (iv_rng _).2 | exact (iv_rng _).1 | decide) (by first | omega | assumption | exact (iv_rng _).2 | exact (iv_rng _).1 | decide) (by first | omega | assumption | exact (iv_rng _).2 | exact (iv_rng _).1 | decide) (by first | omega | assumption | exact (iv_rng _).2 | exact (iv_rng _).1 | decide) (by first | omega | assumption | (show v66.toInt + 1 ≤ pow10 v76.toInt; omega) | decide) (by first | omega | assumption | (show (m 86 3).toInt ≤ (m70 86 3).toInt; omega) | decide) (by first | omega | assumption | (show (m70 86 3).toInt ≤ (m70 86 2).toInt; omega) | decide) (by first | omega | assumption | (show (m70 86 2).toInt = (m 86 2).toInt; omega) | decide) I71 K72 (by omega)
  have z79 : (0 : Int32).toInt = 0 := by decide
  have z80 : (0 : Int32).toInt = 0 := by decide
  exact lp8 (((5 - 0) : Int).toNat + 1) 0 0 m n (by first | omega | assumption | exact (iv_rng _).2 | exact (iv_rng _).1 | decide) (by first | omega | assumption | exact (iv_rng _).2 | exact (iv_rng _).1 | decide) (by first | omega | assumption | exact (iv_rng _).2 | exact (iv_rng _).1 | decide) (by first | omega | assumption | exact (iv_rng _).2 | exact (iv_rng _).1 | decide) (by decide) (by first | omega | assumption | (show (m 86 3).toInt ≤ (m 86 3).toInt; omega) | decide) (by first | omega | assumption | (show (m 86 3).toInt ≤ (m 86 2).toInt; omega) | decide) (by first | omega | assumption | (show (m 86 2).toInt = (m 86 2).toInt; omega) | decide) I Kp (by omega)

set_option maxHeartbeats 2000000 in
set_option maxRecDepth 20000 in
theorem s_X7_readFactor_v6 (g : pv_G) {T : List mv_T} {m : Nat → Nat → Int32} {n : Nat → Nat → Int64} {r : Nat → Value} {la lb : Nat} (hT : TX T) (I : IV BB m) (R : RX T r la lb) (hp0 : (m 86 3).toInt ≤ (m 86 2).toInt) : PM g mX7_readFactor yX7_readFactor (sqI T BB (wl [(77, 96, none)]) r m 0 1 (fun m' v => (m 86 3).toInt ≤ (m' 86 3).toInt ∧ (m' 86 3).toInt ≤ (m' 86 2).toInt ∧ (m' 86 2).toInt = (m 86 2).toInt)) 5 0 0 [.ref 86, .int 6] (mk T m n r) := by
  have Kp : fr (wl [(77, 96, none)]) m m := fr.rf
  have R0 := R
  have zR := R.2.2.2.2.1.1
  have zR2 := R.2.2.2.2.2.1
  have z62 : 0 ≤ (m 86 3).toInt ∧ (m 86 3).toInt ≤ 160 := I 86 3
  have z63 : 0 ≤ (m 86 2).toInt ∧ (m 86 2).toInt ≤ 160 := I 86 2
  refine PM.of 1 (lo := [.ref 86, .int 6, pv_U]) rfl (by decide) rfl rfl (Nat.le_of_ble_eq_true rfl) ?_
  refine pv_aload_n (M := mX7_readFactor) 0 dX7_readFactor_0 1 rfl rfl rfl ?_
  refine pv_callv (M := mX7_readFactor) (as := []) (st := []) (kc2 := 0) (ks2 := 0) dX7_readFactor_1 wd527 YX7_peek ⟨wd529, wd2⟩ (mk_get (tl86 hT)) rfl rfl (s_X7_peek g hT I R) rfl rfl (Nat.le_of_ble_eq_true rfl) (by decide) rfl rfl 4 rfl (fun rv h1 q1 => ?_)
  obtain ⟨v2, rfl, rfl, pv2, qv2, rv2⟩ := q1
  replace rv2 : v2.toInt = -1 ∨ (m 86 3).toInt < (m 86 2).toInt := rv2
  show PV _ _ _ _ _ _ _ 4 [.ref 86, .int 6, pv_U] [.int v2] _
  refine pv_bipush (M := mX7_readFactor) (v := 91) dX7_readFactor_4 6 rfl (by decide) ?_
  refine pv_icmp_ne (M := mX7_readFactor) (tgt := 42) dX7_readFactor_6 9 rfl (by decide) (fun c3 => ?_) (fun c3 => ?_)
  · have c3 := iv_ne (X := v2.toInt) (Y := 91) c3 rfl (by decide)
    refine pv_aload_n (M := mX7_readFactor) 0 dX7_readFactor_42 43 rfl rfl rfl ?_
    refine pv_callv (M := mX7_readFactor) (as := []) (st := []) (kc2 := 0) (ks2 := 0) dX7_readFactor_43 wd559 YX7_digitAhead ⟨wd561, wd9⟩ (mk_get (tl86 hT)) rfl rfl (s_X7_digitAhead g hT I R) rfl rfl (Nat.le_of_ble_eq_true rfl) (by decide) rfl rfl 46 rfl (fun rv h1 q4 => ?_)
    obtain ⟨v5, rfl, rfl, pv5, qv5, rv5⟩ := q4
    replace rv5 : v5 = 0 ∨ ((m 86 3).toInt < (m 86 2).toInt ∧ 48 ≤ (m 87 (m 86 3).toInt.toNat).toInt ∧ (m 87 (m 86 3).toInt.toNat).toInt ≤ 57) := rv5
    show PV _ _ _ _ _ _ _ 46 [.ref 86, .int 6, pv_U] [.int v5] _
    refine pv_if_eq (M := mX7_readFactor) (tgt := 54) dX7_readFactor_46 49 rfl (by decide) (fun c6 => ?_) (fun c6 => ?_)
    · have c6 := iv_eq (X := v5.toInt) (Y := 0) c6 rfl (by decide)
      refine pv_aload_n (M := mX7_readFactor) 0 dX7_readFactor_54 55 rfl rfl rfl ?_
      refine pv_callv (M := mX7_readFactor) (as := []) (st := []) (kc2 := 0) (ks2 := 0) dX7_readFactor_55 wd527 YX7_peek ⟨wd529, wd2⟩ (mk_get (tl86 hT)) rfl rfl (s_X7_peek g hT I R) rfl rfl (Nat.le_of_ble_eq_true rfl) (by decide) rfl rfl 58 rfl (fun rv h1 q7 => ?_)
      obtain ⟨v8, rfl, rfl, pv8, qv8, rv8⟩ := q7
      replace rv8 : v8.toInt = -1 ∨ (m 86 3).toInt < (m 86 2).toInt := rv8
      show PV _ _ _ _ _ _ _ 58 [.ref 86, .int 6, pv_U] [.int v8] _
      refine pv_iconst (M := mX7_readFactor) (v := (-1)) dX7_readFactor_58 59 rfl (by decide) ?_
      refine pv_icmp_ne (M := mX7_readFactor) (tgt := 66) dX7_readFactor_59 62 rfl (by decide) (fun c9 => ?_) (fun c9 => ?_)
      · have c9 := iv_ne (X := v8.toInt) (Y := (-1)) c9 rfl (by decide)
        refine pv_ldcS (M := mX7_readFactor) dX7_readFactor_66 rfl 68 rfl ?_
        refine pv_aload_n (M := mX7_readFactor) 0 dX7_readFactor_68 69 rfl rfl rfl ?_
        refine pv_callv (M := mX7_readFactor) (as := []) (st := [.retAddr (g.2.2.1 6 + 1)]) (kc2 := 0) (ks2 := 0) dX7_readFactor_69 wd527 YX7_peek ⟨wd529, wd2⟩ (mk_get (tl86 hT)) rfl rfl (s_X7_peek g hT I R) rfl rfl (Nat.le_of_ble_eq_true rfl) (by decide) rfl rfl 72 rfl (fun rv h1 q10 => ?_)
        obtain ⟨v11, rfl, rfl, pv11, qv11, rv11⟩ := q10
        replace rv11 : v11.toInt = -1 ∨ (m 86 3).toInt < (m 86 2).toInt := rv11
        show PV _ _ _ _ _ _ _ 72 [.ref 86, .int 6, pv_U] [.int v11, .retAddr (g.2.2.1 6 + 1)] _
        refine iv_i2cU (M := mX7_readFactor) dX7_readFactor_72 73 rfl (fun v12 ev12 => ?_)
        refine pv_callvS (M := mX7_readFactor) (as := [.int v12]) (st := []) (kc2 := 0) (ks2 := 0) dX7_readFactor_73 wd572 YJ0_indexOf_0f7a4 ⟨wd573, wd574⟩ rfl (s_J0_indexOf_0f7a4 g hT I v12) rfl rfl (Nat.le_of_ble_eq_true rfl) (by decide) rfl rfl 76 rfl (fun rv h1 q13 => ?_)
        obtain ⟨v14, rfl, rfl, pv14, qv14, rv14⟩ := q13
        show PV _ _ _ _ _ _ _ 76 [.ref 86, .int 6, pv_U] [.int v14] _
        refine pv_istore_n (M := mX7_readFactor) 2 (lo2 := [.ref 86, .int 6, .int v14]) dX7_readFactor_76 77 rfl rfl (by decide) rfl rfl ?_
        refine pv_iload_n (M := mX7_readFactor) 2 dX7_readFactor_77 78 rfl rfl rfl ?_
        refine pv_if_ge (M := mX7_readFactor) (tgt := 87) dX7_readFactor_78 81 rfl (by decide) (fun c15 => ?_) (fun c15 => ?_)
        · have c15 := iv_le (X := 0) (Y := v14.toInt) c15 (by decide) rfl
          refine pv_aload_n (M := mX7_readFactor) 0 dX7_readFactor_87 88 rfl rfl rfl ?_
          refine mv_get (M := mX7_readFactor) (v := .ref lb) dX7_readFactor_88 FX7 1 wd281 (by decide) (tl86 hT) rfl R.2.2.2.1 91 rfl ?_
          refine pv_bipush (M := mX7_readFactor) (v := 36) dX7_readFactor_91 93 rfl (by decide) ?_
          refine pv_iload_n (M := mX7_readFactor) 2 dX7_readFactor_93 94 rfl rfl rfl ?_
          refine pv_callv (M := mX7_readFactor) (as := [.int 36, .int v14]) (st := []) (kc2 := 0) (ks2 := 0) dX7_readFactor_94 wd567 YX6_emit ⟨wd568, wd569⟩ (mk_get R.2.2.2.2.2.2.1) rfl rfl (s_X6_emit g hT I lb R.2.2.2.2.2 36 v14 (by omega) (by omega)) rfl rfl (Nat.le_of_ble_eq_true rfl) (by decide) rfl rfl 97 rfl (fun rv h1 q16 => ?_)
          obtain ⟨m17, n18, rfl, rfl, I19, K20, rm17⟩ := q16
          have K20c := K20
          have w21 : (m17 86 3).toInt = (m 86 3).toInt := congrArg Int32.toInt (K20 86 3 (wr_out (by omega)))
          have w22 : (m17 86 2).toInt = (m 86 2).toInt := congrArg Int32.toInt (K20 86 2 (wr_out (by omega)))
          have K20 := Kp.trans (K20.sub (wr_wr (by omega) (by omega)))
          show PV _ _ _ _ _ _ _ 97 [.ref 86, .int 6, .int v14] [] _
          refine pv_aload_n (M := mX7_readFactor) 0 dX7_readFactor_97 98 rfl rfl rfl ?_
          refine pv_dup (M := mX7_readFactor) dX7_readFactor_98 99 rfl rfl ?_
          refine iv_get (M := mX7_readFactor) (l1 := 0) (l2 := 160) dX7_readFactor_99 FX7 3 wd283 (by decide) (tl86 hT) rfl I19 rfl 102 rfl (fun v23 ev23 pv23 qv23 => ?_)
          have wv23 : v23.toInt = (m17 86 3).toInt := congrArg Int32.toInt ev23
          refine pv_iconst (M := mX7_readFactor) (v := 1) dX7_readFactor_102 103 rfl (by decide) ?_
          refine iv_iadd (M := mX7_readFactor) (X := v23.toInt) (Y := 1) dX7_readFactor_103 104 rfl rfl (by decide) (by omega) (by omega) (fun v24 ev24 => ?_)
          refine iv_put (M := mX7_readFactor) (l1 := 0) (l2 := 160) dX7_readFactor_104 FX7 3 wd283 (by decide) rfl (tl86 hT) rfl rfl rfl I19 rfl (by omega) (by omega) 107 rfl (fun m25 e28 I26 => ?_)
          have K27 := K20.set e28 (wl_r (by omega) (by omega))
          have w29 : (m25 86 3).toInt = v24.toInt := by rw [e28, up2_eq]
          have w30 : (m25 86 2).toInt = (m17 86 2).toInt := by rw [e28, up2_ne (by omega)]
          refine pv_iconst (M := mX7_readFactor) (v := 1) dX7_readFactor_107 108 rfl (by decide) ?_
          have z31 : (1 : Int32).toInt = 1 := by decide
          exact pv_iret (M := mX7_readFactor) dX7_readFactor_108 rfl rfl ⟨_, _, _, rfl, rfl, I26, K27, by decide, by decide, (by refine ⟨?_, ?_, ?_⟩ <;> omega)⟩
        · have c15 := iv_nle (X := 0) (Y := v14.toInt) c15 (by decide) rfl
          refine pv_aload_n (M := mX7_readFactor) 0 dX7_readFactor_81 82 rfl rfl rfl ?_
          refine pv_iconst (M := mX7_readFactor) (v := 1) dX7_readFactor_82 83 rfl (by decide) ?_
          have z32 : (1 : Int32).toInt = 1 := by decide
          refine pv_callv (M := mX7_readFactor) (as := [.int 1]) (st := []) (kc2 := 0) (ks2 := 0) dX7_readFactor_83 wd531 YX7_fail ⟨wd533, wd3⟩ (mk_get (tl86 hT)) rfl rfl (s_X7_fail g hT I R 1 (by first | omega | assumption | exact (iv_rng _).2 | exact (iv_rng _).1 | decide)) rfl rfl (Nat.le_of_ble_eq_true rfl) (by decide) rfl rfl 86 rfl (fun rv h1 q33 => ?_)
          obtain ⟨m34, n35, v38, rfl, rfl, I36, K37, pv38, qv38, rv38⟩ := q33
          replace rv38 : v38.toInt = 0 ∧ (m 86 3).toInt ≤ (m34 86 3).toInt ∧ (m34 86 3).toInt ≤ (m34 86 2).toInt ∧ (m34 86 2).toInt = (m 86 2).toInt := rv38
          have K37c := K37
          have K37 := Kp.trans (K37.sub (fun _ _ q => q))
          show PV _ _ _ _ _ _ _ 86 [.ref 86, .int 6, .int v14] [.int v38] _
          exact pv_iret (M := mX7_readFactor) dX7_readFactor_86 rfl (iv_nz (by omega) (by omega)) ⟨_, _, _, rfl, rfl, I36, K37, by omega, by omega, (by refine ⟨?_, ?_, ?_⟩ <;> omega)⟩
      · have c9 := iv_eq (X := v8.toInt) (Y := (-1)) c9 rfl (by decide)
        refine pv_iconst (M := mX7_readFactor) (v := (-1)) dX7_readFactor_62 63 rfl (by decide) ?_
        refine pv_goto (M := mX7_readFactor) (tgt := 76) dX7_readFactor_63 (by decide) ?_
        refine pv_istore_n (M := mX7_readFactor) 2 (lo2 := [.ref 86, .int 6, .int (-1)]) dX7_readFactor_76 77 rfl rfl (by decide) rfl rfl ?_
        refine pv_iload_n (M := mX7_readFactor) 2 dX7_readFactor_77 78 rfl rfl rfl ?_
        refine pv_if_ge (M := mX7_readFactor) (tgt := 87) dX7_readFactor_78 81 rfl (by decide) (fun q => absurd q (by decide)) (fun _ => ?_)
        refine pv_aload_n (M := mX7_readFactor) 0 dX7_readFactor_81 82 rfl rfl rfl ?_
        refine pv_iconst (M := mX7_readFactor) (v := 1) dX7_readFactor_82 83 rfl (by decide) ?_
        have z40 : (1 : Int32).toInt = 1 := by decide
        refine pv_callv (M := mX7_readFactor) (as := [.int 1]) (st := []) (kc2 := 0) (ks2 := 0) dX7_readFactor_83 wd531 YX7_fail ⟨wd533, wd3⟩ (mk_get (tl86 hT)) rfl rfl (s_X7_fail g hT I R 1 (by first | omega | assumption | exact (iv_rng _).2 | exact (iv_rng _).1 | decide)) rfl rfl (Nat.le_of_ble_eq_true rfl) (by decide) rfl rfl 86 rfl (fun rv h1 q41 => ?_)
        obtain ⟨m42, n43, v46, rfl, rfl, I44, K45, pv46, qv46, rv46⟩ := q41
        replace rv46 : v46.toInt = 0 ∧ (m 86 3).toInt ≤ (m42 86 3).toInt ∧ (m42 86 3).toInt ≤ (m42 86 2).toInt ∧ (m42 86 2).toInt = (m 86 2).toInt := rv46
        have K45c := K45
        have K45 := Kp.trans (K45.sub (fun _ _ q => q))
        show PV _ _ _ _ _ _ _ 86 [.ref 86, .int 6, .int (-1)] [.int v46] _
        exact pv_iret (M := mX7_readFactor) dX7_readFactor_86 rfl (iv_nz (by omega) (by omega)) ⟨_, _, _, rfl, rfl, I44, K45, by omega, by omega, (by refine ⟨?_, ?_, ?_⟩ <;> omega)⟩
    · have pc6 := rv5.resolve_left c6
      have c6 := iv_ne (X := v5.toInt) (Y := 0) c6 rfl (by decide)
      refine pv_aload_n (M := mX7_readFactor) 0 dX7_readFactor_49 50 rfl rfl rfl ?_
      refine pv_callv (M := mX7_readFactor) (as := []) (st := []) (kc2 := 0) (ks2 := 0) dX7_readFactor_50 wd563 YX7_readNumber ⟨wd565, wd10⟩ (mk_get (tl86 hT)) rfl rfl (s_X7_readNumber g hT I R (by first | omega | assumption | exact (iv_rng _).2 | exact (iv_rng _).1 | decide)) rfl rfl (Nat.le_of_ble_eq_true rfl) (by decide) rfl rfl 53 rfl (fun rv h1 q47 => ?_)
      obtain ⟨m48, n49, v52, rfl, rfl, I50, K51, pv52, qv52, rv52⟩ := q47
      replace rv52 : (m 86 3).toInt ≤ (m48 86 3).toInt ∧ (m48 86 3).toInt ≤ (m48 86 2).toInt ∧ (m48 86 2).toInt = (m 86 2).toInt := rv52
      have K51c := K51
      have K51 := Kp.trans (K51.sub (fun _ _ q => q))
      show PV _ _ _ _ _ _ _ 53 [.ref 86, .int 6, pv_U] [.int v52] _
      exact pv_iret (M := mX7_readFactor) dX7_readFactor_53 rfl (iv_nz (by omega) (by omega)) ⟨_, _, _, rfl, rfl, I50, K51, by omega, by omega, (by refine ⟨?_, ?_, ?_⟩ <;> omega)⟩
  · have c3 := iv_eq (X := v2.toInt) (Y := 91) c3 rfl (by decide)
    refine pv_aload_n (M := mX7_readFactor) 0 dX7_readFactor_9 10 rfl rfl rfl ?_
    refine pv_iload_n (M := mX7_readFactor) 1 dX7_readFactor_10 11 rfl rfl rfl ?_
    have z53 : (6 : Int32).toInt = 6 := by decide
    refine pv_callv (M := mX7_readFactor) (as := [.int 6]) (st := []) (kc2 := 0) (ks2 := 0) dX7_readFactor_11 wd551 YX7_open ⟨wd553, wd7⟩ (mk_get (tl86 hT)) rfl rfl (s_X7_open g hT I R 6 (by first | omega | assumption | exact (iv_rng _).2 | exact (iv_rng _).1 | decide)) rfl rfl (Nat.le_of_ble_eq_true rfl) (by decide) rfl rfl 14 rfl (fun rv h1 q54 => ?_)
    obtain ⟨m55, n56, v59, rfl, rfl, I57, K58, pv59, qv59, rv59⟩ := q54
    replace rv59 : (v59 = 0 ∨ (6 : Int) ≤ 5) ∧ (m 86 3).toInt ≤ (m55 86 3).toInt ∧ (m55 86 3).toInt ≤ (m55 86 2).toInt ∧ (m55 86 2).toInt = (m 86 2).toInt := by have q_ := rv59; (try rw [z53] at q_); exact q_
    have K58c := K58
    have K58 := Kp.trans (K58.sub (fun _ _ q => q))
    show PV _ _ _ _ _ _ _ 14 [.ref 86, .int 6, pv_U] [.int v59] _
    refine pv_if_eq (M := mX7_readFactor) (tgt := 40) dX7_readFactor_14 17 rfl (by decide) (fun c60 => ?_) (fun c60 => ?_)
    · have c60 := iv_eq (X := v59.toInt) (Y := 0) c60 rfl (by decide)
      refine pv_iconst (M := mX7_readFactor) (v := 0) dX7_readFactor_40 41 rfl (by decide) ?_
      have z61 : (0 : Int32).toInt = 0 := by decide
      exact pv_iret (M := mX7_readFactor) dX7_readFactor_41 rfl rfl ⟨_, _, _, rfl, rfl, I57, K58, by decide, by decide, (by refine ⟨?_, ?_, ?_⟩ <;> omega)⟩
    · have pc60 := rv59.1.resolve_left c60
      have c60 := iv_ne (X := v59.toInt) (Y := 0) c60 rfl (by decide)
      omega

set_option maxHeartbeats 2000000 in
set_option maxRecDepth 20000 in
theorem s_X7_readTerm_v6 (g : pv_G) {T : List mv_T} {m : Nat → Nat → Int32} {n : Nat → Nat → Int64} {r : Nat → Value} {la lb : Nat} (hT : TX T) (I : IV BB m) (R : RX T r la lb) (hp0 : (m 86 3).toInt ≤ (m 86 2).toInt) : PM g mX7_readTerm yX7_readTerm (sqI T BB (wl [(77, 96, none)]) r m 0 1 (fun m' v => (m 86 3).toInt ≤ (m' 86 3).toInt ∧ (m' 86 3).toInt ≤ (m' 86 2).toInt ∧ (m' 86 2).toInt = (m 86 2).toInt)) 6 0 0 [.ref 86, .int 6] (mk T m n r) := by
  have Kp : fr (wl [(77, 96, none)]) m m := fr.rf
  have R0 := R
  have zR := R.2.2.2.2.1.1
  have zR2 := R.2.2.2.2.2.1
  have z60 : 0 ≤ (m 86 3).toInt ∧ (m 86 3).toInt ≤ 160 := I 86 3
  have z61 : 0 ≤ (m 86 2).toInt ∧ (m 86 2).toInt ≤ 160 := I 86 2
  refine PM.of 2 (lo := [.ref 86, .int 6, pv_U, pv_U]) rfl (by decide) rfl rfl (Nat.le_of_ble_eq_true rfl) ?_
  refine pv_aload_n (M := mX7_readTerm) 0 dX7_readTerm_0 1 rfl rfl rfl ?_
  refine pv_iload_n (M := mX7_readTerm) 1 dX7_readTerm_1 2 rfl rfl rfl ?_
  have z1 : (6 : Int32).toInt = 6 := by decide
  refine pv_callv (M := mX7_readTerm) (as := [.int 6]) (st := []) (kc2 := 0) (ks2 := 0) dX7_readTerm_2 wd547 YX7_readFactor ⟨wd549, wd6⟩ (mk_get (tl86 hT)) rfl rfl (s_X7_readFactor_v6 g hT I R (by first | omega | assumption | exact (iv_rng _).2 | exact (iv_rng _).1 | decide)) rfl rfl (Nat.le_of_ble_eq_true rfl) (by decide) rfl rfl 5 rfl (fun rv h1 q2 => ?_)
  obtain ⟨m3, n4, v7, rfl, rfl, I5, K6, pv7, qv7, rv7⟩ := q2
  replace rv7 : (m 86 3).toInt ≤ (m3 86 3).toInt ∧ (m3 86 3).toInt ≤ (m3 86 2).toInt ∧ (m3 86 2).toInt = (m 86 2).toInt := rv7
  have K6c := K6
  have K6 := Kp.trans (K6.sub (fun _ _ q => q))
  show PV _ _ _ _ _ _ _ 5 [.ref 86, .int 6, pv_U, pv_U] [.int v7] _
  refine pv_if_ne (M := mX7_readTerm) (tgt := 10) dX7_readTerm_5 8 rfl (by decide) (fun c8 => ?_) (fun c8 => ?_)
  · have c8 := iv_ne (X := v7.toInt) (Y := 0) c8 rfl (by decide)
    refine pv_iconst (M := mX7_readTerm) (v := 0) dX7_readTerm_10 11 rfl (by decide) ?_
    refine pv_istore_n (M := mX7_readTerm) 2 (lo2 := [.ref 86, .int 6, .int 0, pv_U]) dX7_readTerm_11 12 rfl rfl (by decide) rfl rfl ?_
    have lp15 : ∀ (fuel14 : Nat) (y9 : Int32) (m10 : Nat → Nat → Int32) (n11 : Nat → Nat → Int64), (0 ≤ y9.toInt) → (y9.toInt ≤ 160) → ((m 86 3).toInt ≤ (m10 86 3).toInt) → ((m10 86 3).toInt ≤ (m10 86 2).toInt) → ((m10 86 2).toInt = (m 86 2).toInt) → IV BB m10 → fr (wl [(77, 96, none)]) m m10 → ((160 - y9.toInt) : Int).toNat < fuel14 → PV none g mX7_readTerm (sqI T BB (wl [(77, 96, none)]) r m 0 1 (fun m' v => (m 86 3).toInt ≤ (m' 86 3).toInt ∧ (m' 86 3).toInt ≤ (m' 86 2).toInt ∧ (m' 86 2).toInt = (m 86 2).toInt)) 6 0 0 12 [.ref 86, .int 6, .int y9, pv_U] [] (mk T m10 n11 r) := by
      intro fuel14
      induction fuel14 with
      | zero => intro y9 m10 n11 b17 b18 b19 b20 b21 I12 K13 z22; omega
      | succ fuel14 ih16 =>
        intro y9 m10 n11 b17 b18 b19 b20 b21 I12 K13 z22
        have z23 : 0 ≤ (m10 86 3).toInt ∧ (m10 86 3).toInt ≤ 160 := I12 86 3
        have z24 : 0 ≤ (m10 86 2).toInt ∧ (m10 86 2).toInt ≤ 160 := I12 86 2
        refine pv_iload_n (M := mX7_readTerm) 2 dX7_readTerm_12 13 rfl rfl rfl ?_
        refine pv_sipush (M := mX7_readTerm) (v := 160) dX7_readTerm_13 16 rfl (by decide) ?_
        refine pv_icmp_ge (M := mX7_readTerm) (tgt := 66) dX7_readTerm_16 19 rfl (by decide) (fun c25 => ?_) (fun c25 => ?_)
        · have c25 := iv_le (X := 160) (Y := y9.toInt) c25 (by decide) rfl
          refine pv_iconst (M := mX7_readTerm) (v := 1) dX7_readTerm_66 67 rfl (by decide) ?_
          have z26 : (1 : Int32).toInt = 1 := by decide
          exact pv_iret (M := mX7_readTerm) dX7_readTerm_67 rfl rfl ⟨_, _, _, rfl, rfl, I12, K13, by decide, by decide, (by refine ⟨?_, ?_, ?_⟩ <;> omega)⟩
        · have c25 := iv_nle (X := 160) (Y := y9.toInt) c25 (by decide) rfl
          refine pv_aload_n (M := mX7_readTerm) 0 dX7_readTerm_19 20 rfl rfl rfl ?_
          refine pv_callv (M := mX7_readTerm) (as := []) (st := []) (kc2 := 0) (ks2 := 0) dX7_readTerm_20 wd654 YX7_timesAhead ⟨wd656, wd11⟩ (mk_get (tl86 hT)) rfl rfl (s_X7_timesAhead g hT I12 R) rfl rfl (Nat.le_of_ble_eq_true rfl) (by decide) rfl rfl 23 rfl (fun rv h1 q27 => ?_)
          obtain ⟨v28, rfl, rfl, pv28, qv28, rv28⟩ := q27
          replace rv28 : v28 = 0 ∨ (m10 86 3).toInt < (m10 86 2).toInt := rv28
          show PV _ _ _ _ _ _ _ 23 [.ref 86, .int 6, .int y9, pv_U] [.int v28] _
          refine pv_if_eq (M := mX7_readTerm) (tgt := 66) dX7_readTerm_23 26 rfl (by decide) (fun c29 => ?_) (fun c29 => ?_)
          · have c29 := iv_eq (X := v28.toInt) (Y := 0) c29 rfl (by decide)
            refine pv_iconst (M := mX7_readTerm) (v := 1) dX7_readTerm_66 67 rfl (by decide) ?_
            have z30 : (1 : Int32).toInt = 1 := by decide
            exact pv_iret (M := mX7_readTerm) dX7_readTerm_67 rfl rfl ⟨_, _, _, rfl, rfl, I12, K13, by decide, by decide, (by refine ⟨?_, ?_, ?_⟩ <;> omega)⟩
          · have pc29 := rv28.resolve_left c29
            have c29 := iv_ne (X := v28.toInt) (Y := 0) c29 rfl (by decide)
            refine pv_aload_n (M := mX7_readTerm) 0 dX7_readTerm_26 27 rfl rfl rfl ?_
            refine pv_callv (M := mX7_readTerm) (as := []) (st := []) (kc2 := 0) (ks2 := 0) dX7_readTerm_27 wd527 YX7_peek ⟨wd529, wd2⟩ (mk_get (tl86 hT)) rfl rfl (s_X7_peek g hT I12 R) rfl rfl (Nat.le_of_ble_eq_true rfl) (by decide) rfl rfl 30 rfl (fun rv h1 q31 => ?_)
            obtain ⟨v32, rfl, rfl, pv32, qv32, rv32⟩ := q31
            replace rv32 : v32.toInt = -1 ∨ (m10 86 3).toInt < (m10 86 2).toInt := rv32
            show PV _ _ _ _ _ _ _ 30 [.ref 86, .int 6, .int y9, pv_U] [.int v32] _
            refine pv_istore_n (M := mX7_readTerm) 3 (lo2 := [.ref 86, .int 6, .int y9, .int v32]) dX7_readTerm_30 31 rfl rfl (by decide) rfl rfl ?_
            refine pv_aload_n (M := mX7_readTerm) 0 dX7_readTerm_31 32 rfl rfl rfl ?_
            refine pv_dup (M := mX7_readTerm) dX7_readTerm_32 33 rfl rfl ?_
            refine iv_get (M := mX7_readTerm) (l1 := 0) (l2 := 160) dX7_readTerm_33 FX7 3 wd283 (by decide) (tl86 hT) rfl I12 rfl 36 rfl (fun v33 ev33 pv33 qv33 => ?_)
            have wv33 : v33.toInt = (m10 86 3).toInt := congrArg Int32.toInt ev33
            refine pv_iconst (M := mX7_readTerm) (v := 1) dX7_readTerm_36 37 rfl (by decide) ?_
            refine iv_iadd (M := mX7_readTerm) (X := v33.toInt) (Y := 1) dX7_readTerm_37 38 rfl rfl (by decide) (by omega) (by omega) (fun v34 ev34 => ?_)
            refine iv_put (M := mX7_readTerm) (l1 := 0) (l2 := 160) dX7_readTerm_38 FX7 3 wd283 (by decide) rfl (tl86 hT) rfl rfl rfl I12 rfl (by omega) (by omega) 41 rfl (fun m35 e38 I36 => ?_)
            have K37 := K13.set e38 (wl_r (by omega) (by omega))
            have w39 : (m35 86 3).toInt = v34.toInt := by rw [e38, up2_eq]
            have w40 : (m35 86 2).toInt = (m10 86 2).toInt := by rw [e38, up2_ne (by omega)]
            refine pv_aload_n (M := mX7_readTerm) 0 dX7_readTerm_41 42 rfl rfl rfl ?_
            refine pv_iload_n (M := mX7_readTerm) 1 dX7_readTerm_42 43 rfl rfl rfl ?_
            have z41 : (6 : Int32).toInt = 6 := by decide
            refine pv_callv (M := mX7_readTerm) (as := [.int 6]) (st := []) (kc2 := 0) (ks2 := 0) dX7_readTerm_43 wd547 YX7_readFactor ⟨wd549, wd6⟩ (mk_get (tl86 hT)) rfl rfl (s_X7_readFactor_v6 g hT I36 R (by first | omega | assumption | exact (iv_rng _).2 | exact (iv_rng _).1 | decide)) rfl rfl (Nat.le_of_ble_eq_true rfl) (by decide) rfl rfl 46 rfl (fun rv h1 q42 => ?_)
            obtain ⟨m43, n44, v47, rfl, rfl, I45, K46, pv47, qv47, rv47⟩ := q42
            replace rv47 : (m35 86 3).toInt ≤ (m43 86 3).toInt ∧ (m43 86 3).toInt ≤ (m43 86 2).toInt ∧ (m43 86 2).toInt = (m35 86 2).toInt := rv47
            have K46c := K46
            have K46 := K37.trans (K46.sub (fun _ _ q => q))
            show PV _ _ _ _ _ _ _ 46 [.ref 86, .int 6, .int y9, .int v32] [.int v47] _
            refine pv_if_ne (M := mX7_readTerm) (tgt := 51) dX7_readTerm_46 49 rfl (by decide) (fun c48 => ?_) (fun c48 => ?_)
            · have c48 := iv_ne (X := v47.toInt) (Y := 0) c48 rfl (by decide)
              refine pv_aload_n (M := mX7_readTerm) 0 dX7_readTerm_51 52 rfl rfl rfl ?_
              refine mv_get (M := mX7_readTerm) (v := .ref lb) dX7_readTerm_52 FX7 1 wd281 (by decide) (tl86 hT) rfl R.2.2.2.1 55 rfl ?_
              refine pv_iload_n (M := mX7_readTerm) 3 dX7_readTerm_55 56 rfl rfl rfl ?_
              refine pv_iconst (M := mX7_readTerm) (v := 0) dX7_readTerm_56 57 rfl (by decide) ?_
              refine pv_callv (M := mX7_readTerm) (as := [.int v32, .int 0]) (st := []) (kc2 := 0) (ks2 := 0) dX7_readTerm_57 wd567 YX6_emit ⟨wd568, wd569⟩ (mk_get R.2.2.2.2.2.2.1) rfl rfl (s_X6_emit g hT I45 lb R.2.2.2.2.2 v32 0 (by decide) (by decide)) rfl rfl (Nat.le_of_ble_eq_true rfl) (by decide) rfl rfl 60 rfl (fun rv h1 q49 => ?_)
              obtain ⟨m50, n51, rfl, rfl, I52, K53, rm50⟩ := q49
              have K53c := K53
              have w54 : (m50 86 3).toInt = (m43 86 3).toInt := congrArg Int32.toInt (K53 86 3 (wr_out (by omega)))
              have w55 : (m50 86 2).toInt = (m43 86 2).toInt := congrArg Int32.toInt (K53 86 2 (wr_out (by omega)))
              have K53 := K46.trans (K53.sub (wr_wr (by omega) (by omega)))
              show PV _ _ _ _ _ _ _ 60 [.ref 86, .int 6, .int y9, .int v32] [] _
              refine iv_inc (M := mX7_readTerm) (C := 1) dX7_readTerm_60 63 rfl rfl (by decide) rfl rfl (by decide) (by omega) (by omega) (fun v56 ev56 => ?_)
              show PV _ _ _ _ _ _ _ 63 [.ref 86, .int 6, .int v56, .int v32] [] _
              refine pv_goto (M := mX7_readTerm) (tgt := 12) dX7_readTerm_63 (by decide) ?_
              refine pv_fg (lo2 := [.ref 86, .int 6, .int v56, pv_U]) ⟨Or.inr rfl, ⟨Or.inr rfl, ⟨Or.inr rfl, ⟨Or.inl rfl, trivial⟩⟩⟩⟩ ?_
              exact ih16 v56 m50 n51 (by first | omega | assumption | exact (iv_rng _).2 | exact (iv_rng _).1 | decide) (by first | omega | assumption | exact (iv_rng _).2 | exact (iv_rng _).1 | decide) (by first | omega | assumption | (show (m 86 3).toInt ≤ (m50 86 3).toInt; omega) | decide) (by first | omega | assumption | (show (m50 86 3).toInt ≤ (m50 86 2).toInt; omega) | decide) (by first | omega | assumption | (show (m50 86 2).toInt = (m 86 2).toInt; omega) | decide) I52 K53 (by omega)
            · have c48 := iv_eq (X := v47.toInt) (Y := 0) c48 rfl (by decide)
              refine pv_iconst (M := mX7_readTerm) (v := 0) dX7_readTerm_49 50 rfl (by decide) ?_
              have z57 : (0 : Int32).toInt = 0 := by decide
              exact pv_iret (M := mX7_readTerm) dX7_readTerm_50 rfl rfl ⟨_, _, _, rfl, rfl, I45, K46, by decide, by decide, (by refine ⟨?_, ?_, ?_⟩ <;> omega)⟩
    have z58 : (0 : Int32).toInt = 0 := by decide
    exact lp15 (((160 - 0) : Int).toNat + 1) 0 m3 n4 (by first | omega | assumption | exact (iv_rng _).2 | exact (iv_rng _).1 | decide) (by first | omega | assumption | exact (iv_rng _).2 | exact (iv_rng _).1 | decide) (by first | omega | assumption | (show (m 86 3).toInt ≤ (m3 86 3).toInt; omega) | decide) (by first | omega | assumption | (show (m3 86 3).toInt ≤ (m3 86 2).toInt; omega) | decide) (by first | omega | assumption | (show (m3 86 2).toInt = (m 86 2).toInt; omega) | decide) I5 K6 (by omega)
  · have c8 := iv_eq (X := v7.toInt) (Y := 0) c8 rfl (by decide)
    refine pv_iconst (M := mX7_readTerm) (v := 0) dX7_readTerm_8 9 rfl (by decide) ?_
    have z59 : (0 : Int32).toInt = 0 := by decide
    exact pv_iret (M := mX7_readTerm) dX7_readTerm_9 rfl rfl ⟨_, _, _, rfl, rfl, I5, K6, by decide, by decide, (by refine ⟨?_, ?_, ?_⟩ <;> omega)⟩

set_option maxHeartbeats 2000000 in
set_option maxRecDepth 20000 in
theorem s_X7_readSum_v6 (g : pv_G) {T : List mv_T} {m : Nat → Nat → Int32} {n : Nat → Nat → Int64} {r : Nat → Value} {la lb : Nat} (hT : TX T) (I : IV BB m) (R : RX T r la lb) (hp0 : (m 86 3).toInt ≤ (m 86 2).toInt) : PM g mX7_readSum yX7_readSum (sqI T BB (wl [(77, 96, none)]) r m 0 1 (fun m' v => (m 86 3).toInt ≤ (m' 86 3).toInt ∧ (m' 86 3).toInt ≤ (m' 86 2).toInt ∧ (m' 86 2).toInt = (m 86 2).toInt)) 7 0 0 [.ref 86, .int 6] (mk T m n r) := by
  have Kp : fr (wl [(77, 96, none)]) m m := fr.rf
  have R0 := R
  have zR := R.2.2.2.2.1.1
  have zR2 := R.2.2.2.2.2.1
  have z90 : 0 ≤ (m 86 3).toInt ∧ (m 86 3).toInt ≤ 160 := I 86 3
  have z91 : 0 ≤ (m 86 2).toInt ∧ (m 86 2).toInt ≤ 160 := I 86 2
  refine PM.of 2 (lo := [.ref 86, .int 6, pv_U, pv_U]) rfl (by decide) rfl rfl (Nat.le_of_ble_eq_true rfl) ?_
  refine pv_aload_n (M := mX7_readSum) 0 dX7_readSum_0 1 rfl rfl rfl ?_
  refine pv_iload_n (M := mX7_readSum) 1 dX7_readSum_1 2 rfl rfl rfl ?_
  have z1 : (6 : Int32).toInt = 6 := by decide
  refine pv_callv (M := mX7_readSum) (as := [.int 6]) (st := []) (kc2 := 0) (ks2 := 0) dX7_readSum_2 wd543 YX7_readTerm ⟨wd545, wd5⟩ (mk_get (tl86 hT)) rfl rfl (s_X7_readTerm_v6 g hT I R (by first | omega | assumption | exact (iv_rng _).2 | exact (iv_rng _).1 | decide)) rfl rfl (Nat.le_of_ble_eq_true rfl) (by decide) rfl rfl 5 rfl (fun rv h1 q2 => ?_)
  obtain ⟨m3, n4, v7, rfl, rfl, I5, K6, pv7, qv7, rv7⟩ := q2
  replace rv7 : (m 86 3).toInt ≤ (m3 86 3).toInt ∧ (m3 86 3).toInt ≤ (m3 86 2).toInt ∧ (m3 86 2).toInt = (m 86 2).toInt := rv7
  have K6c := K6
  have K6 := Kp.trans (K6.sub (fun _ _ q => q))
  show PV _ _ _ _ _ _ _ 5 [.ref 86, .int 6, pv_U, pv_U] [.int v7] _
  refine pv_if_ne (M := mX7_readSum) (tgt := 10) dX7_readSum_5 8 rfl (by decide) (fun c8 => ?_) (fun c8 => ?_)
  · have c8 := iv_ne (X := v7.toInt) (Y := 0) c8 rfl (by decide)
    refine pv_iconst (M := mX7_readSum) (v := 0) dX7_readSum_10 11 rfl (by decide) ?_
    refine pv_istore_n (M := mX7_readSum) 2 (lo2 := [.ref 86, .int 6, .int 0, pv_U]) dX7_readSum_11 12 rfl rfl (by decide) rfl rfl ?_
    have lp15 : ∀ (fuel14 : Nat) (y9 : Int32) (m10 : Nat → Nat → Int32) (n11 : Nat → Nat → Int64), (0 ≤ y9.toInt) → (y9.toInt ≤ 160) → ((m 86 3).toInt ≤ (m10 86 3).toInt) → ((m10 86 3).toInt ≤ (m10 86 2).toInt) → ((m10 86 2).toInt = (m 86 2).toInt) → IV BB m10 → fr (wl [(77, 96, none)]) m m10 → ((160 - y9.toInt) : Int).toNat < fuel14 → PV none g mX7_readSum (sqI T BB (wl [(77, 96, none)]) r m 0 1 (fun m' v => (m 86 3).toInt ≤ (m' 86 3).toInt ∧ (m' 86 3).toInt ≤ (m' 86 2).toInt ∧ (m' 86 2).toInt = (m 86 2).toInt)) 7 0 0 12 [.ref 86, .int 6, .int y9, pv_U] [] (mk T m10 n11 r) := by
      intro fuel14
      induction fuel14 with
      | zero => intro y9 m10 n11 b17 b18 b19 b20 b21 I12 K13 z22; omega
      | succ fuel14 ih16 =>
        intro y9 m10 n11 b17 b18 b19 b20 b21 I12 K13 z22
        have z23 : 0 ≤ (m10 86 3).toInt ∧ (m10 86 3).toInt ≤ 160 := I12 86 3
        have z24 : 0 ≤ (m10 86 2).toInt ∧ (m10 86 2).toInt ≤ 160 := I12 86 2
        refine pv_iload_n (M := mX7_readSum) 2 dX7_readSum_12 13 rfl rfl rfl ?_
        refine pv_sipush (M := mX7_readSum) (v := 160) dX7_readSum_13 16 rfl (by decide) ?_
        refine pv_icmp_ge (M := mX7_readSum) (tgt := 77) dX7_readSum_16 19 rfl (by decide) (fun c25 => ?_) (fun c25 => ?_)
        · have c25 := iv_le (X := 160) (Y := y9.toInt) c25 (by decide) rfl
          refine pv_iconst (M := mX7_readSum) (v := 1) dX7_readSum_77 78 rfl (by decide) ?_
          have z26 : (1 : Int32).toInt = 1 := by decide
          exact pv_iret (M := mX7_readSum) dX7_readSum_78 rfl rfl ⟨_, _, _, rfl, rfl, I12, K13, by decide, by decide, (by refine ⟨?_, ?_, ?_⟩ <;> omega)⟩
        · have c25 := iv_nle (X := 160) (Y := y9.toInt) c25 (by decide) rfl
          refine pv_aload_n (M := mX7_readSum) 0 dX7_readSum_19 20 rfl rfl rfl ?_
          refine pv_callv (M := mX7_readSum) (as := []) (st := []) (kc2 := 0) (ks2 := 0) dX7_readSum_20 wd527 YX7_peek ⟨wd529, wd2⟩ (mk_get (tl86 hT)) rfl rfl (s_X7_peek g hT I12 R) rfl rfl (Nat.le_of_ble_eq_true rfl) (by decide) rfl rfl 23 rfl (fun rv h1 q27 => ?_)
          obtain ⟨v28, rfl, rfl, pv28, qv28, rv28⟩ := q27
          replace rv28 : v28.toInt = -1 ∨ (m10 86 3).toInt < (m10 86 2).toInt := rv28
          show PV _ _ _ _ _ _ _ 23 [.ref 86, .int 6, .int y9, pv_U] [.int v28] _
          refine pv_bipush (M := mX7_readSum) (v := 43) dX7_readSum_23 25 rfl (by decide) ?_
          refine pv_icmp_eq (M := mX7_readSum) (tgt := 37) dX7_readSum_25 28 rfl (by decide) (fun c29 => ?_) (fun c29 => ?_)
          · have c29 := iv_eq (X := v28.toInt) (Y := 43) c29 rfl (by decide)
            refine pv_aload_n (M := mX7_readSum) 0 dX7_readSum_37 38 rfl rfl rfl ?_
            refine pv_callv (M := mX7_readSum) (as := []) (st := []) (kc2 := 0) (ks2 := 0) dX7_readSum_38 wd527 YX7_peek ⟨wd529, wd2⟩ (mk_get (tl86 hT)) rfl rfl (s_X7_peek g hT I12 R) rfl rfl (Nat.le_of_ble_eq_true rfl) (by decide) rfl rfl 41 rfl (fun rv h1 q30 => ?_)
            obtain ⟨v31, rfl, rfl, pv31, qv31, rv31⟩ := q30
            replace rv31 : v31.toInt = -1 ∨ (m10 86 3).toInt < (m10 86 2).toInt := rv31
            show PV _ _ _ _ _ _ _ 41 [.ref 86, .int 6, .int y9, pv_U] [.int v31] _
            refine pv_istore_n (M := mX7_readSum) 3 (lo2 := [.ref 86, .int 6, .int y9, .int v31]) dX7_readSum_41 42 rfl rfl (by decide) rfl rfl ?_
            refine pv_aload_n (M := mX7_readSum) 0 dX7_readSum_42 43 rfl rfl rfl ?_
            refine pv_dup (M := mX7_readSum) dX7_readSum_43 44 rfl rfl ?_
            refine iv_get (M := mX7_readSum) (l1 := 0) (l2 := 160) dX7_readSum_44 FX7 3 wd283 (by decide) (tl86 hT) rfl I12 rfl 47 rfl (fun v32 ev32 pv32 qv32 => ?_)
            have wv32 : v32.toInt = (m10 86 3).toInt := congrArg Int32.toInt ev32
            refine pv_iconst (M := mX7_readSum) (v := 1) dX7_readSum_47 48 rfl (by decide) ?_
            refine iv_iadd (M := mX7_readSum) (X := v32.toInt) (Y := 1) dX7_readSum_48 49 rfl rfl (by decide) (by omega) (by omega) (fun v33 ev33 => ?_)
            refine iv_put (M := mX7_readSum) (l1 := 0) (l2 := 160) dX7_readSum_49 FX7 3 wd283 (by decide) rfl (tl86 hT) rfl rfl rfl I12 rfl (by omega) (by omega) 52 rfl (fun m34 e37 I35 => ?_)
            have K36 := K13.set e37 (wl_r (by omega) (by omega))
            have w38 : (m34 86 3).toInt = v33.toInt := by rw [e37, up2_eq]
            have w39 : (m34 86 2).toInt = (m10 86 2).toInt := by rw [e37, up2_ne (by omega)]
            refine pv_aload_n (M := mX7_readSum) 0 dX7_readSum_52 53 rfl rfl rfl ?_
            refine pv_iload_n (M := mX7_readSum) 1 dX7_readSum_53 54 rfl rfl rfl ?_
            have z40 : (6 : Int32).toInt = 6 := by decide
            refine pv_callv (M := mX7_readSum) (as := [.int 6]) (st := []) (kc2 := 0) (ks2 := 0) dX7_readSum_54 wd543 YX7_readTerm ⟨wd545, wd5⟩ (mk_get (tl86 hT)) rfl rfl (s_X7_readTerm_v6 g hT I35 R (by first | omega | assumption | exact (iv_rng _).2 | exact (iv_rng _).1 | decide)) rfl rfl (Nat.le_of_ble_eq_true rfl) (by decide) rfl rfl 57 rfl (fun rv h1 q41 => ?_)
            obtain ⟨m42, n43, v46, rfl, rfl, I44, K45, pv46, qv46, rv46⟩ := q41
            replace rv46 : (m34 86 3).toInt ≤ (m42 86 3).toInt ∧ (m42 86 3).toInt ≤ (m42 86 2).toInt ∧ (m42 86 2).toInt = (m34 86 2).toInt := rv46
            have K45c := K45
            have K45 := K36.trans (K45.sub (fun _ _ q => q))
            show PV _ _ _ _ _ _ _ 57 [.ref 86, .int 6, .int y9, .int v31] [.int v46] _
            refine pv_if_ne (M := mX7_readSum) (tgt := 62) dX7_readSum_57 60 rfl (by decide) (fun c47 => ?_) (fun c47 => ?_)
            · have c47 := iv_ne (X := v46.toInt) (Y := 0) c47 rfl (by decide)
              refine pv_aload_n (M := mX7_readSum) 0 dX7_readSum_62 63 rfl rfl rfl ?_
              refine mv_get (M := mX7_readSum) (v := .ref lb) dX7_readSum_63 FX7 1 wd281 (by decide) (tl86 hT) rfl R.2.2.2.1 66 rfl ?_
              refine pv_iload_n (M := mX7_readSum) 3 dX7_readSum_66 67 rfl rfl rfl ?_
              refine pv_iconst (M := mX7_readSum) (v := 0) dX7_readSum_67 68 rfl (by decide) ?_
              refine pv_callv (M := mX7_readSum) (as := [.int v31, .int 0]) (st := []) (kc2 := 0) (ks2 := 0) dX7_readSum_68 wd567 YX6_emit ⟨wd568, wd569⟩ (mk_get R.2.2.2.2.2.2.1) rfl rfl (s_X6_emit g hT I44 lb R.2.2.2.2.2 v31 0 (by decide) (by decide)) rfl rfl (Nat.le_of_ble_eq_true rfl) (by decide) rfl rfl 71 rfl (fun rv h1 q48 => ?_)
              obtain ⟨m49, n50, rfl, rfl, I51, K52, rm49⟩ := q48
              have K52c := K52
              have w53 : (m49 86 3).toInt = (m42 86 3).toInt := congrArg Int32.toInt (K52 86 3 (wr_out (by omega)))
              have w54 : (m49 86 2).toInt = (m42 86 2).toInt := congrArg Int32.toInt (K52 86 2 (wr_out (by omega)))
              have K52 := K45.trans (K52.sub (wr_wr (by omega) (by omega)))
              show PV _ _ _ _ _ _ _ 71 [.ref 86, .int 6, .int y9, .int v31] [] _
              refine iv_inc (M := mX7_readSum) (C := 1) dX7_readSum_71 74 rfl rfl (by decide) rfl rfl (by decide) (by omega) (by omega) (fun v55 ev55 => ?_)
              show PV _ _ _ _ _ _ _ 74 [.ref 86, .int 6, .int v55, .int v31] [] _
              refine pv_goto (M := mX7_readSum) (tgt := 12) dX7_readSum_74 (by decide) ?_
              refine pv_fg (lo2 := [.ref 86, .int 6, .int v55, pv_U]) ⟨Or.inr rfl, ⟨Or.inr rfl, ⟨Or.inr rfl, ⟨Or.inl rfl, trivial⟩⟩⟩⟩ ?_
              exact ih16 v55 m49 n50 (by first | omega | assumption | exact (iv_rng _).2 | exact (iv_rng _).1 | decide) (by first | omega | assumption | exact (iv_rng _).2 | exact (iv_rng _).1 | decide) (by first | omega | assumption | (show (m 86 3).toInt ≤ (m49 86 3).toInt; omega) | decide) (by first | omega | assumption | (show (m49 86 3).toInt ≤ (m49 86 2).toInt; omega) | decide) (by first | omega | assumption | (show (m49 86 2).toInt = (m 86 2).toInt; omega) | decide) I51 K52 (by omega)
            · have c47 := iv_eq (X := v46.toInt) (Y := 0) c47 rfl (by decide)
              refine pv_iconst (M := mX7_readSum) (v := 0) dX7_readSum_60 61 rfl (by decide) ?_
              have z56 : (0 : Int32).toInt = 0 := by decide
              exact pv_iret (M := mX7_readSum) dX7_readSum_61 rfl rfl ⟨_, _, _, rfl, rfl, I44, K45, by decide, by decide, (by refine ⟨?_, ?_, ?_⟩ <;> omega)⟩
          · have c29 := iv_ne (X := v28.toInt) (Y := 43) c29 rfl (by decide)
            refine pv_aload_n (M := mX7_readSum) 0 dX7_readSum_28 29 rfl rfl rfl ?_
            refine pv_callv (M := mX7_readSum) (as := []) (st := []) (kc2 := 0) (ks2 := 0) dX7_readSum_29 wd527 YX7_peek ⟨wd529, wd2⟩ (mk_get (tl86 hT)) rfl rfl (s_X7_peek g hT I12 R) rfl rfl (Nat.le_of_ble_eq_true rfl) (by decide) rfl rfl 32 rfl (fun rv h1 q57 => ?_)
            obtain ⟨v58, rfl, rfl, pv58, qv58, rv58⟩ := q57
            replace rv58 : v58.toInt = -1 ∨ (m10 86 3).toInt < (m10 86 2).toInt := rv58
            show PV _ _ _ _ _ _ _ 32 [.ref 86, .int 6, .int y9, pv_U] [.int v58] _
            refine pv_bipush (M := mX7_readSum) (v := 45) dX7_readSum_32 34 rfl (by decide) ?_
            refine pv_icmp_ne (M := mX7_readSum) (tgt := 77) dX7_readSum_34 37 rfl (by decide) (fun c59 => ?_) (fun c59 => ?_)
            · have c59 := iv_ne (X := v58.toInt) (Y := 45) c59 rfl (by decide)
              refine pv_iconst (M := mX7_readSum) (v := 1) dX7_readSum_77 78 rfl (by decide) ?_
              have z60 : (1 : Int32).toInt = 1 := by decide
              exact pv_iret (M := mX7_readSum) dX7_readSum_78 rfl rfl ⟨_, _, _, rfl, rfl, I12, K13, by decide, by decide, (by refine ⟨?_, ?_, ?_⟩ <;> omega)⟩
            · have c59 := iv_eq (X := v58.toInt) (Y := 45) c59 rfl (by decide)
              refine pv_aload_n (M := mX7_readSum) 0 dX7_readSum_37 38 rfl rfl rfl ?_
              refine pv_callv (M := mX7_readSum) (as := []) (st := []) (kc2 := 0) (ks2 := 0) dX7_readSum_38 wd527 YX7_peek ⟨wd529, wd2⟩ (mk_get (tl86 hT)) rfl rfl (s_X7_peek g hT I12 R) rfl rfl (Nat.le_of_ble_eq_true rfl) (by decide) rfl rfl 41 rfl (fun rv h1 q61 => ?_)
              obtain ⟨v62, rfl, rfl, pv62, qv62, rv62⟩ := q61
              replace rv62 : v62.toInt = -1 ∨ (m10 86 3).toInt < (m10 86 2).toInt := rv62
              show PV _ _ _ _ _ _ _ 41 [.ref 86, .int 6, .int y9, pv_U] [.int v62] _
              refine pv_istore_n (M := mX7_readSum) 3 (lo2 := [.ref 86, .int 6, .int y9, .int v62]) dX7_readSum_41 42 rfl rfl (by decide) rfl rfl ?_
              refine pv_aload_n (M := mX7_readSum) 0 dX7_readSum_42 43 rfl rfl rfl ?_
              refine pv_dup (M := mX7_readSum) dX7_readSum_43 44 rfl rfl ?_
              refine iv_get (M := mX7_readSum) (l1 := 0) (l2 := 160) dX7_readSum_44 FX7 3 wd283 (by decide) (tl86 hT) rfl I12 rfl 47 rfl (fun v63 ev63 pv63 qv63 => ?_)
              have wv63 : v63.toInt = (m10 86 3).toInt := congrArg Int32.toInt ev63
              refine pv_iconst (M := mX7_readSum) (v := 1) dX7_readSum_47 48 rfl (by decide) ?_
              refine iv_iadd (M := mX7_readSum) (X := v63.toInt) (Y := 1) dX7_readSum_48 49 rfl rfl (by decide) (by omega) (by omega) (fun v64 ev64 => ?_)
              refine iv_put (M := mX7_readSum) (l1 := 0) (l2 := 160) dX7_readSum_49 FX7 3 wd283 (by decide) rfl (tl86 hT) rfl rfl rfl I12 rfl (by omega) (by omega) 52 rfl (fun m65 e68 I66 => ?_)
              have K67 := K13.set e68 (wl_r (by omega) (by omega))
              have w69 : (m65 86 3).toInt = v64.toInt := by rw [e68, up2_eq]
              have w70 : (m65 86 2).toInt = (m10 86 2).toInt := by rw [e68, up2_ne (by omega)]
              refine pv_aload_n (M := mX7_readSum) 0 dX7_readSum_52 53 rfl rfl rfl ?_
              refine pv_iload_n (M := mX7_readSum) 1 dX7_readSum_53 54 rfl rfl rfl ?_
              have z71 : (6 : Int32).toInt = 6 := by decide
              refine pv_callv (M := mX7_readSum) (as := [.int 6]) (st := []) (kc2 := 0) (ks2 := 0) dX7_readSum_54 wd543 YX7_readTerm ⟨wd545, wd5⟩ (mk_get (tl86 hT)) rfl rfl (s_X7_readTerm_v6 g hT I66 R (by first | omega | assumption | exact (iv_rng _).2 | exact (iv_rng _).1 | decide)) rfl rfl (Nat.le_of_ble_eq_true rfl) (by decide) rfl rfl 57 rfl (fun rv h1 q72 => ?_)
              obtain ⟨m73, n74, v77, rfl, rfl, I75, K76, pv77, qv77, rv77⟩ := q72
              replace rv77 : (m65 86 3).toInt ≤ (m73 86 3).toInt ∧ (m73 86 3).toInt ≤ (m73 86 2).toInt ∧ (m73 86 2).toInt = (m65 86 2).toInt := rv77
              have K76c := K76
              have K76 := K67.trans (K76.sub (fun _ _ q => q))
              show PV _ _ _ _ _ _ _ 57 [.ref 86, .int 6, .int y9, .int v62] [.int v77] _
              refine pv_if_ne (M := mX7_readSum) (tgt := 62) dX7_readSum_57 60 rfl (by decide) (fun c78 => ?_) (fun c78 => ?_)
              · have c78 := iv_ne (X := v77.toInt) (Y := 0) c78 rfl (by decide)
                refine pv_aload_n (M := mX7_readSum) 0 dX7_readSum_62 63 rfl rfl rfl ?_
                refine mv_get (M := mX7_readSum) (v := .ref lb) dX7_readSum_63 FX7 1 wd281 (by decide) (tl86 hT) rfl R.2.2.2.1 66 rfl ?_
                refine pv_iload_n (M := mX7_readSum) 3 dX7_readSum_66 67 rfl rfl rfl ?_
                refine pv_iconst (M := mX7_readSum) (v := 0) dX7_readSum_67 68 rfl (by decide) ?_
                refine pv_callv (M := mX7_readSum) (as := [.int v62, .int 0]) (st := []) (kc2 := 0) (ks2 := 0) dX7_readSum_68 wd567 YX6_emit ⟨wd568, wd569⟩ (mk_get R.2.2.2.2.2.2.1) rfl rfl (s_X6_emit g hT I75 lb R.2.2.2.2.2 v62 0 (by decide) (by decide)) rfl rfl (Nat.le_of_ble_eq_true rfl) (by decide) rfl rfl 71 rfl (fun rv h1 q79 => ?_)
                obtain ⟨m80, n81, rfl, rfl, I82, K83, rm80⟩ := q79
                have K83c := K83
                have w84 : (m80 86 3).toInt = (m73 86 3).toInt := congrArg Int32.toInt (K83 86 3 (wr_out (by omega)))
                have w85 : (m80 86 2).toInt = (m73 86 2).toInt := congrArg Int32.toInt (K83 86 2 (wr_out (by omega)))
                have K83 := K76.trans (K83.sub (wr_wr (by omega) (by omega)))
                show PV _ _ _ _ _ _ _ 71 [.ref 86, .int 6, .int y9, .int v62] [] _
                refine iv_inc (M := mX7_readSum) (C := 1) dX7_readSum_71 74 rfl rfl (by decide) rfl rfl (by decide) (by omega) (by omega) (fun v86 ev86 => ?_)
                show PV _ _ _ _ _ _ _ 74 [.ref 86, .int 6, .int v86, .int v62] [] _
                refine pv_goto (M := mX7_readSum) (tgt := 12) dX7_readSum_74 (by decide) ?_
                refine pv_fg (lo2 := [.ref 86, .int 6, .int v86, pv_U]) ⟨Or.inr rfl, ⟨Or.inr rfl, ⟨Or.inr rfl, ⟨Or.inl rfl, trivial⟩⟩⟩⟩ ?_
                exact ih16 v86 m80 n81 (by first | omega | assumption | exact (iv_rng _).2 | exact (iv_rng _).1 | decide) (by first | omega | assumption | exact (iv_rng _).2 | exact (iv_rng _).1 | decide) (by first | omega | assumption | (show (m 86 3).toInt ≤ (m80 86 3).toInt; omega) | decide) (by first | omega | assumption | (show (m80 86 3).toInt ≤ (m80 86 2).toInt; omega) | decide) (by first | omega | assumption | (show (m80 86 2).toInt = (m 86 2).toInt; omega) | decide) I82 K83 (by omega)
              · have c78 := iv_eq (X := v77.toInt) (Y := 0) c78 rfl (by decide)
                refine pv_iconst (M := mX7_readSum) (v := 0) dX7_readSum_60 61 rfl (by decide) ?_
                have z87 : (0 : Int32).toInt = 0 := by decide
                exact pv_iret (M := mX7_readSum) dX7_readSum_61 rfl rfl ⟨_, _, _, rfl, rfl, I75, K76, by decide, by decide, (by refine ⟨?_, ?_, ?_⟩ <;> omega)⟩
    have z88 : (0 : Int32).toInt = 0 := by decide
    exact lp15 (((160 - 0) : Int).toNat + 1) 0 m3 n4 (by first | omega | assumption | exact (iv_rng _).2 | exact (iv_rng _).1 | decide) (by first | omega | assumption | exact (iv_rng _).2 | exact (iv_rng _).1 | decide) (by first | omega | assumption | (show (m 86 3).toInt ≤ (m3 86 3).toInt; omega) | decide) (by first | omega | assumption | (show (m3 86 3).toInt ≤ (m3 86 2).toInt; omega) | decide) (by first | omega | assumption | (show (m3 86 2).toInt = (m 86 2).toInt; omega) | decide) I5 K6 (by omega)
  · have c8 := iv_eq (X := v7.toInt) (Y := 0) c8 rfl (by decide)
    refine pv_iconst (M := mX7_readSum) (v := 0) dX7_readSum_8 9 rfl (by decide) ?_
    have z89 : (0 : Int32).toInt = 0 := by decide
    exact pv_iret (M := mX7_readSum) dX7_readSum_9 rfl rfl ⟨_, _, _, rfl, rfl, I5, K6, by decide, by decide, (by refine ⟨?_, ?_, ?_⟩ <;> omega)⟩

set_option maxHeartbeats 2000000 in
set_option maxRecDepth 20000 in
theorem s_X7_readPiece_v6 (g : pv_G) {T : List mv_T} {m : Nat → Nat → Int32} {n : Nat → Nat → Int64} {r : Nat → Value} {la lb : Nat} (hT : TX T) (I : IV BB m) (R : RX T r la lb) (hp0 : (m 86 3).toInt ≤ (m 86 2).toInt) : PM g mX7_readPiece yX7_readPiece (sqI T BB (wl [(77, 96, none)]) r m 0 1 (fun m' v => (m 86 3).toInt ≤ (m' 86 3).toInt ∧ (m' 86 3).toInt ≤ (m' 86 2).toInt ∧ (m' 86 2).toInt = (m 86 2).toInt)) 8 0 0 [.ref 86, .int 6] (mk T m n r) := by
  have Kp : fr (wl [(77, 96, none)]) m m := fr.rf
  have R0 := R
  have zR := R.2.2.2.2.1.1
  have zR2 := R.2.2.2.2.2.1
  have z121 : 0 ≤ (m 86 3).toInt ∧ (m 86 3).toInt ≤ 160 := I 86 3
  have z122 : 0 ≤ (m 86 2).toInt ∧ (m 86 2).toInt ≤ 160 := I 86 2
  refine PM.of 1 (lo := [.ref 86, .int 6, pv_U]) rfl (by decide) rfl rfl (Nat.le_of_ble_eq_true rfl) ?_
  refine pv_aload_n (M := mX7_readPiece) 0 dX7_readPiece_0 1 rfl rfl rfl ?_
  refine pv_callv (M := mX7_readPiece) (as := []) (st := []) (kc2 := 0) (ks2 := 0) dX7_readPiece_1 wd527 YX7_peek ⟨wd529, wd2⟩ (mk_get (tl86 hT)) rfl rfl (s_X7_peek g hT I R) rfl rfl (Nat.le_of_ble_eq_true rfl) (by decide) rfl rfl 4 rfl (fun rv h1 q1 => ?_)
  obtain ⟨v2, rfl, rfl, pv2, qv2, rv2⟩ := q1
  replace rv2 : v2.toInt = -1 ∨ (m 86 3).toInt < (m 86 2).toInt := rv2
  show PV _ _ _ _ _ _ _ 4 [.ref 86, .int 6, pv_U] [.int v2] _
  refine pv_bipush (M := mX7_readPiece) (v := 33) dX7_readPiece_4 6 rfl (by decide) ?_
  refine pv_icmp_ne (M := mX7_readPiece) (tgt := 41) dX7_readPiece_6 9 rfl (by decide) (fun c3 => ?_) (fun c3 => ?_)
  · have c3 := iv_ne (X := v2.toInt) (Y := 33) c3 rfl (by decide)
    refine pv_aload_n (M := mX7_readPiece) 0 dX7_readPiece_41 42 rfl rfl rfl ?_
    refine pv_callv (M := mX7_readPiece) (as := []) (st := []) (kc2 := 0) (ks2 := 0) dX7_readPiece_42 wd527 YX7_peek ⟨wd529, wd2⟩ (mk_get (tl86 hT)) rfl rfl (s_X7_peek g hT I R) rfl rfl (Nat.le_of_ble_eq_true rfl) (by decide) rfl rfl 45 rfl (fun rv h1 q4 => ?_)
    obtain ⟨v5, rfl, rfl, pv5, qv5, rv5⟩ := q4
    replace rv5 : v5.toInt = -1 ∨ (m 86 3).toInt < (m 86 2).toInt := rv5
    show PV _ _ _ _ _ _ _ 45 [.ref 86, .int 6, pv_U] [.int v5] _
    refine pv_bipush (M := mX7_readPiece) (v := 40) dX7_readPiece_45 47 rfl (by decide) ?_
    refine pv_icmp_ne (M := mX7_readPiece) (tgt := 83) dX7_readPiece_47 50 rfl (by decide) (fun c6 => ?_) (fun c6 => ?_)
    · have c6 := iv_ne (X := v5.toInt) (Y := 40) c6 rfl (by decide)
      refine pv_aload_n (M := mX7_readPiece) 0 dX7_readPiece_83 84 rfl rfl rfl ?_
      refine pv_iload_n (M := mX7_readPiece) 1 dX7_readPiece_84 85 rfl rfl rfl ?_
      have z7 : (6 : Int32).toInt = 6 := by decide
      refine pv_callv (M := mX7_readPiece) (as := [.int 6]) (st := []) (kc2 := 0) (ks2 := 0) dX7_readPiece_85 wd539 YX7_readSum ⟨wd541, wd4⟩ (mk_get (tl86 hT)) rfl rfl (s_X7_readSum_v6 g hT I R (by first | omega | assumption | exact (iv_rng _).2 | exact (iv_rng _).1 | decide)) rfl rfl (Nat.le_of_ble_eq_true rfl) (by decide) rfl rfl 88 rfl (fun rv h1 q8 => ?_)
      obtain ⟨m9, n10, v13, rfl, rfl, I11, K12, pv13, qv13, rv13⟩ := q8
      replace rv13 : (m 86 3).toInt ≤ (m9 86 3).toInt ∧ (m9 86 3).toInt ≤ (m9 86 2).toInt ∧ (m9 86 2).toInt = (m 86 2).toInt := rv13
      have K12c := K12
      have K12 := Kp.trans (K12.sub (fun _ _ q => q))
      show PV _ _ _ _ _ _ _ 88 [.ref 86, .int 6, pv_U] [.int v13] _
      refine pv_if_ne (M := mX7_readPiece) (tgt := 93) dX7_readPiece_88 91 rfl (by decide) (fun c14 => ?_) (fun c14 => ?_)
      · have c14 := iv_ne (X := v13.toInt) (Y := 0) c14 rfl (by decide)
        refine pv_aload_n (M := mX7_readPiece) 0 dX7_readPiece_93 94 rfl rfl rfl ?_
        refine pv_callv (M := mX7_readPiece) (as := []) (st := []) (kc2 := 0) (ks2 := 0) dX7_readPiece_94 wd527 YX7_peek ⟨wd529, wd2⟩ (mk_get (tl86 hT)) rfl rfl (s_X7_peek g hT I11 R) rfl rfl (Nat.le_of_ble_eq_true rfl) (by decide) rfl rfl 97 rfl (fun rv h1 q15 => ?_)
        obtain ⟨v16, rfl, rfl, pv16, qv16, rv16⟩ := q15
        replace rv16 : v16.toInt = -1 ∨ (m9 86 3).toInt < (m9 86 2).toInt := rv16
        show PV _ _ _ _ _ _ _ 97 [.ref 86, .int 6, pv_U] [.int v16] _
        refine pv_istore_n (M := mX7_readPiece) 2 (lo2 := [.ref 86, .int 6, .int v16]) dX7_readPiece_97 98 rfl rfl (by decide) rfl rfl ?_
        refine pv_iload_n (M := mX7_readPiece) 2 dX7_readPiece_98 99 rfl rfl rfl ?_
        refine pv_bipush (M := mX7_readPiece) (v := 60) dX7_readPiece_99 101 rfl (by decide) ?_
        refine pv_icmp_eq (M := mX7_readPiece) (tgt := 122) dX7_readPiece_101 104 rfl (by decide) (fun c17 => ?_) (fun c17 => ?_)
        · have c17 := iv_eq (X := v16.toInt) (Y := 60) c17 rfl (by decide)
          refine pv_aload_n (M := mX7_readPiece) 0 dX7_readPiece_122 123 rfl rfl rfl ?_
          refine pv_dup (M := mX7_readPiece) dX7_readPiece_123 124 rfl rfl ?_
          refine iv_get (M := mX7_readPiece) (l1 := 0) (l2 := 160) dX7_readPiece_124 FX7 3 wd283 (by decide) (tl86 hT) rfl I11 rfl 127 rfl (fun v18 ev18 pv18 qv18 => ?_)
          have wv18 : v18.toInt = (m9 86 3).toInt := congrArg Int32.toInt ev18
          refine pv_iconst (M := mX7_readPiece) (v := 1) dX7_readPiece_127 128 rfl (by decide) ?_
          refine iv_iadd (M := mX7_readPiece) (X := v18.toInt) (Y := 1) dX7_readPiece_128 129 rfl rfl (by decide) (by omega) (by omega) (fun v19 ev19 => ?_)
          refine iv_put (M := mX7_readPiece) (l1 := 0) (l2 := 160) dX7_readPiece_129 FX7 3 wd283 (by decide) rfl (tl86 hT) rfl rfl rfl I11 rfl (by omega) (by omega) 132 rfl (fun m20 e23 I21 => ?_)
          have K22 := K12.set e23 (wl_r (by omega) (by omega))
          have w24 : (m20 86 3).toInt = v19.toInt := by rw [e23, up2_eq]
          have w25 : (m20 86 2).toInt = (m9 86 2).toInt := by rw [e23, up2_ne (by omega)]
          refine pv_aload_n (M := mX7_readPiece) 0 dX7_readPiece_132 133 rfl rfl rfl ?_
          refine pv_iload_n (M := mX7_readPiece) 1 dX7_readPiece_133 134 rfl rfl rfl ?_
          have z26 : (6 : Int32).toInt = 6 := by decide
          refine pv_callv (M := mX7_readPiece) (as := [.int 6]) (st := []) (kc2 := 0) (ks2 := 0) dX7_readPiece_134 wd539 YX7_readSum ⟨wd541, wd4⟩ (mk_get (tl86 hT)) rfl rfl (s_X7_readSum_v6 g hT I21 R (by first | omega | assumption | exact (iv_rng _).2 | exact (iv_rng _).1 | decide)) rfl rfl (Nat.le_of_ble_eq_true rfl) (by decide) rfl rfl 137 rfl (fun rv h1 q27 => ?_)
          obtain ⟨m28, n29, v32, rfl, rfl, I30, K31, pv32, qv32, rv32⟩ := q27
          replace rv32 : (m20 86 3).toInt ≤ (m28 86 3).toInt ∧ (m28 86 3).toInt ≤ (m28 86 2).toInt ∧ (m28 86 2).toInt = (m20 86 2).toInt := rv32
          have K31c := K31
          have K31 := K22.trans (K31.sub (fun _ _ q => q))
          show PV _ _ _ _ _ _ _ 137 [.ref 86, .int 6, .int v16] [.int v32] _
          refine pv_if_ne (M := mX7_readPiece) (tgt := 142) dX7_readPiece_137 140 rfl (by decide) (fun c33 => ?_) (fun c33 => ?_)
          · have c33 := iv_ne (X := v32.toInt) (Y := 0) c33 rfl (by decide)
            refine pv_aload_n (M := mX7_readPiece) 0 dX7_readPiece_142 143 rfl rfl rfl ?_
            refine mv_get (M := mX7_readPiece) (v := .ref lb) dX7_readPiece_143 FX7 1 wd281 (by decide) (tl86 hT) rfl R.2.2.2.1 146 rfl ?_
            refine pv_iload_n (M := mX7_readPiece) 2 dX7_readPiece_146 147 rfl rfl rfl ?_
            refine pv_iconst (M := mX7_readPiece) (v := 0) dX7_readPiece_147 148 rfl (by decide) ?_
            refine pv_callv (M := mX7_readPiece) (as := [.int v16, .int 0]) (st := []) (kc2 := 0) (ks2 := 0) dX7_readPiece_148 wd567 YX6_emit ⟨wd568, wd569⟩ (mk_get R.2.2.2.2.2.2.1) rfl rfl (s_X6_emit g hT I30 lb R.2.2.2.2.2 v16 0 (by decide) (by decide)) rfl rfl (Nat.le_of_ble_eq_true rfl) (by decide) rfl rfl 151 rfl (fun rv h1 q34 => ?_)
            obtain ⟨m35, n36, rfl, rfl, I37, K38, rm35⟩ := q34
            have K38c := K38
            have w39 : (m35 86 3).toInt = (m28 86 3).toInt := congrArg Int32.toInt (K38 86 3 (wr_out (by omega)))
            have w40 : (m35 86 2).toInt = (m28 86 2).toInt := congrArg Int32.toInt (K38 86 2 (wr_out (by omega)))
            have K38 := K31.trans (K38.sub (wr_wr (by omega) (by omega)))
            show PV _ _ _ _ _ _ _ 151 [.ref 86, .int 6, .int v16] [] _
            refine pv_iconst (M := mX7_readPiece) (v := 1) dX7_readPiece_151 152 rfl (by decide) ?_
            have z41 : (1 : Int32).toInt = 1 := by decide
            exact pv_iret (M := mX7_readPiece) dX7_readPiece_152 rfl rfl ⟨_, _, _, rfl, rfl, I37, K38, by decide, by decide, (by refine ⟨?_, ?_, ?_⟩ <;> omega)⟩
          · have c33 := iv_eq (X := v32.toInt) (Y := 0) c33 rfl (by decide)
            refine pv_iconst (M := mX7_readPiece) (v := 0) dX7_readPiece_140 141 rfl (by decide) ?_
            have z42 : (0 : Int32).toInt = 0 := by decide
            exact pv_iret (M := mX7_readPiece) dX7_readPiece_141 rfl rfl ⟨_, _, _, rfl, rfl, I30, K31, by decide, by decide, (by refine ⟨?_, ?_, ?_⟩ <;> omega)⟩
        · have c17 := iv_ne (X := v16.toInt) (Y := 60) c17 rfl (by decide)
          refine pv_iload_n (M := mX7_readPiece) 2 dX7_readPiece_104 105 rfl rfl rfl ?_
          refine pv_bipush (M := mX7_readPiece) (v := 62) dX7_readPiece_105 107 rfl (by decide) ?_
          refine pv_icmp_eq (M := mX7_readPiece) (tgt := 122) dX7_readPiece_107 110 rfl (by decide) (fun c43 => ?_) (fun c43 => ?_)
          · have c43 := iv_eq (X := v16.toInt) (Y := 62) c43 rfl (by decide)
            refine pv_aload_n (M := mX7_readPiece) 0 dX7_readPiece_122 123 rfl rfl rfl ?_
            refine pv_dup (M := mX7_readPiece) dX7_readPiece_123 124 rfl rfl ?_
            refine iv_get (M := mX7_readPiece) (l1 := 0) (l2 := 160) dX7_readPiece_124 FX7 3 wd283 (by decide) (tl86 hT) rfl I11 rfl 127 rfl (fun v44 ev44 pv44 qv44 => ?_)
            have wv44 : v44.toInt = (m9 86 3).toInt := congrArg Int32.toInt ev44
            refine pv_iconst (M := mX7_readPiece) (v := 1) dX7_readPiece_127 128 rfl (by decide) ?_
            refine iv_iadd (M := mX7_readPiece) (X := v44.toInt) (Y := 1) dX7_readPiece_128 129 rfl rfl (by decide) (by omega) (by omega) (fun v45 ev45 => ?_)
            refine iv_put (M := mX7_readPiece) (l1 := 0) (l2 := 160) dX7_readPiece_129 FX7 3 wd283 (by decide) rfl (tl86 hT) rfl rfl rfl I11 rfl (by omega) (by omega) 132 rfl (fun m46 e49 I47 => ?_)
            have K48 := K12.set e49 (wl_r (by omega) (by omega))
            have w50 : (m46 86 3).toInt = v45.toInt := by rw [e49, up2_eq]
            have w51 : (m46 86 2).toInt = (m9 86 2).toInt := by rw [e49, up2_ne (by omega)]
            refine pv_aload_n (M := mX7_readPiece) 0 dX7_readPiece_132 133 rfl rfl rfl ?_
            refine pv_iload_n (M := mX7_readPiece) 1 dX7_readPiece_133 134 rfl rfl rfl ?_
            have z52 : (6 : Int32).toInt = 6 := by decide
            refine pv_callv (M := mX7_readPiece) (as := [.int 6]) (st := []) (kc2 := 0) (ks2 := 0) dX7_readPiece_134 wd539 YX7_readSum ⟨wd541, wd4⟩ (mk_get (tl86 hT)) rfl rfl (s_X7_readSum_v6 g hT I47 R (by first | omega | assumption | exact (iv_rng _).2 | exact (iv_rng _).1 | decide)) rfl rfl (Nat.le_of_ble_eq_true rfl) (by decide) rfl rfl 137 rfl (fun rv h1 q53 => ?_)
            obtain ⟨m54, n55, v58, rfl, rfl, I56, K57, pv58, qv58, rv58⟩ := q53
            replace rv58 : (m46 86 3).toInt ≤ (m54 86 3).toInt ∧ (m54 86 3).toInt ≤ (m54 86 2).toInt ∧ (m54 86 2).toInt = (m46 86 2).toInt := rv58
            have K57c := K57
            have K57 := K48.trans (K57.sub (fun _ _ q => q))
            show PV _ _ _ _ _ _ _ 137 [.ref 86, .int 6, .int v16] [.int v58] _
            refine pv_if_ne (M := mX7_readPiece) (tgt := 142) dX7_readPiece_137 140 rfl (by decide) (fun c59 => ?_) (fun c59 => ?_)
            · have c59 := iv_ne (X := v58.toInt) (Y := 0) c59 rfl (by decide)
              refine pv_aload_n (M := mX7_readPiece) 0 dX7_readPiece_142 143 rfl rfl rfl ?_
              refine mv_get (M := mX7_readPiece) (v := .ref lb) dX7_readPiece_143 FX7 1 wd281 (by decide) (tl86 hT) rfl R.2.2.2.1 146 rfl ?_
              refine pv_iload_n (M := mX7_readPiece) 2 dX7_readPiece_146 147 rfl rfl rfl ?_
              refine pv_iconst (M := mX7_readPiece) (v := 0) dX7_readPiece_147 148 rfl (by decide) ?_
              refine pv_callv (M := mX7_readPiece) (as := [.int v16, .int 0]) (st := []) (kc2 := 0) (ks2 := 0) dX7_readPiece_148 wd567 YX6_emit ⟨wd568, wd569⟩ (mk_get R.2.2.2.2.2.2.1) rfl rfl (s_X6_emit g hT I56 lb R.2.2.2.2.2 v16 0 (by decide) (by decide)) rfl rfl (Nat.le_of_ble_eq_true rfl) (by decide) rfl rfl 151 rfl (fun rv h1 q60 => ?_)
              obtain ⟨m61, n62, rfl, rfl, I63, K64, rm61⟩ := q60
              have K64c := K64
              have w65 : (m61 86 3).toInt = (m54 86 3).toInt := congrArg Int32.toInt (K64 86 3 (wr_out (by omega)))
              have w66 : (m61 86 2).toInt = (m54 86 2).toInt := congrArg Int32.toInt (K64 86 2 (wr_out (by omega)))
              have K64 := K57.trans (K64.sub (wr_wr (by omega) (by omega)))
              show PV _ _ _ _ _ _ _ 151 [.ref 86, .int 6, .int v16] [] _
              refine pv_iconst (M := mX7_readPiece) (v := 1) dX7_readPiece_151 152 rfl (by decide) ?_
              have z67 : (1 : Int32).toInt = 1 := by decide
              exact pv_iret (M := mX7_readPiece) dX7_readPiece_152 rfl rfl ⟨_, _, _, rfl, rfl, I63, K64, by decide, by decide, (by refine ⟨?_, ?_, ?_⟩ <;> omega)⟩
            · have c59 := iv_eq (X := v58.toInt) (Y := 0) c59 rfl (by decide)
              refine pv_iconst (M := mX7_readPiece) (v := 0) dX7_readPiece_140 141 rfl (by decide) ?_
              have z68 : (0 : Int32).toInt = 0 := by decide
              exact pv_iret (M := mX7_readPiece) dX7_readPiece_141 rfl rfl ⟨_, _, _, rfl, rfl, I56, K57, by decide, by decide, (by refine ⟨?_, ?_, ?_⟩ <;> omega)⟩
          · have c43 := iv_ne (X := v16.toInt) (Y := 62) c43 rfl (by decide)
            refine pv_iload_n (M := mX7_readPiece) 2 dX7_readPiece_110 111 rfl rfl rfl ?_
            refine pv_bipush (M := mX7_readPiece) (v := 61) dX7_readPiece_111 113 rfl (by decide) ?_
            refine pv_icmp_eq (M := mX7_readPiece) (tgt := 122) dX7_readPiece_113 116 rfl (by decide) (fun c69 => ?_) (fun c69 => ?_)
            · have c69 := iv_eq (X := v16.toInt) (Y := 61) c69 rfl (by decide)
              refine pv_aload_n (M := mX7_readPiece) 0 dX7_readPiece_122 123 rfl rfl rfl ?_
              refine pv_dup (M := mX7_readPiece) dX7_readPiece_123 124 rfl rfl ?_
              refine iv_get (M := mX7_readPiece) (l1 := 0) (l2 := 160) dX7_readPiece_124 FX7 3 wd283 (by decide) (tl86 hT) rfl I11 rfl 127 rfl (fun v70 ev70 pv70 qv70 => ?_)
              have wv70 : v70.toInt = (m9 86 3).toInt := congrArg Int32.toInt ev70
              refine pv_iconst (M := mX7_readPiece) (v := 1) dX7_readPiece_127 128 rfl (by decide) ?_
              refine iv_iadd (M := mX7_readPiece) (X := v70.toInt) (Y := 1) dX7_readPiece_128 129 rfl rfl (by decide) (by omega) (by omega) (fun v71 ev71 => ?_)
              refine iv_put (M := mX7_readPiece) (l1 := 0) (l2 := 160) dX7_readPiece_129 FX7 3 wd283 (by decide) rfl (tl86 hT) rfl rfl rfl I11 rfl (by omega) (by omega) 132 rfl (fun m72 e75 I73 => ?_)
              have K74 := K12.set e75 (wl_r (by omega) (by omega))
              have w76 : (m72 86 3).toInt = v71.toInt := by rw [e75, up2_eq]
              have w77 : (m72 86 2).toInt = (m9 86 2).toInt := by rw [e75, up2_ne (by omega)]
              refine pv_aload_n (M := mX7_readPiece) 0 dX7_readPiece_132 133 rfl rfl rfl ?_
              refine pv_iload_n (M := mX7_readPiece) 1 dX7_readPiece_133 134 rfl rfl rfl ?_
              have z78 : (6 : Int32).toInt = 6 := by decide
              refine pv_callv (M := mX7_readPiece) (as := [.int 6]) (st := []) (kc2 := 0) (ks2 := 0) dX7_readPiece_134 wd539 YX7_readSum ⟨wd541, wd4⟩ (mk_get (tl86 hT)) rfl rfl (s_X7_readSum_v6 g hT I73 R (by first | omega | assumption | exact (iv_rng _).2 | exact (iv_rng _).1 | decide)) rfl rfl (Nat.le_of_ble_eq_true rfl) (by decide) rfl rfl 137 rfl (fun rv h1 q79 => ?_)
              obtain ⟨m80, n81, v84, rfl, rfl, I82, K83, pv84, qv84, rv84⟩ := q79
              replace rv84 : (m72 86 3).toInt ≤ (m80 86 3).toInt ∧ (m80 86 3).toInt ≤ (m80 86 2).toInt ∧ (m80 86 2).toInt = (m72 86 2).toInt := rv84
              have K83c := K83
              have K83 := K74.trans (K83.sub (fun _ _ q => q))
              show PV _ _ _ _ _ _ _ 137 [.ref 86, .int 6, .int v16] [.int v84] _
              refine pv_if_ne (M := mX7_readPiece) (tgt := 142) dX7_readPiece_137 140 rfl (by decide) (fun c85 => ?_) (fun c85 => ?_)
              · have c85 := iv_ne (X := v84.toInt) (Y := 0) c85 rfl (by decide)
                refine pv_aload_n (M := mX7_readPiece) 0 dX7_readPiece_142 143 rfl rfl rfl ?_
                refine mv_get (M := mX7_readPiece) (v := .ref lb) dX7_readPiece_143 FX7 1 wd281 (by decide) (tl86 hT) rfl R.2.2.2.1 146 rfl ?_
                refine pv_iload_n (M := mX7_readPiece) 2 dX7_readPiece_146 147 rfl rfl rfl ?_
                refine pv_iconst (M := mX7_readPiece) (v := 0) dX7_readPiece_147 148 rfl (by decide) ?_
                refine pv_callv (M := mX7_readPiece) (as := [.int v16, .int 0]) (st := []) (kc2 := 0) (ks2 := 0) dX7_readPiece_148 wd567 YX6_emit ⟨wd568, wd569⟩ (mk_get R.2.2.2.2.2.2.1) rfl rfl (s_X6_emit g hT I82 lb R.2.2.2.2.2 v16 0 (by decide) (by decide)) rfl rfl (Nat.le_of_ble_eq_true rfl) (by decide) rfl rfl 151 rfl (fun rv h1 q86 => ?_)
                obtain ⟨m87, n88, rfl, rfl, I89, K90, rm87⟩ := q86
                have K90c := K90
                have w91 : (m87 86 3).toInt = (m80 86 3).toInt := congrArg Int32.toInt (K90 86 3 (wr_out (by omega)))
                have w92 : (m87 86 2).toInt = (m80 86 2).toInt := congrArg Int32.toInt (K90 86 2 (wr_out (by omega)))
                have K90 := K83.trans (K90.sub (wr_wr (by omega) (by omega)))
                show PV _ _ _ _ _ _ _ 151 [.ref 86, .int 6, .int v16] [] _
                refine pv_iconst (M := mX7_readPiece) (v := 1) dX7_readPiece_151 152 rfl (by decide) ?_
                have z93 : (1 : Int32).toInt = 1 := by decide
                exact pv_iret (M := mX7_readPiece) dX7_readPiece_152 rfl rfl ⟨_, _, _, rfl, rfl, I89, K90, by decide, by decide, (by refine ⟨?_, ?_, ?_⟩ <;> omega)⟩
              · have c85 := iv_eq (X := v84.toInt) (Y := 0) c85 rfl (by decide)
                refine pv_iconst (M := mX7_readPiece) (v := 0) dX7_readPiece_140 141 rfl (by decide) ?_
                have z94 : (0 : Int32).toInt = 0 := by decide
                exact pv_iret (M := mX7_readPiece) dX7_readPiece_141 rfl rfl ⟨_, _, _, rfl, rfl, I82, K83, by decide, by decide, (by refine ⟨?_, ?_, ?_⟩ <;> omega)⟩
            · have c69 := iv_ne (X := v16.toInt) (Y := 61) c69 rfl (by decide)
              refine pv_aload_n (M := mX7_readPiece) 0 dX7_readPiece_116 117 rfl rfl rfl ?_
              refine pv_iconst (M := mX7_readPiece) (v := 1) dX7_readPiece_117 118 rfl (by decide) ?_
              have z95 : (1 : Int32).toInt = 1 := by decide
              refine pv_callv (M := mX7_readPiece) (as := [.int 1]) (st := []) (kc2 := 0) (ks2 := 0) dX7_readPiece_118 wd531 YX7_fail ⟨wd533, wd3⟩ (mk_get (tl86 hT)) rfl rfl (s_X7_fail g hT I11 R 1 (by first | omega | assumption | exact (iv_rng _).2 | exact (iv_rng _).1 | decide)) rfl rfl (Nat.le_of_ble_eq_true rfl) (by decide) rfl rfl 121 rfl (fun rv h1 q96 => ?_)
              obtain ⟨m97, n98, v101, rfl, rfl, I99, K100, pv101, qv101, rv101⟩ := q96
              replace rv101 : v101.toInt = 0 ∧ (m9 86 3).toInt ≤ (m97 86 3).toInt ∧ (m97 86 3).toInt ≤ (m97 86 2).toInt ∧ (m97 86 2).toInt = (m9 86 2).toInt := rv101
              have K100c := K100
              have K100 := K12.trans (K100.sub (fun _ _ q => q))
              show PV _ _ _ _ _ _ _ 121 [.ref 86, .int 6, .int v16] [.int v101] _
              exact pv_iret (M := mX7_readPiece) dX7_readPiece_121 rfl (iv_nz (by omega) (by omega)) ⟨_, _, _, rfl, rfl, I99, K100, by omega, by omega, (by refine ⟨?_, ?_, ?_⟩ <;> omega)⟩
      · have c14 := iv_eq (X := v13.toInt) (Y := 0) c14 rfl (by decide)
        refine pv_iconst (M := mX7_readPiece) (v := 0) dX7_readPiece_91 92 rfl (by decide) ?_
        have z102 : (0 : Int32).toInt = 0 := by decide
        exact pv_iret (M := mX7_readPiece) dX7_readPiece_92 rfl rfl ⟨_, _, _, rfl, rfl, I11, K12, by decide, by decide, (by refine ⟨?_, ?_, ?_⟩ <;> omega)⟩
    · have c6 := iv_eq (X := v5.toInt) (Y := 40) c6 rfl (by decide)
      refine pv_aload_n (M := mX7_readPiece) 0 dX7_readPiece_50 51 rfl rfl rfl ?_
      refine pv_iload_n (M := mX7_readPiece) 1 dX7_readPiece_51 52 rfl rfl rfl ?_
      have z103 : (6 : Int32).toInt = 6 := by decide
      refine pv_callv (M := mX7_readPiece) (as := [.int 6]) (st := []) (kc2 := 0) (ks2 := 0) dX7_readPiece_52 wd551 YX7_open ⟨wd553, wd7⟩ (mk_get (tl86 hT)) rfl rfl (s_X7_open g hT I R 6 (by first | omega | assumption | exact (iv_rng _).2 | exact (iv_rng _).1 | decide)) rfl rfl (Nat.le_of_ble_eq_true rfl) (by decide) rfl rfl 55 rfl (fun rv h1 q104 => ?_)
      obtain ⟨m105, n106, v109, rfl, rfl, I107, K108, pv109, qv109, rv109⟩ := q104
      replace rv109 : (v109 = 0 ∨ (6 : Int) ≤ 5) ∧ (m 86 3).toInt ≤ (m105 86 3).toInt ∧ (m105 86 3).toInt ≤ (m105 86 2).toInt ∧ (m105 86 2).toInt = (m 86 2).toInt := by have q_ := rv109; (try rw [z103] at q_); exact q_
      have K108c := K108
      have K108 := Kp.trans (K108.sub (fun _ _ q => q))
      show PV _ _ _ _ _ _ _ 55 [.ref 86, .int 6, pv_U] [.int v109] _
      refine pv_if_eq (M := mX7_readPiece) (tgt := 81) dX7_readPiece_55 58 rfl (by decide) (fun c110 => ?_) (fun c110 => ?_)
      · have c110 := iv_eq (X := v109.toInt) (Y := 0) c110 rfl (by decide)
        refine pv_iconst (M := mX7_readPiece) (v := 0) dX7_readPiece_81 82 rfl (by decide) ?_
        have z111 : (0 : Int32).toInt = 0 := by decide
        exact pv_iret (M := mX7_readPiece) dX7_readPiece_82 rfl rfl ⟨_, _, _, rfl, rfl, I107, K108, by decide, by decide, (by refine ⟨?_, ?_, ?_⟩ <;> omega)⟩
      · have pc110 := rv109.1.resolve_left c110
        have c110 := iv_ne (X := v109.toInt) (Y := 0) c110 rfl (by decide)
        omega
  · have c3 := iv_eq (X := v2.toInt) (Y := 33) c3 rfl (by decide)
    refine pv_aload_n (M := mX7_readPiece) 0 dX7_readPiece_9 10 rfl rfl rfl ?_
    refine pv_iload_n (M := mX7_readPiece) 1 dX7_readPiece_10 11 rfl rfl rfl ?_
    have z112 : (6 : Int32).toInt = 6 := by decide
    refine pv_callv (M := mX7_readPiece) (as := [.int 6]) (st := []) (kc2 := 0) (ks2 := 0) dX7_readPiece_11 wd551 YX7_open ⟨wd553, wd7⟩ (mk_get (tl86 hT)) rfl rfl (s_X7_open g hT I R 6 (by first | omega | assumption | exact (iv_rng _).2 | exact (iv_rng _).1 | decide)) rfl rfl (Nat.le_of_ble_eq_true rfl) (by decide) rfl rfl 14 rfl (fun rv h1 q113 => ?_)
    obtain ⟨m114, n115, v118, rfl, rfl, I116, K117, pv118, qv118, rv118⟩ := q113
    replace rv118 : (v118 = 0 ∨ (6 : Int) ≤ 5) ∧ (m 86 3).toInt ≤ (m114 86 3).toInt ∧ (m114 86 3).toInt ≤ (m114 86 2).toInt ∧ (m114 86 2).toInt = (m 86 2).toInt := by have q_ := rv118; (try rw [z112] at q_); exact q_
    have K117c := K117
    have K117 := Kp.trans (K117.sub (fun _ _ q => q))
    show PV _ _ _ _ _ _ _ 14 [.ref 86, .int 6, pv_U] [.int v118] _
    refine pv_if_eq (M := mX7_readPiece) (tgt := 27) dX7_readPiece_14 17 rfl (by decide) (fun c119 => ?_) (fun c119 => ?_)
    · have c119 := iv_eq (X := v118.toInt) (Y := 0) c119 rfl (by decide)
      refine pv_iconst (M := mX7_readPiece) (v := 0) dX7_readPiece_27 28 rfl (by decide) ?_
      have z120 : (0 : Int32).toInt = 0 := by decide
      exact pv_iret (M := mX7_readPiece) dX7_readPiece_28 rfl rfl ⟨_, _, _, rfl, rfl, I116, K117, by decide, by decide, (by refine ⟨?_, ?_, ?_⟩ <;> omega)⟩
    · have pc119 := rv118.1.resolve_left c119
      have c119 := iv_ne (X := v118.toInt) (Y := 0) c119 rfl (by decide)
      omega

set_option maxHeartbeats 2000000 in
set_option maxRecDepth 20000 in
theorem s_X7_readPart_v6 (g : pv_G) {T : List mv_T} {m : Nat → Nat → Int32} {n : Nat → Nat → Int64} {r : Nat → Value} {la lb : Nat} (hT : TX T) (I : IV BB m) (R : RX T r la lb) (hp0 : (m 86 3).toInt ≤ (m 86 2).toInt) : PM g mX7_readPart yX7_readPart (sqI T BB (wl [(77, 96, none)]) r m 0 1 (fun m' v => (m 86 3).toInt ≤ (m' 86 3).toInt ∧ (m' 86 3).toInt ≤ (m' 86 2).toInt ∧ (m' 86 2).toInt = (m 86 2).toInt)) 9 0 0 [.ref 86, .int 6] (mk T m n r) := by
  have Kp : fr (wl [(77, 96, none)]) m m := fr.rf
  have R0 := R
  have zR := R.2.2.2.2.1.1
  have zR2 := R.2.2.2.2.2.1
  have z65 : 0 ≤ (m 86 3).toInt ∧ (m 86 3).toInt ≤ 160 := I 86 3
  have z66 : 0 ≤ (m 86 2).toInt ∧ (m 86 2).toInt ≤ 160 := I 86 2
  refine PM.of 2 (lo := [.ref 86, .int 6, pv_U, pv_U]) rfl (by decide) rfl rfl (Nat.le_of_ble_eq_true rfl) ?_
  refine pv_aload_n (M := mX7_readPart) 0 dX7_readPart_0 1 rfl rfl rfl ?_
  refine mv_get (M := mX7_readPart) (v := .ref lb) dX7_readPart_1 FX7 1 wd281 (by decide) (tl86 hT) rfl R.2.2.2.1 4 rfl ?_
  refine pv_callv (M := mX7_readPart) (as := []) (st := []) (kc2 := 0) (ks2 := 0) dX7_readPart_4 wd666 YX6_steps ⟨wd667, wd668⟩ (mk_get R.2.2.2.2.2.2.1) rfl rfl (s_X6_steps g hT I lb R.2.2.2.2.2) rfl rfl (Nat.le_of_ble_eq_true rfl) (by decide) rfl rfl 7 rfl (fun rv h1 q1 => ?_)
  obtain ⟨v2, rfl, rfl, pv2, qv2, rv2⟩ := q1
  show PV _ _ _ _ _ _ _ 7 [.ref 86, .int 6, pv_U, pv_U] [.int v2] _
  refine pv_istore_n (M := mX7_readPart) 2 (lo2 := [.ref 86, .int 6, .int v2, pv_U]) dX7_readPart_7 8 rfl rfl (by decide) rfl rfl ?_
  refine pv_iconst (M := mX7_readPart) (v := 0) dX7_readPart_8 9 rfl (by decide) ?_
  refine pv_istore_n (M := mX7_readPart) 3 (lo2 := [.ref 86, .int 6, .int v2, .int 0]) dX7_readPart_9 10 rfl rfl (by decide) rfl rfl ?_
  have lp9 : ∀ (fuel8 : Nat) (y3 : Int32) (m4 : Nat → Nat → Int32) (n5 : Nat → Nat → Int64), (0 ≤ y3.toInt) → (y3.toInt ≤ 160) → ((m 86 3).toInt ≤ (m4 86 3).toInt) → ((m4 86 3).toInt ≤ (m4 86 2).toInt) → ((m4 86 2).toInt = (m 86 2).toInt) → IV BB m4 → fr (wl [(77, 96, none)]) m m4 → ((160 - y3.toInt) : Int).toNat < fuel8 → PV none g mX7_readPart (sqI T BB (wl [(77, 96, none)]) r m 0 1 (fun m' v => (m 86 3).toInt ≤ (m' 86 3).toInt ∧ (m' 86 3).toInt ≤ (m' 86 2).toInt ∧ (m' 86 2).toInt = (m 86 2).toInt)) 9 0 0 10 [.ref 86, .int 6, .int v2, .int y3] [] (mk T m4 n5 r) := by
    intro fuel8
    induction fuel8 with
    | zero => intro y3 m4 n5 b11 b12 b13 b14 b15 I6 K7 z16; omega
    | succ fuel8 ih10 =>
      intro y3 m4 n5 b11 b12 b13 b14 b15 I6 K7 z16
      have z17 : 0 ≤ (m4 86 3).toInt ∧ (m4 86 3).toInt ≤ 160 := I6 86 3
      have z18 : 0 ≤ (m4 86 2).toInt ∧ (m4 86 2).toInt ≤ 160 := I6 86 2
      refine pv_iload_n (M := mX7_readPart) 3 dX7_readPart_10 11 rfl rfl rfl ?_
      refine pv_sipush (M := mX7_readPart) (v := 160) dX7_readPart_11 14 rfl (by decide) ?_
      refine pv_icmp_ge (M := mX7_readPart) (tgt := 65) dX7_readPart_14 17 rfl (by decide) (fun c19 => ?_) (fun c19 => ?_)
      · have c19 := iv_le (X := 160) (Y := y3.toInt) c19 (by decide) rfl
        refine pv_aload_n (M := mX7_readPart) 0 dX7_readPart_65 66 rfl rfl rfl ?_
        refine mv_get (M := mX7_readPart) (v := .ref lb) dX7_readPart_66 FX7 1 wd281 (by decide) (tl86 hT) rfl R.2.2.2.1 69 rfl ?_
        refine pv_bipush (M := mX7_readPart) (v := 38) dX7_readPart_69 71 rfl (by decide) ?_
        refine pv_iload_n (M := mX7_readPart) 2 dX7_readPart_71 72 rfl rfl rfl ?_
        refine pv_callv (M := mX7_readPart) (as := [.int 38, .int v2]) (st := []) (kc2 := 0) (ks2 := 0) dX7_readPart_72 wd678 YX6_aimLeaps ⟨wd679, wd680⟩ (mk_get R.2.2.2.2.2.2.1) rfl rfl (s_X6_aimLeaps g hT I6 lb R.2.2.2.2.2 38 v2) rfl rfl (Nat.le_of_ble_eq_true rfl) (by decide) rfl rfl 75 rfl (fun rv h1 q20 => ?_)
        obtain ⟨m21, n22, rfl, rfl, I23, K24, rm21⟩ := q20
        have K24c := K24
        have w25 : (m21 86 3).toInt = (m4 86 3).toInt := congrArg Int32.toInt (K24 86 3 (wr_out (by omega)))
        have w26 : (m21 86 2).toInt = (m4 86 2).toInt := congrArg Int32.toInt (K24 86 2 (wr_out (by omega)))
        have K24 := K7.trans (K24.sub (wr_wr (by omega) (by omega)))
        show PV _ _ _ _ _ _ _ 75 [.ref 86, .int 6, .int v2, .int y3] [] _
        refine pv_iconst (M := mX7_readPart) (v := 1) dX7_readPart_75 76 rfl (by decide) ?_
        have z27 : (1 : Int32).toInt = 1 := by decide
        exact pv_iret (M := mX7_readPart) dX7_readPart_76 rfl rfl ⟨_, _, _, rfl, rfl, I23, K24, by decide, by decide, (by refine ⟨?_, ?_, ?_⟩ <;> omega)⟩
      · have c19 := iv_nle (X := 160) (Y := y3.toInt) c19 (by decide) rfl
        refine pv_aload_n (M := mX7_readPart) 0 dX7_readPart_17 18 rfl rfl rfl ?_
        refine pv_iload_n (M := mX7_readPart) 1 dX7_readPart_18 19 rfl rfl rfl ?_
        have z28 : (6 : Int32).toInt = 6 := by decide
        refine pv_callv (M := mX7_readPart) (as := [.int 6]) (st := []) (kc2 := 0) (ks2 := 0) dX7_readPart_19 wd674 YX7_readPiece ⟨wd676, wd14⟩ (mk_get (tl86 hT)) rfl rfl (s_X7_readPiece_v6 g hT I6 R (by first | omega | assumption | exact (iv_rng _).2 | exact (iv_rng _).1 | decide)) rfl rfl (Nat.le_of_ble_eq_true rfl) (by decide) rfl rfl 22 rfl (fun rv h1 q29 => ?_)
        obtain ⟨m30, n31, v34, rfl, rfl, I32, K33, pv34, qv34, rv34⟩ := q29
        replace rv34 : (m4 86 3).toInt ≤ (m30 86 3).toInt ∧ (m30 86 3).toInt ≤ (m30 86 2).toInt ∧ (m30 86 2).toInt = (m4 86 2).toInt := rv34
        have K33c := K33
        have K33 := K7.trans (K33.sub (fun _ _ q => q))
        show PV _ _ _ _ _ _ _ 22 [.ref 86, .int 6, .int v2, .int y3] [.int v34] _
        refine pv_if_ne (M := mX7_readPart) (tgt := 27) dX7_readPart_22 25 rfl (by decide) (fun c35 => ?_) (fun c35 => ?_)
        · have c35 := iv_ne (X := v34.toInt) (Y := 0) c35 rfl (by decide)
          refine pv_aload_n (M := mX7_readPart) 0 dX7_readPart_27 28 rfl rfl rfl ?_
          refine pv_callv (M := mX7_readPart) (as := []) (st := []) (kc2 := 0) (ks2 := 0) dX7_readPart_28 wd527 YX7_peek ⟨wd529, wd2⟩ (mk_get (tl86 hT)) rfl rfl (s_X7_peek g hT I32 R) rfl rfl (Nat.le_of_ble_eq_true rfl) (by decide) rfl rfl 31 rfl (fun rv h1 q36 => ?_)
          obtain ⟨v37, rfl, rfl, pv37, qv37, rv37⟩ := q36
          replace rv37 : v37.toInt = -1 ∨ (m30 86 3).toInt < (m30 86 2).toInt := rv37
          show PV _ _ _ _ _ _ _ 31 [.ref 86, .int 6, .int v2, .int y3] [.int v37] _
          refine pv_bipush (M := mX7_readPart) (v := 38) dX7_readPart_31 33 rfl (by decide) ?_
          refine pv_icmp_eq (M := mX7_readPart) (tgt := 39) dX7_readPart_33 36 rfl (by decide) (fun c38 => ?_) (fun c38 => ?_)
          · have c38 := iv_eq (X := v37.toInt) (Y := 38) c38 rfl (by decide)
            refine pv_aload_n (M := mX7_readPart) 0 dX7_readPart_39 40 rfl rfl rfl ?_
            refine mv_get (M := mX7_readPart) (v := .ref lb) dX7_readPart_40 FX7 1 wd281 (by decide) (tl86 hT) rfl R.2.2.2.1 43 rfl ?_
            refine pv_bipush (M := mX7_readPart) (v := 38) dX7_readPart_43 45 rfl (by decide) ?_
            refine pv_iconst (M := mX7_readPart) (v := (-1)) dX7_readPart_45 46 rfl (by decide) ?_
            refine pv_callv (M := mX7_readPart) (as := [.int 38, .int (-1)]) (st := []) (kc2 := 0) (ks2 := 0) dX7_readPart_46 wd567 YX6_emit ⟨wd568, wd569⟩ (mk_get R.2.2.2.2.2.2.1) rfl rfl (s_X6_emit g hT I32 lb R.2.2.2.2.2 38 (-1) (by decide) (by decide)) rfl rfl (Nat.le_of_ble_eq_true rfl) (by decide) rfl rfl 49 rfl (fun rv h1 q39 => ?_)
            obtain ⟨m40, n41, rfl, rfl, I42, K43, rm40⟩ := q39
            have K43c := K43
            have w44 : (m40 86 3).toInt = (m30 86 3).toInt := congrArg Int32.toInt (K43 86 3 (wr_out (by omega)))
            have w45 : (m40 86 2).toInt = (m30 86 2).toInt := congrArg Int32.toInt (K43 86 2 (wr_out (by omega)))
            have K43 := K33.trans (K43.sub (wr_wr (by omega) (by omega)))
            show PV _ _ _ _ _ _ _ 49 [.ref 86, .int 6, .int v2, .int y3] [] _
            refine pv_aload_n (M := mX7_readPart) 0 dX7_readPart_49 50 rfl rfl rfl ?_
            refine pv_dup (M := mX7_readPart) dX7_readPart_50 51 rfl rfl ?_
            refine iv_get (M := mX7_readPart) (l1 := 0) (l2 := 160) dX7_readPart_51 FX7 3 wd283 (by decide) (tl86 hT) rfl I42 rfl 54 rfl (fun v46 ev46 pv46 qv46 => ?_)
            have wv46 : v46.toInt = (m40 86 3).toInt := congrArg Int32.toInt ev46
            refine pv_iconst (M := mX7_readPart) (v := 1) dX7_readPart_54 55 rfl (by decide) ?_
            refine iv_iadd (M := mX7_readPart) (X := v46.toInt) (Y := 1) dX7_readPart_55 56 rfl rfl (by decide) (by omega) (by omega) (fun v47 ev47 => ?_)
            refine iv_put (M := mX7_readPart) (l1 := 0) (l2 := 160) dX7_readPart_56 FX7 3 wd283 (by decide) rfl (tl86 hT) rfl rfl rfl I42 rfl (by omega) (by omega) 59 rfl (fun m48 e51 I49 => ?_)
            have K50 := K43.set e51 (wl_r (by omega) (by omega))
            have w52 : (m48 86 3).toInt = v47.toInt := by rw [e51, up2_eq]
            have w53 : (m48 86 2).toInt = (m40 86 2).toInt := by rw [e51, up2_ne (by omega)]
            refine iv_inc (M := mX7_readPart) (C := 1) dX7_readPart_59 62 rfl rfl (by decide) rfl rfl (by decide) (by omega) (by omega) (fun v54 ev54 => ?_)
            show PV _ _ _ _ _ _ _ 62 [.ref 86, .int 6, .int v2, .int v54] [] _
            refine pv_goto (M := mX7_readPart) (tgt := 10) dX7_readPart_62 (by decide) ?_
            exact ih10 v54 m48 n41 (by first | omega | assumption | exact (iv_rng _).2 | exact (iv_rng _).1 | decide) (by first | omega | assumption | exact (iv_rng _).2 | exact (iv_rng _).1 | decide) (by first | omega | assumption | (show (m 86 3).toInt ≤ (m48 86 3).toInt; omega) | decide) (by first | omega | assumption | (show (m48 86 3).toInt ≤ (m48 86 2).toInt; omega) | decide) (by first | omega | assumption | (show (m48 86 2).toInt = (m 86 2).toInt; omega) | decide) I49 K50 (by omega)
          · have c38 := iv_ne (X := v37.toInt) (Y := 38) c38 rfl (by decide)
            refine pv_goto (M := mX7_readPart) (tgt := 65) dX7_readPart_36 (by decide) ?_
            refine pv_aload_n (M := mX7_readPart) 0 dX7_readPart_65 66 rfl rfl rfl ?_
            refine mv_get (M := mX7_readPart) (v := .ref lb) dX7_readPart_66 FX7 1 wd281 (by decide) (tl86 hT) rfl R.2.2.2.1 69 rfl ?_
            refine pv_bipush (M := mX7_readPart) (v := 38) dX7_readPart_69 71 rfl (by decide) ?_
            refine pv_iload_n (M := mX7_readPart) 2 dX7_readPart_71 72 rfl rfl rfl ?_
            refine pv_callv (M := mX7_readPart) (as := [.int 38, .int v2]) (st := []) (kc2 := 0) (ks2 := 0) dX7_readPart_72 wd678 YX6_aimLeaps ⟨wd679, wd680⟩ (mk_get R.2.2.2.2.2.2.1) rfl rfl (s_X6_aimLeaps g hT I32 lb R.2.2.2.2.2 38 v2) rfl rfl (Nat.le_of_ble_eq_true rfl) (by decide) rfl rfl 75 rfl (fun rv h1 q55 => ?_)
            obtain ⟨m56, n57, rfl, rfl, I58, K59, rm56⟩ := q55
            have K59c := K59
            have w60 : (m56 86 3).toInt = (m30 86 3).toInt := congrArg Int32.toInt (K59 86 3 (wr_out (by omega)))
            have w61 : (m56 86 2).toInt = (m30 86 2).toInt := congrArg Int32.toInt (K59 86 2 (wr_out (by omega)))
            have K59 := K33.trans (K59.sub (wr_wr (by omega) (by omega)))
            show PV _ _ _ _ _ _ _ 75 [.ref 86, .int 6, .int v2, .int y3] [] _
            refine pv_iconst (M := mX7_readPart) (v := 1) dX7_readPart_75 76 rfl (by decide) ?_
            have z62 : (1 : Int32).toInt = 1 := by decide
            exact pv_iret (M := mX7_readPart) dX7_readPart_76 rfl rfl ⟨_, _, _, rfl, rfl, I58, K59, by decide, by decide, (by refine ⟨?_, ?_, ?_⟩ <;> omega)⟩
        · have c35 := iv_eq (X := v34.toInt) (Y := 0) c35 rfl (by decide)
          refine pv_iconst (M := mX7_readPart) (v := 0) dX7_readPart_25 26 rfl (by decide) ?_
          have z63 : (0 : Int32).toInt = 0 := by decide
          exact pv_iret (M := mX7_readPart) dX7_readPart_26 rfl rfl ⟨_, _, _, rfl, rfl, I32, K33, by decide, by decide, (by refine ⟨?_, ?_, ?_⟩ <;> omega)⟩
  have z64 : (0 : Int32).toInt = 0 := by decide
  exact lp9 (((160 - 0) : Int).toNat + 1) 0 m n (by first | omega | assumption | exact (iv_rng _).2 | exact (iv_rng _).1 | decide) (by first | omega | assumption | exact (iv_rng _).2 | exact (iv_rng _).1 | decide) (by first | omega | assumption | (show (m 86 3).toInt ≤ (m 86 3).toInt; omega) | decide) (by first | omega | assumption | (show (m 86 3).toInt ≤ (m 86 2).toInt; omega) | decide) (by first | omega | assumption | (show (m 86 2).toInt = (m 86 2).toInt; omega) | decide) I Kp (by omega)

set_option maxHeartbeats 2000000 in
set_option maxRecDepth 20000 in
theorem s_X7_readCondition_v6 (g : pv_G) {T : List mv_T} {m : Nat → Nat → Int32} {n : Nat → Nat → Int64} {r : Nat → Value} {la lb : Nat} (hT : TX T) (I : IV BB m) (R : RX T r la lb) (hp0 : (m 86 3).toInt ≤ (m 86 2).toInt) : PM g mX7_readCondition yX7_readCondition (sqI T BB (wl [(77, 96, none)]) r m 0 1 (fun m' v => (m 86 3).toInt ≤ (m' 86 3).toInt ∧ (m' 86 3).toInt ≤ (m' 86 2).toInt ∧ (m' 86 2).toInt = (m 86 2).toInt)) 10 0 0 [.ref 86, .int 6] (mk T m n r) := by
  have Kp : fr (wl [(77, 96, none)]) m m := fr.rf
  have R0 := R
  have zR := R.2.2.2.2.1.1
  have zR2 := R.2.2.2.2.2.1
  have z65 : 0 ≤ (m 86 3).toInt ∧ (m 86 3).toInt ≤ 160 := I 86 3
  have z66 : 0 ≤ (m 86 2).toInt ∧ (m 86 2).toInt ≤ 160 := I 86 2
  refine PM.of 2 (lo := [.ref 86, .int 6, pv_U, pv_U]) rfl (by decide) rfl rfl (Nat.le_of_ble_eq_true rfl) ?_
  refine pv_aload_n (M := mX7_readCondition) 0 dX7_readCondition_0 1 rfl rfl rfl ?_
  refine mv_get (M := mX7_readCondition) (v := .ref lb) dX7_readCondition_1 FX7 1 wd281 (by decide) (tl86 hT) rfl R.2.2.2.1 4 rfl ?_
  refine pv_callv (M := mX7_readCondition) (as := []) (st := []) (kc2 := 0) (ks2 := 0) dX7_readCondition_4 wd666 YX6_steps ⟨wd667, wd668⟩ (mk_get R.2.2.2.2.2.2.1) rfl rfl (s_X6_steps g hT I lb R.2.2.2.2.2) rfl rfl (Nat.le_of_ble_eq_true rfl) (by decide) rfl rfl 7 rfl (fun rv h1 q1 => ?_)
  obtain ⟨v2, rfl, rfl, pv2, qv2, rv2⟩ := q1
  show PV _ _ _ _ _ _ _ 7 [.ref 86, .int 6, pv_U, pv_U] [.int v2] _
  refine pv_istore_n (M := mX7_readCondition) 2 (lo2 := [.ref 86, .int 6, .int v2, pv_U]) dX7_readCondition_7 8 rfl rfl (by decide) rfl rfl ?_
  refine pv_iconst (M := mX7_readCondition) (v := 0) dX7_readCondition_8 9 rfl (by decide) ?_
  refine pv_istore_n (M := mX7_readCondition) 3 (lo2 := [.ref 86, .int 6, .int v2, .int 0]) dX7_readCondition_9 10 rfl rfl (by decide) rfl rfl ?_
  have lp9 : ∀ (fuel8 : Nat) (y3 : Int32) (m4 : Nat → Nat → Int32) (n5 : Nat → Nat → Int64), (0 ≤ y3.toInt) → (y3.toInt ≤ 160) → ((m 86 3).toInt ≤ (m4 86 3).toInt) → ((m4 86 3).toInt ≤ (m4 86 2).toInt) → ((m4 86 2).toInt = (m 86 2).toInt) → IV BB m4 → fr (wl [(77, 96, none)]) m m4 → ((160 - y3.toInt) : Int).toNat < fuel8 → PV none g mX7_readCondition (sqI T BB (wl [(77, 96, none)]) r m 0 1 (fun m' v => (m 86 3).toInt ≤ (m' 86 3).toInt ∧ (m' 86 3).toInt ≤ (m' 86 2).toInt ∧ (m' 86 2).toInt = (m 86 2).toInt)) 10 0 0 10 [.ref 86, .int 6, .int v2, .int y3] [] (mk T m4 n5 r) := by
    intro fuel8
    induction fuel8 with
    | zero => intro y3 m4 n5 b11 b12 b13 b14 b15 I6 K7 z16; omega
    | succ fuel8 ih10 =>
      intro y3 m4 n5 b11 b12 b13 b14 b15 I6 K7 z16
      have z17 : 0 ≤ (m4 86 3).toInt ∧ (m4 86 3).toInt ≤ 160 := I6 86 3
      have z18 : 0 ≤ (m4 86 2).toInt ∧ (m4 86 2).toInt ≤ 160 := I6 86 2
      refine pv_iload_n (M := mX7_readCondition) 3 dX7_readCondition_10 11 rfl rfl rfl ?_
      refine pv_sipush (M := mX7_readCondition) (v := 160) dX7_readCondition_11 14 rfl (by decide) ?_
      refine pv_icmp_ge (M := mX7_readCondition) (tgt := 65) dX7_readCondition_14 17 rfl (by decide) (fun c19 => ?_) (fun c19 => ?_)
      · have c19 := iv_le (X := 160) (Y := y3.toInt) c19 (by decide) rfl
        refine pv_aload_n (M := mX7_readCondition) 0 dX7_readCondition_65 66 rfl rfl rfl ?_
        refine mv_get (M := mX7_readCondition) (v := .ref lb) dX7_readCondition_66 FX7 1 wd281 (by decide) (tl86 hT) rfl R.2.2.2.1 69 rfl ?_
        refine pv_bipush (M := mX7_readCondition) (v := 124) dX7_readCondition_69 71 rfl (by decide) ?_
        refine pv_iload_n (M := mX7_readCondition) 2 dX7_readCondition_71 72 rfl rfl rfl ?_
        refine pv_callv (M := mX7_readCondition) (as := [.int 124, .int v2]) (st := []) (kc2 := 0) (ks2 := 0) dX7_readCondition_72 wd678 YX6_aimLeaps ⟨wd679, wd680⟩ (mk_get R.2.2.2.2.2.2.1) rfl rfl (s_X6_aimLeaps g hT I6 lb R.2.2.2.2.2 124 v2) rfl rfl (Nat.le_of_ble_eq_true rfl) (by decide) rfl rfl 75 rfl (fun rv h1 q20 => ?_)
        obtain ⟨m21, n22, rfl, rfl, I23, K24, rm21⟩ := q20
        have K24c := K24
        have w25 : (m21 86 3).toInt = (m4 86 3).toInt := congrArg Int32.toInt (K24 86 3 (wr_out (by omega)))
        have w26 : (m21 86 2).toInt = (m4 86 2).toInt := congrArg Int32.toInt (K24 86 2 (wr_out (by omega)))
        have K24 := K7.trans (K24.sub (wr_wr (by omega) (by omega)))
        show PV _ _ _ _ _ _ _ 75 [.ref 86, .int 6, .int v2, .int y3] [] _
        refine pv_iconst (M := mX7_readCondition) (v := 1) dX7_readCondition_75 76 rfl (by decide) ?_
        have z27 : (1 : Int32).toInt = 1 := by decide
        exact pv_iret (M := mX7_readCondition) dX7_readCondition_76 rfl rfl ⟨_, _, _, rfl, rfl, I23, K24, by decide, by decide, (by refine ⟨?_, ?_, ?_⟩ <;> omega)⟩
      · have c19 := iv_nle (X := 160) (Y := y3.toInt) c19 (by decide) rfl
        refine pv_aload_n (M := mX7_readCondition) 0 dX7_readCondition_17 18 rfl rfl rfl ?_
        refine pv_iload_n (M := mX7_readCondition) 1 dX7_readCondition_18 19 rfl rfl rfl ?_
        have z28 : (6 : Int32).toInt = 6 := by decide
        refine pv_callv (M := mX7_readCondition) (as := [.int 6]) (st := []) (kc2 := 0) (ks2 := 0) dX7_readCondition_19 wd670 YX7_readPart ⟨wd672, wd13⟩ (mk_get (tl86 hT)) rfl rfl (s_X7_readPart_v6 g hT I6 R (by first | omega | assumption | exact (iv_rng _).2 | exact (iv_rng _).1 | decide)) rfl rfl (Nat.le_of_ble_eq_true rfl) (by decide) rfl rfl 22 rfl (fun rv h1 q29 => ?_)
        obtain ⟨m30, n31, v34, rfl, rfl, I32, K33, pv34, qv34, rv34⟩ := q29
        replace rv34 : (m4 86 3).toInt ≤ (m30 86 3).toInt ∧ (m30 86 3).toInt ≤ (m30 86 2).toInt ∧ (m30 86 2).toInt = (m4 86 2).toInt := rv34
        have K33c := K33
        have K33 := K7.trans (K33.sub (fun _ _ q => q))
        show PV _ _ _ _ _ _ _ 22 [.ref 86, .int 6, .int v2, .int y3] [.int v34] _
        refine pv_if_ne (M := mX7_readCondition) (tgt := 27) dX7_readCondition_22 25 rfl (by decide) (fun c35 => ?_) (fun c35 => ?_)
        · have c35 := iv_ne (X := v34.toInt) (Y := 0) c35 rfl (by decide)
          refine pv_aload_n (M := mX7_readCondition) 0 dX7_readCondition_27 28 rfl rfl rfl ?_
          refine pv_callv (M := mX7_readCondition) (as := []) (st := []) (kc2 := 0) (ks2 := 0) dX7_readCondition_28 wd527 YX7_peek ⟨wd529, wd2⟩ (mk_get (tl86 hT)) rfl rfl (s_X7_peek g hT I32 R) rfl rfl (Nat.le_of_ble_eq_true rfl) (by decide) rfl rfl 31 rfl (fun rv h1 q36 => ?_)
          obtain ⟨v37, rfl, rfl, pv37, qv37, rv37⟩ := q36
          replace rv37 : v37.toInt = -1 ∨ (m30 86 3).toInt < (m30 86 2).toInt := rv37
          show PV _ _ _ _ _ _ _ 31 [.ref 86, .int 6, .int v2, .int y3] [.int v37] _
          refine pv_bipush (M := mX7_readCondition) (v := 124) dX7_readCondition_31 33 rfl (by decide) ?_
          refine pv_icmp_eq (M := mX7_readCondition) (tgt := 39) dX7_readCondition_33 36 rfl (by decide) (fun c38 => ?_) (fun c38 => ?_)
          · have c38 := iv_eq (X := v37.toInt) (Y := 124) c38 rfl (by decide)
            refine pv_aload_n (M := mX7_readCondition) 0 dX7_readCondition_39 40 rfl rfl rfl ?_
            refine mv_get (M := mX7_readCondition) (v := .ref lb) dX7_readCondition_40 FX7 1 wd281 (by decide) (tl86 hT) rfl R.2.2.2.1 43 rfl ?_
            refine pv_bipush (M := mX7_readCondition) (v := 124) dX7_readCondition_43 45 rfl (by decide) ?_
            refine pv_iconst (M := mX7_readCondition) (v := (-1)) dX7_readCondition_45 46 rfl (by decide) ?_
            refine pv_callv (M := mX7_readCondition) (as := [.int 124, .int (-1)]) (st := []) (kc2 := 0) (ks2 := 0) dX7_readCondition_46 wd567 YX6_emit ⟨wd568, wd569⟩ (mk_get R.2.2.2.2.2.2.1) rfl rfl (s_X6_emit g hT I32 lb R.2.2.2.2.2 124 (-1) (by decide) (by decide)) rfl rfl (Nat.le_of_ble_eq_true rfl) (by decide) rfl rfl 49 rfl (fun rv h1 q39 => ?_)
            obtain ⟨m40, n41, rfl, rfl, I42, K43, rm40⟩ := q39
            have K43c := K43
            have w44 : (m40 86 3).toInt = (m30 86 3).toInt := congrArg Int32.toInt (K43 86 3 (wr_out (by omega)))
            have w45 : (m40 86 2).toInt = (m30 86 2).toInt := congrArg Int32.toInt (K43 86 2 (wr_out (by omega)))
            have K43 := K33.trans (K43.sub (wr_wr (by omega) (by omega)))
            show PV _ _ _ _ _ _ _ 49 [.ref 86, .int 6, .int v2, .int y3] [] _
            refine pv_aload_n (M := mX7_readCondition) 0 dX7_readCondition_49 50 rfl rfl rfl ?_
            refine pv_dup (M := mX7_readCondition) dX7_readCondition_50 51 rfl rfl ?_
            refine iv_get (M := mX7_readCondition) (l1 := 0) (l2 := 160) dX7_readCondition_51 FX7 3 wd283 (by decide) (tl86 hT) rfl I42 rfl 54 rfl (fun v46 ev46 pv46 qv46 => ?_)
            have wv46 : v46.toInt = (m40 86 3).toInt := congrArg Int32.toInt ev46
            refine pv_iconst (M := mX7_readCondition) (v := 1) dX7_readCondition_54 55 rfl (by decide) ?_
            refine iv_iadd (M := mX7_readCondition) (X := v46.toInt) (Y := 1) dX7_readCondition_55 56 rfl rfl (by decide) (by omega) (by omega) (fun v47 ev47 => ?_)
            refine iv_put (M := mX7_readCondition) (l1 := 0) (l2 := 160) dX7_readCondition_56 FX7 3 wd283 (by decide) rfl (tl86 hT) rfl rfl rfl I42 rfl (by omega) (by omega) 59 rfl (fun m48 e51 I49 => ?_)
            have K50 := K43.set e51 (wl_r (by omega) (by omega))
            have w52 : (m48 86 3).toInt = v47.toInt := by rw [e51, up2_eq]
            have w53 : (m48 86 2).toInt = (m40 86 2).toInt := by rw [e51, up2_ne (by omega)]
            refine iv_inc (M := mX7_readCondition) (C := 1) dX7_readCondition_59 62 rfl rfl (by decide) rfl rfl (by decide) (by omega) (by omega) (fun v54 ev54 => ?_)
            show PV _ _ _ _ _ _ _ 62 [.ref 86, .int 6, .int v2, .int v54] [] _
            refine pv_goto (M := mX7_readCondition) (tgt := 10) dX7_readCondition_62 (by decide) ?_
            exact ih10 v54 m48 n41 (by first | omega | assumption | exact (iv_rng _).2 | exact (iv_rng _).1 | decide) (by first | omega | assumption | exact (iv_rng _).2 | exact (iv_rng _).1 | decide) (by first | omega | assumption | (show (m 86 3).toInt ≤ (m48 86 3).toInt; omega) | decide) (by first | omega | assumption | (show (m48 86 3).toInt ≤ (m48 86 2).toInt; omega) | decide) (by first | omega | assumption | (show (m48 86 2).toInt = (m 86 2).toInt; omega) | decide) I49 K50 (by omega)
          · have c38 := iv_ne (X := v37.toInt) (Y := 124) c38 rfl (by decide)
            refine pv_goto (M := mX7_readCondition) (tgt := 65) dX7_readCondition_36 (by decide) ?_
            refine pv_aload_n (M := mX7_readCondition) 0 dX7_readCondition_65 66 rfl rfl rfl ?_
            refine mv_get (M := mX7_readCondition) (v := .ref lb) dX7_readCondition_66 FX7 1 wd281 (by decide) (tl86 hT) rfl R.2.2.2.1 69 rfl ?_
            refine pv_bipush (M := mX7_readCondition) (v := 124) dX7_readCondition_69 71 rfl (by decide) ?_
            refine pv_iload_n (M := mX7_readCondition) 2 dX7_readCondition_71 72 rfl rfl rfl ?_
            refine pv_callv (M := mX7_readCondition) (as := [.int 124, .int v2]) (st := []) (kc2 := 0) (ks2 := 0) dX7_readCondition_72 wd678 YX6_aimLeaps ⟨wd679, wd680⟩ (mk_get R.2.2.2.2.2.2.1) rfl rfl (s_X6_aimLeaps g hT I32 lb R.2.2.2.2.2 124 v2) rfl rfl (Nat.le_of_ble_eq_true rfl) (by decide) rfl rfl 75 rfl (fun rv h1 q55 => ?_)
            obtain ⟨m56, n57, rfl, rfl, I58, K59, rm56⟩ := q55
            have K59c := K59
            have w60 : (m56 86 3).toInt = (m30 86 3).toInt := congrArg Int32.toInt (K59 86 3 (wr_out (by omega)))
            have w61 : (m56 86 2).toInt = (m30 86 2).toInt := congrArg Int32.toInt (K59 86 2 (wr_out (by omega)))
            have K59 := K33.trans (K59.sub (wr_wr (by omega) (by omega)))
            show PV _ _ _ _ _ _ _ 75 [.ref 86, .int 6, .int v2, .int y3] [] _
            refine pv_iconst (M := mX7_readCondition) (v := 1) dX7_readCondition_75 76 rfl (by decide) ?_
            have z62 : (1 : Int32).toInt = 1 := by decide
            exact pv_iret (M := mX7_readCondition) dX7_readCondition_76 rfl rfl ⟨_, _, _, rfl, rfl, I58, K59, by decide, by decide, (by refine ⟨?_, ?_, ?_⟩ <;> omega)⟩
        · have c35 := iv_eq (X := v34.toInt) (Y := 0) c35 rfl (by decide)
          refine pv_iconst (M := mX7_readCondition) (v := 0) dX7_readCondition_25 26 rfl (by decide) ?_
          have z63 : (0 : Int32).toInt = 0 := by decide
          exact pv_iret (M := mX7_readCondition) dX7_readCondition_26 rfl rfl ⟨_, _, _, rfl, rfl, I32, K33, by decide, by decide, (by refine ⟨?_, ?_, ?_⟩ <;> omega)⟩
  have z64 : (0 : Int32).toInt = 0 := by decide
  exact lp9 (((160 - 0) : Int).toNat + 1) 0 m n (by first | omega | assumption | exact (iv_rng _).2 | exact (iv_rng _).1 | decide) (by first | omega | assumption | exact (iv_rng _).2 | exact (iv_rng _).1 | decide) (by first | omega | assumption | (show (m 86 3).toInt ≤ (m 86 3).toInt; omega) | decide) (by first | omega | assumption | (show (m 86 3).toInt ≤ (m 86 2).toInt; omega) | decide) (by first | omega | assumption | (show (m 86 2).toInt = (m 86 2).toInt; omega) | decide) I Kp (by omega)

set_option maxHeartbeats 2000000 in
set_option maxRecDepth 20000 in
theorem s_X7_readFactor_v5 (g : pv_G) {T : List mv_T} {m : Nat → Nat → Int32} {n : Nat → Nat → Int64} {r : Nat → Value} {la lb : Nat} (hT : TX T) (I : IV BB m) (R : RX T r la lb) (hp0 : (m 86 3).toInt ≤ (m 86 2).toInt) : PM g mX7_readFactor yX7_readFactor (sqI T BB (wl [(77, 96, none)]) r m 0 1 (fun m' v => (m 86 3).toInt ≤ (m' 86 3).toInt ∧ (m' 86 3).toInt ≤ (m' 86 2).toInt ∧ (m' 86 2).toInt = (m 86 2).toInt)) 8 0 0 [.ref 86, .int 5] (mk T m n r) := by
  have Kp : fr (wl [(77, 96, none)]) m m := fr.rf
  have R0 := R
  have zR := R.2.2.2.2.1.1
  have zR2 := R.2.2.2.2.2.1
  have z82 : 0 ≤ (m 86 3).toInt ∧ (m 86 3).toInt ≤ 160 := I 86 3
  have z83 : 0 ≤ (m 86 2).toInt ∧ (m 86 2).toInt ≤ 160 := I 86 2
  refine PM.of 1 (lo := [.ref 86, .int 5, pv_U]) rfl (by decide) rfl rfl (Nat.le_of_ble_eq_true rfl) ?_
  refine pv_aload_n (M := mX7_readFactor) 0 dX7_readFactor_0 1 rfl rfl rfl ?_
  refine pv_callv (M := mX7_readFactor) (as := []) (st := []) (kc2 := 0) (ks2 := 0) dX7_readFactor_1 wd527 YX7_peek ⟨wd529, wd2⟩ (mk_get (tl86 hT)) rfl rfl (s_X7_peek g hT I R) rfl rfl (Nat.le_of_ble_eq_true rfl) (by decide) rfl rfl 4 rfl (fun rv h1 q1 => ?_)
  obtain ⟨v2, rfl, rfl, pv2, qv2, rv2⟩ := q1
  replace rv2 : v2.toInt = -1 ∨ (m 86 3).toInt < (m 86 2).toInt := rv2
  show PV _ _ _ _ _ _ _ 4 [.ref 86, .int 5, pv_U] [.int v2] _
  refine pv_bipush (M := mX7_readFactor) (v := 91) dX7_readFactor_4 6 rfl (by decide) ?_
  refine pv_icmp_ne (M := mX7_readFactor) (tgt := 42) dX7_readFactor_6 9 rfl (by decide) (fun c3 => ?_) (fun c3 => ?_)
  · have c3 := iv_ne (X := v2.toInt) (Y := 91) c3 rfl (by decide)
    refine pv_aload_n (M := mX7_readFactor) 0 dX7_readFactor_42 43 rfl rfl rfl ?_
    refine pv_callv (M := mX7_readFactor) (as := []) (st := []) (kc2 := 0) (ks2 := 0) dX7_readFactor_43 wd559 YX7_digitAhead ⟨wd561, wd9⟩ (mk_get (tl86 hT)) rfl rfl (s_X7_digitAhead g hT I R) rfl rfl (Nat.le_of_ble_eq_true rfl) (by decide) rfl rfl 46 rfl (fun rv h1 q4 => ?_)
    obtain ⟨v5, rfl, rfl, pv5, qv5, rv5⟩ := q4
    replace rv5 : v5 = 0 ∨ ((m 86 3).toInt < (m 86 2).toInt ∧ 48 ≤ (m 87 (m 86 3).toInt.toNat).toInt ∧ (m 87 (m 86 3).toInt.toNat).toInt ≤ 57) := rv5
    show PV _ _ _ _ _ _ _ 46 [.ref 86, .int 5, pv_U] [.int v5] _
    refine pv_if_eq (M := mX7_readFactor) (tgt := 54) dX7_readFactor_46 49 rfl (by decide) (fun c6 => ?_) (fun c6 => ?_)
    · have c6 := iv_eq (X := v5.toInt) (Y := 0) c6 rfl (by decide)
      refine pv_aload_n (M := mX7_readFactor) 0 dX7_readFactor_54 55 rfl rfl rfl ?_
      refine pv_callv (M := mX7_readFactor) (as := []) (st := []) (kc2 := 0) (ks2 := 0) dX7_readFactor_55 wd527 YX7_peek ⟨wd529, wd2⟩ (mk_get (tl86 hT)) rfl rfl (s_X7_peek g hT I R) rfl rfl (Nat.le_of_ble_eq_true rfl) (by decide) rfl rfl 58 rfl (fun rv h1 q7 => ?_)
      obtain ⟨v8, rfl, rfl, pv8, qv8, rv8⟩ := q7
      replace rv8 : v8.toInt = -1 ∨ (m 86 3).toInt < (m 86 2).toInt := rv8
      show PV _ _ _ _ _ _ _ 58 [.ref 86, .int 5, pv_U] [.int v8] _
      refine pv_iconst (M := mX7_readFactor) (v := (-1)) dX7_readFactor_58 59 rfl (by decide) ?_
      refine pv_icmp_ne (M := mX7_readFactor) (tgt := 66) dX7_readFactor_59 62 rfl (by decide) (fun c9 => ?_) (fun c9 => ?_)
      · have c9 := iv_ne (X := v8.toInt) (Y := (-1)) c9 rfl (by decide)
        refine pv_ldcS (M := mX7_readFactor) dX7_readFactor_66 rfl 68 rfl ?_
        refine pv_aload_n (M := mX7_readFactor) 0 dX7_readFactor_68 69 rfl rfl rfl ?_
        refine pv_callv (M := mX7_readFactor) (as := []) (st := [.retAddr (g.2.2.1 6 + 1)]) (kc2 := 0) (ks2 := 0) dX7_readFactor_69 wd527 YX7_peek ⟨wd529, wd2⟩ (mk_get (tl86 hT)) rfl rfl (s_X7_peek g hT I R) rfl rfl (Nat.le_of_ble_eq_true rfl) (by decide) rfl rfl 72 rfl (fun rv h1 q10 => ?_)
        obtain ⟨v11, rfl, rfl, pv11, qv11, rv11⟩ := q10
        replace rv11 : v11.toInt = -1 ∨ (m 86 3).toInt < (m 86 2).toInt := rv11
        show PV _ _ _ _ _ _ _ 72 [.ref 86, .int 5, pv_U] [.int v11, .retAddr (g.2.2.1 6 + 1)] _
        refine iv_i2cU (M := mX7_readFactor) dX7_readFactor_72 73 rfl (fun v12 ev12 => ?_)
        refine pv_callvS (M := mX7_readFactor) (as := [.int v12]) (st := []) (kc2 := 0) (ks2 := 0) dX7_readFactor_73 wd572 YJ0_indexOf_0f7a4 ⟨wd573, wd574⟩ rfl (s_J0_indexOf_0f7a4 g hT I v12) rfl rfl (Nat.le_of_ble_eq_true rfl) (by decide) rfl rfl 76 rfl (fun rv h1 q13 => ?_)
        obtain ⟨v14, rfl, rfl, pv14, qv14, rv14⟩ := q13
        show PV _ _ _ _ _ _ _ 76 [.ref 86, .int 5, pv_U] [.int v14] _
        refine pv_istore_n (M := mX7_readFactor) 2 (lo2 := [.ref 86, .int 5, .int v14]) dX7_readFactor_76 77 rfl rfl (by decide) rfl rfl ?_
        refine pv_iload_n (M := mX7_readFactor) 2 dX7_readFactor_77 78 rfl rfl rfl ?_
        refine pv_if_ge (M := mX7_readFactor) (tgt := 87) dX7_readFactor_78 81 rfl (by decide) (fun c15 => ?_) (fun c15 => ?_)
        · have c15 := iv_le (X := 0) (Y := v14.toInt) c15 (by decide) rfl
          refine pv_aload_n (M := mX7_readFactor) 0 dX7_readFactor_87 88 rfl rfl rfl ?_
          refine mv_get (M := mX7_readFactor) (v := .ref lb) dX7_readFactor_88 FX7 1 wd281 (by decide) (tl86 hT) rfl R.2.2.2.1 91 rfl ?_
          refine pv_bipush (M := mX7_readFactor) (v := 36) dX7_readFactor_91 93 rfl (by decide) ?_
          refine pv_iload_n (M := mX7_readFactor) 2 dX7_readFactor_93 94 rfl rfl rfl ?_
          refine pv_callv (M := mX7_readFactor) (as := [.int 36, .int v14]) (st := []) (kc2 := 0) (ks2 := 0) dX7_readFactor_94 wd567 YX6_emit ⟨wd568, wd569⟩ (mk_get R.2.2.2.2.2.2.1) rfl rfl (s_X6_emit g hT I lb R.2.2.2.2.2 36 v14 (by omega) (by omega)) rfl rfl (Nat.le_of_ble_eq_true rfl) (by decide) rfl rfl 97 rfl (fun rv h1 q16 => ?_)
          obtain ⟨m17, n18, rfl, rfl, I19, K20, rm17⟩ := q16
          have K20c := K20
          have w21 : (m17 86 3).toInt = (m 86 3).toInt := congrArg Int32.toInt (K20 86 3 (wr_out (by omega)))
          have w22 : (m17 86 2).toInt = (m 86 2).toInt := congrArg Int32.toInt (K20 86 2 (wr_out (by omega)))
          have K20 := Kp.trans (K20.sub (wr_wr (by omega) (by omega)))
          show PV _ _ _ _ _ _ _ 97 [.ref 86, .int 5, .int v14] [] _
          refine pv_aload_n (M := mX7_readFactor) 0 dX7_readFactor_97 98 rfl rfl rfl ?_
          refine pv_dup (M := mX7_readFactor) dX7_readFactor_98 99 rfl rfl ?_
          refine iv_get (M := mX7_readFactor) (l1 := 0) (l2 := 160) dX7_readFactor_99 FX7 3 wd283 (by decide) (tl86 hT) rfl I19 rfl 102 rfl (fun v23 ev23 pv23 qv23 => ?_)
          have wv23 : v23.toInt = (m17 86 3).toInt := congrArg Int32.toInt ev23
          refine pv_iconst (M := mX7_readFactor) (v := 1) dX7_readFactor_102 103 rfl (by decide) ?_
          refine iv_iadd (M := mX7_readFactor) (X := v23.toInt) (Y := 1) dX7_readFactor_103 104 rfl rfl (by decide) (by omega) (by omega) (fun v24 ev24 => ?_)
          refine iv_put (M := mX7_readFactor) (l1 := 0) (l2 := 160) dX7_readFactor_104 FX7 3 wd283 (by decide) rfl (tl86 hT) rfl rfl rfl I19 rfl (by omega) (by omega) 107 rfl (fun m25 e28 I26 => ?_)
          have K27 := K20.set e28 (wl_r (by omega) (by omega))
          have w29 : (m25 86 3).toInt = v24.toInt := by rw [e28, up2_eq]
          have w30 : (m25 86 2).toInt = (m17 86 2).toInt := by rw [e28, up2_ne (by omega)]
          refine pv_iconst (M := mX7_readFactor) (v := 1) dX7_readFactor_107 108 rfl (by decide) ?_
          have z31 : (1 : Int32).toInt = 1 := by decide
          exact pv_iret (M := mX7_readFactor) dX7_readFactor_108 rfl rfl ⟨_, _, _, rfl, rfl, I26, K27, by decide, by decide, (by refine ⟨?_, ?_, ?_⟩ <;> omega)⟩
        · have c15 := iv_nle (X := 0) (Y := v14.toInt) c15 (by decide) rfl
          refine pv_aload_n (M := mX7_readFactor) 0 dX7_readFactor_81 82 rfl rfl rfl ?_
          refine pv_iconst (M := mX7_readFactor) (v := 1) dX7_readFactor_82 83 rfl (by decide) ?_
          have z32 : (1 : Int32).toInt = 1 := by decide
          refine pv_callv (M := mX7_readFactor) (as := [.int 1]) (st := []) (kc2 := 0) (ks2 := 0) dX7_readFactor_83 wd531 YX7_fail ⟨wd533, wd3⟩ (mk_get (tl86 hT)) rfl rfl (s_X7_fail g hT I R 1 (by first | omega | assumption | exact (iv_rng _).2 | exact (iv_rng _).1 | decide)) rfl rfl (Nat.le_of_ble_eq_true rfl) (by decide) rfl rfl 86 rfl (fun rv h1 q33 => ?_)
          obtain ⟨m34, n35, v38, rfl, rfl, I36, K37, pv38, qv38, rv38⟩ := q33
          replace rv38 : v38.toInt = 0 ∧ (m 86 3).toInt ≤ (m34 86 3).toInt ∧ (m34 86 3).toInt ≤ (m34 86 2).toInt ∧ (m34 86 2).toInt = (m 86 2).toInt := rv38
          have K37c := K37
          have K37 := Kp.trans (K37.sub (fun _ _ q => q))
          show PV _ _ _ _ _ _ _ 86 [.ref 86, .int 5, .int v14] [.int v38] _
          exact pv_iret (M := mX7_readFactor) dX7_readFactor_86 rfl (iv_nz (by omega) (by omega)) ⟨_, _, _, rfl, rfl, I36, K37, by omega, by omega, (by refine ⟨?_, ?_, ?_⟩ <;> omega)⟩
      · have c9 := iv_eq (X := v8.toInt) (Y := (-1)) c9 rfl (by decide)
        refine pv_iconst (M := mX7_readFactor) (v := (-1)) dX7_readFactor_62 63 rfl (by decide) ?_
        refine pv_goto (M := mX7_readFactor) (tgt := 76) dX7_readFactor_63 (by decide) ?_
        refine pv_istore_n (M := mX7_readFactor) 2 (lo2 := [.ref 86, .int 5, .int (-1)]) dX7_readFactor_76 77 rfl rfl (by decide) rfl rfl ?_
        refine pv_iload_n (M := mX7_readFactor) 2 dX7_readFactor_77 78 rfl rfl rfl ?_
        refine pv_if_ge (M := mX7_readFactor) (tgt := 87) dX7_readFactor_78 81 rfl (by decide) (fun q => absurd q (by decide)) (fun _ => ?_)
        refine pv_aload_n (M := mX7_readFactor) 0 dX7_readFactor_81 82 rfl rfl rfl ?_
        refine pv_iconst (M := mX7_readFactor) (v := 1) dX7_readFactor_82 83 rfl (by decide) ?_
        have z40 : (1 : Int32).toInt = 1 := by decide
        refine pv_callv (M := mX7_readFactor) (as := [.int 1]) (st := []) (kc2 := 0) (ks2 := 0) dX7_readFactor_83 wd531 YX7_fail ⟨wd533, wd3⟩ (mk_get (tl86 hT)) rfl rfl (s_X7_fail g hT I R 1 (by first | omega | assumption | exact (iv_rng _).2 | exact (iv_rng _).1 | decide)) rfl rfl (Nat.le_of_ble_eq_true rfl) (by decide) rfl rfl 86 rfl (fun rv h1 q41 => ?_)
        obtain ⟨m42, n43, v46, rfl, rfl, I44, K45, pv46, qv46, rv46⟩ := q41
        replace rv46 : v46.toInt = 0 ∧ (m 86 3).toInt ≤ (m42 86 3).toInt ∧ (m42 86 3).toInt ≤ (m42 86 2).toInt ∧ (m42 86 2).toInt = (m 86 2).toInt := rv46
        have K45c := K45
        have K45 := Kp.trans (K45.sub (fun _ _ q => q))
        show PV _ _ _ _ _ _ _ 86 [.ref 86, .int 5, .int (-1)] [.int v46] _
        exact pv_iret (M := mX7_readFactor) dX7_readFactor_86 rfl (iv_nz (by omega) (by omega)) ⟨_, _, _, rfl, rfl, I44, K45, by omega, by omega, (by refine ⟨?_, ?_, ?_⟩ <;> omega)⟩
    · have pc6 := rv5.resolve_left c6
      have c6 := iv_ne (X := v5.toInt) (Y := 0) c6 rfl (by decide)
      refine pv_aload_n (M := mX7_readFactor) 0 dX7_readFactor_49 50 rfl rfl rfl ?_
      refine pv_callv (M := mX7_readFactor) (as := []) (st := []) (kc2 := 0) (ks2 := 0) dX7_readFactor_50 wd563 YX7_readNumber ⟨wd565, wd10⟩ (mk_get (tl86 hT)) rfl rfl (s_X7_readNumber g hT I R (by first | omega | assumption | exact (iv_rng _).2 | exact (iv_rng _).1 | decide)) rfl rfl (Nat.le_of_ble_eq_true rfl) (by decide) rfl rfl 53 rfl (fun rv h1 q47 => ?_)
      obtain ⟨m48, n49, v52, rfl, rfl, I50, K51, pv52, qv52, rv52⟩ := q47
      replace rv52 : (m 86 3).toInt ≤ (m48 86 3).toInt ∧ (m48 86 3).toInt ≤ (m48 86 2).toInt ∧ (m48 86 2).toInt = (m 86 2).toInt := rv52
      have K51c := K51
      have K51 := Kp.trans (K51.sub (fun _ _ q => q))
      show PV _ _ _ _ _ _ _ 53 [.ref 86, .int 5, pv_U] [.int v52] _
      exact pv_iret (M := mX7_readFactor) dX7_readFactor_53 rfl (iv_nz (by omega) (by omega)) ⟨_, _, _, rfl, rfl, I50, K51, by omega, by omega, (by refine ⟨?_, ?_, ?_⟩ <;> omega)⟩
  · have c3 := iv_eq (X := v2.toInt) (Y := 91) c3 rfl (by decide)
    refine pv_aload_n (M := mX7_readFactor) 0 dX7_readFactor_9 10 rfl rfl rfl ?_
    refine pv_iload_n (M := mX7_readFactor) 1 dX7_readFactor_10 11 rfl rfl rfl ?_
    have z53 : (5 : Int32).toInt = 5 := by decide
    refine pv_callv (M := mX7_readFactor) (as := [.int 5]) (st := []) (kc2 := 0) (ks2 := 0) dX7_readFactor_11 wd551 YX7_open ⟨wd553, wd7⟩ (mk_get (tl86 hT)) rfl rfl (s_X7_open g hT I R 5 (by first | omega | assumption | exact (iv_rng _).2 | exact (iv_rng _).1 | decide)) rfl rfl (Nat.le_of_ble_eq_true rfl) (by decide) rfl rfl 14 rfl (fun rv h1 q54 => ?_)
    obtain ⟨m55, n56, v59, rfl, rfl, I57, K58, pv59, qv59, rv59⟩ := q54
    replace rv59 : (v59 = 0 ∨ (5 : Int) ≤ 5) ∧ (m 86 3).toInt ≤ (m55 86 3).toInt ∧ (m55 86 3).toInt ≤ (m55 86 2).toInt ∧ (m55 86 2).toInt = (m 86 2).toInt := by have q_ := rv59; (try rw [z53] at q_); exact q_
    have K58c := K58
    have K58 := Kp.trans (K58.sub (fun _ _ q => q))
    show PV _ _ _ _ _ _ _ 14 [.ref 86, .int 5, pv_U] [.int v59] _
    refine pv_if_eq (M := mX7_readFactor) (tgt := 40) dX7_readFactor_14 17 rfl (by decide) (fun c60 => ?_) (fun c60 => ?_)
    · have c60 := iv_eq (X := v59.toInt) (Y := 0) c60 rfl (by decide)
      refine pv_iconst (M := mX7_readFactor) (v := 0) dX7_readFactor_40 41 rfl (by decide) ?_
      have z61 : (0 : Int32).toInt = 0 := by decide
      exact pv_iret (M := mX7_readFactor) dX7_readFactor_41 rfl rfl ⟨_, _, _, rfl, rfl, I57, K58, by decide, by decide, (by refine ⟨?_, ?_, ?_⟩ <;> omega)⟩
    · have pc60 := rv59.1.resolve_left c60
      have c60 := iv_ne (X := v59.toInt) (Y := 0) c60 rfl (by decide)
      refine pv_aload_n (M := mX7_readFactor) 0 dX7_readFactor_17 18 rfl rfl rfl ?_
      refine pv_iload_n (M := mX7_readFactor) 1 dX7_readFactor_18 19 rfl rfl rfl ?_
      refine pv_iconst (M := mX7_readFactor) (v := 1) dX7_readFactor_19 20 rfl (by decide) ?_
      refine pv_iadd (M := mX7_readFactor) (v := 6) dX7_readFactor_20 21 rfl (by decide) ?_
      have z63 : (6 : Int32).toInt = 6 := by decide
      refine pv_callv (M := mX7_readFactor) (as := [.int 6]) (st := []) (kc2 := 0) (ks2 := 0) dX7_readFactor_21 wd539 YX7_readSum ⟨wd541, wd4⟩ (mk_get (tl86 hT)) rfl rfl (s_X7_readSum_v6 g hT I57 R (by first | omega | assumption | exact (iv_rng _).2 | exact (iv_rng _).1 | decide)) rfl rfl (Nat.le_of_ble_eq_true rfl) (by decide) rfl rfl 24 rfl (fun rv h1 q64 => ?_)
      obtain ⟨m65, n66, v69, rfl, rfl, I67, K68, pv69, qv69, rv69⟩ := q64
      replace rv69 : (m55 86 3).toInt ≤ (m65 86 3).toInt ∧ (m65 86 3).toInt ≤ (m65 86 2).toInt ∧ (m65 86 2).toInt = (m55 86 2).toInt := rv69
      have K68c := K68
      have K68 := K58.trans (K68.sub (fun _ _ q => q))
      show PV _ _ _ _ _ _ _ 24 [.ref 86, .int 5, pv_U] [.int v69] _
      refine pv_if_eq (M := mX7_readFactor) (tgt := 40) dX7_readFactor_24 27 rfl (by decide) (fun c70 => ?_) (fun c70 => ?_)
      · have c70 := iv_eq (X := v69.toInt) (Y := 0) c70 rfl (by decide)
        refine pv_iconst (M := mX7_readFactor) (v := 0) dX7_readFactor_40 41 rfl (by decide) ?_
        have z71 : (0 : Int32).toInt = 0 := by decide
        exact pv_iret (M := mX7_readFactor) dX7_readFactor_41 rfl rfl ⟨_, _, _, rfl, rfl, I67, K68, by decide, by decide, (by refine ⟨?_, ?_, ?_⟩ <;> omega)⟩
      · have c70 := iv_ne (X := v69.toInt) (Y := 0) c70 rfl (by decide)
        refine pv_aload_n (M := mX7_readFactor) 0 dX7_readFactor_27 28 rfl rfl rfl ?_
        refine pv_bipush (M := mX7_readFactor) (v := 93) dX7_readFactor_28 30 rfl (by decide) ?_
        have z72 : (93 : Int32).toInt = 93 := by decide
        refine pv_callv (M := mX7_readFactor) (as := [.int 93]) (st := []) (kc2 := 0) (ks2 := 0) dX7_readFactor_30 wd555 YX7_pass ⟨wd557, wd8⟩ (mk_get (tl86 hT)) rfl rfl (s_X7_pass g hT I67 R 93 (by decide) (by decide) (by first | omega | assumption | exact (iv_rng _).2 | exact (iv_rng _).1 | decide)) rfl rfl (Nat.le_of_ble_eq_true rfl) (by decide) rfl rfl 33 rfl (fun rv h1 q73 => ?_)
        obtain ⟨m74, n75, v78, rfl, rfl, I76, K77, pv78, qv78, rv78⟩ := q73
        replace rv78 : (m65 86 3).toInt ≤ (m74 86 3).toInt ∧ (m74 86 3).toInt ≤ (m74 86 2).toInt ∧ (m74 86 2).toInt = (m65 86 2).toInt := rv78
        have K77c := K77
        have K77 := K68.trans (K77.sub (fun _ _ q => q))
        show PV _ _ _ _ _ _ _ 33 [.ref 86, .int 5, pv_U] [.int v78] _
        refine pv_if_eq (M := mX7_readFactor) (tgt := 40) dX7_readFactor_33 36 rfl (by decide) (fun c79 => ?_) (fun c79 => ?_)
        · have c79 := iv_eq (X := v78.toInt) (Y := 0) c79 rfl (by decide)
          refine pv_iconst (M := mX7_readFactor) (v := 0) dX7_readFactor_40 41 rfl (by decide) ?_
          have z80 : (0 : Int32).toInt = 0 := by decide
          exact pv_iret (M := mX7_readFactor) dX7_readFactor_41 rfl rfl ⟨_, _, _, rfl, rfl, I76, K77, by decide, by decide, (by refine ⟨?_, ?_, ?_⟩ <;> omega)⟩
        · have c79 := iv_ne (X := v78.toInt) (Y := 0) c79 rfl (by decide)
          refine pv_iconst (M := mX7_readFactor) (v := 1) dX7_readFactor_36 37 rfl (by decide) ?_
          refine pv_goto (M := mX7_readFactor) (tgt := 41) dX7_readFactor_37 (by decide) ?_
          have z81 : (1 : Int32).toInt = 1 := by decide
          exact pv_iret (M := mX7_readFactor) dX7_readFactor_41 rfl rfl ⟨_, _, _, rfl, rfl, I76, K77, by decide, by decide, (by refine ⟨?_, ?_, ?_⟩ <;> omega)⟩

set_option maxHeartbeats 2000000 in
set_option maxRecDepth 20000 in
theorem s_X7_readTerm_v5 (g : pv_G) {T : List mv_T} {m : Nat → Nat → Int32} {n : Nat → Nat → Int64} {r : Nat → Value} {la lb : Nat} (hT : TX T) (I : IV BB m) (R : RX T r la lb) (hp0 : (m 86 3).toInt ≤ (m 86 2).toInt) : PM g mX7_readTerm yX7_readTerm (sqI T BB (wl [(77, 96, none)]) r m 0 1 (fun m' v => (m 86 3).toInt ≤ (m' 86 3).toInt ∧ (m' 86 3).toInt ≤ (m' 86 2).toInt ∧ (m' 86 2).toInt = (m 86 2).toInt)) 9 0 0 [.ref 86, .int 5] (mk T m n r) := by
  have Kp : fr (wl [(77, 96, none)]) m m := fr.rf
  have R0 := R
  have zR := R.2.2.2.2.1.1
  have zR2 := R.2.2.2.2.2.1
  have z60 : 0 ≤ (m 86 3).toInt ∧ (m 86 3).toInt ≤ 160 := I 86 3
  have z61 : 0 ≤ (m 86 2).toInt ∧ (m 86 2).toInt ≤ 160 := I 86 2
  refine PM.of 2 (lo := [.ref 86, .int 5, pv_U, pv_U]) rfl (by decide) rfl rfl (Nat.le_of_ble_eq_true rfl) ?_
  refine pv_aload_n (M := mX7_readTerm) 0 dX7_readTerm_0 1 rfl rfl rfl ?_
  refine pv_iload_n (M := mX7_readTerm) 1 dX7_readTerm_1 2 rfl rfl rfl ?_
  have z1 : (5 : Int32).toInt = 5 := by decide
  refine pv_callv (M := mX7_readTerm) (as := [.int 5]) (st := []) (kc2 := 0) (ks2 := 0) dX7_readTerm_2 wd547 YX7_readFactor ⟨wd549, wd6⟩ (mk_get (tl86 hT)) rfl rfl (s_X7_readFactor_v5 g hT I R (by first | omega | assumption | exact (iv_rng _).2 | exact (iv_rng _).1 | decide)) rfl rfl (Nat.le_of_ble_eq_true rfl) (by decide) rfl rfl 5 rfl (fun rv h1 q2 => ?_)
  obtain ⟨m3, n4, v7, rfl, rfl, I5, K6, pv7, qv7, rv7⟩ := q2
  replace rv7 : (m 86 3).toInt ≤ (m3 86 3).toInt ∧ (m3 86 3).toInt ≤ (m3 86 2).toInt ∧ (m3 86 2).toInt = (m 86 2).toInt := rv7
  have K6c := K6
  have K6 := Kp.trans (K6.sub (fun _ _ q => q))
  show PV _ _ _ _ _ _ _ 5 [.ref 86, .int 5, pv_U, pv_U] [.int v7] _
  refine pv_if_ne (M := mX7_readTerm) (tgt := 10) dX7_readTerm_5 8 rfl (by decide) (fun c8 => ?_) (fun c8 => ?_)
  · have c8 := iv_ne (X := v7.toInt) (Y := 0) c8 rfl (by decide)
    refine pv_iconst (M := mX7_readTerm) (v := 0) dX7_readTerm_10 11 rfl (by decide) ?_
    refine pv_istore_n (M := mX7_readTerm) 2 (lo2 := [.ref 86, .int 5, .int 0, pv_U]) dX7_readTerm_11 12 rfl rfl (by decide) rfl rfl ?_
    have lp15 : ∀ (fuel14 : Nat) (y9 : Int32) (m10 : Nat → Nat → Int32) (n11 : Nat → Nat → Int64), (0 ≤ y9.toInt) → (y9.toInt ≤ 160) → ((m 86 3).toInt ≤ (m10 86 3).toInt) → ((m10 86 3).toInt ≤ (m10 86 2).toInt) → ((m10 86 2).toInt = (m 86 2).toInt) → IV BB m10 → fr (wl [(77, 96, none)]) m m10 → ((160 - y9.toInt) : Int).toNat < fuel14 → PV none g mX7_readTerm (sqI T BB (wl [(77, 96, none)]) r m 0 1 (fun m' v => (m 86 3).toInt ≤ (m' 86 3).toInt ∧ (m' 86 3).toInt ≤ (m' 86 2).toInt ∧ (m' 86 2).toInt = (m 86 2).toInt)) 9 0 0 12 [.ref 86, .int 5, .int y9, pv_U] [] (mk T m10 n11 r) := by
      intro fuel14
      induction fuel14 with
      | zero => intro y9 m10 n11 b17 b18 b19 b20 b21 I12 K13 z22; omega
      | succ fuel14 ih16 =>
        intro y9 m10 n11 b17 b18 b19 b20 b21 I12 K13 z22
        have z23 : 0 ≤ (m10 86 3).toInt ∧ (m10 86 3).toInt ≤ 160 := I12 86 3
        have z24 : 0 ≤ (m10 86 2).toInt ∧ (m10 86 2).toInt ≤ 160 := I12 86 2
        refine pv_iload_n (M := mX7_readTerm) 2 dX7_readTerm_12 13 rfl rfl rfl ?_
        refine pv_sipush (M := mX7_readTerm) (v := 160) dX7_readTerm_13 16 rfl (by decide) ?_
        refine pv_icmp_ge (M := mX7_readTerm) (tgt := 66) dX7_readTerm_16 19 rfl (by decide) (fun c25 => ?_) (fun c25 => ?_)
        · have c25 := iv_le (X := 160) (Y := y9.toInt) c25 (by decide) rfl
          refine pv_iconst (M := mX7_readTerm) (v := 1) dX7_readTerm_66 67 rfl (by decide) ?_
          have z26 : (1 : Int32).toInt = 1 := by decide
          exact pv_iret (M := mX7_readTerm) dX7_readTerm_67 rfl rfl ⟨_, _, _, rfl, rfl, I12, K13, by decide, by decide, (by refine ⟨?_, ?_, ?_⟩ <;> omega)⟩
        · have c25 := iv_nle (X := 160) (Y := y9.toInt) c25 (by decide) rfl
          refine pv_aload_n (M := mX7_readTerm) 0 dX7_readTerm_19 20 rfl rfl rfl ?_
          refine pv_callv (M := mX7_readTerm) (as := []) (st := []) (kc2 := 0) (ks2 := 0) dX7_readTerm_20 wd654 YX7_timesAhead ⟨wd656, wd11⟩ (mk_get (tl86 hT)) rfl rfl (s_X7_timesAhead g hT I12 R) rfl rfl (Nat.le_of_ble_eq_true rfl) (by decide) rfl rfl 23 rfl (fun rv h1 q27 => ?_)
          obtain ⟨v28, rfl, rfl, pv28, qv28, rv28⟩ := q27
          replace rv28 : v28 = 0 ∨ (m10 86 3).toInt < (m10 86 2).toInt := rv28
          show PV _ _ _ _ _ _ _ 23 [.ref 86, .int 5, .int y9, pv_U] [.int v28] _
          refine pv_if_eq (M := mX7_readTerm) (tgt := 66) dX7_readTerm_23 26 rfl (by decide) (fun c29 => ?_) (fun c29 => ?_)
          · have c29 := iv_eq (X := v28.toInt) (Y := 0) c29 rfl (by decide)
            refine pv_iconst (M := mX7_readTerm) (v := 1) dX7_readTerm_66 67 rfl (by decide) ?_
            have z30 : (1 : Int32).toInt = 1 := by decide
            exact pv_iret (M := mX7_readTerm) dX7_readTerm_67 rfl rfl ⟨_, _, _, rfl, rfl, I12, K13, by decide, by decide, (by refine ⟨?_, ?_, ?_⟩ <;> omega)⟩
          · have pc29 := rv28.resolve_left c29
            have c29 := iv_ne (X := v28.toInt) (Y := 0) c29 rfl (by decide)
            refine pv_aload_n (M := mX7_readTerm) 0 dX7_readTerm_26 27 rfl rfl rfl ?_
            refine pv_callv (M := mX7_readTerm) (as := []) (st := []) (kc2 := 0) (ks2 := 0) dX7_readTerm_27 wd527 YX7_peek ⟨wd529, wd2⟩ (mk_get (tl86 hT)) rfl rfl (s_X7_peek g hT I12 R) rfl rfl (Nat.le_of_ble_eq_true rfl) (by decide) rfl rfl 30 rfl (fun rv h1 q31 => ?_)
            obtain ⟨v32, rfl, rfl, pv32, qv32, rv32⟩ := q31
            replace rv32 : v32.toInt = -1 ∨ (m10 86 3).toInt < (m10 86 2).toInt := rv32
            show PV _ _ _ _ _ _ _ 30 [.ref 86, .int 5, .int y9, pv_U] [.int v32] _
            refine pv_istore_n (M := mX7_readTerm) 3 (lo2 := [.ref 86, .int 5, .int y9, .int v32]) dX7_readTerm_30 31 rfl rfl (by decide) rfl rfl ?_
            refine pv_aload_n (M := mX7_readTerm) 0 dX7_readTerm_31 32 rfl rfl rfl ?_
            refine pv_dup (M := mX7_readTerm) dX7_readTerm_32 33 rfl rfl ?_
            refine iv_get (M := mX7_readTerm) (l1 := 0) (l2 := 160) dX7_readTerm_33 FX7 3 wd283 (by decide) (tl86 hT) rfl I12 rfl 36 rfl (fun v33 ev33 pv33 qv33 => ?_)
            have wv33 : v33.toInt = (m10 86 3).toInt := congrArg Int32.toInt ev33
            refine pv_iconst (M := mX7_readTerm) (v := 1) dX7_readTerm_36 37 rfl (by decide) ?_
            refine iv_iadd (M := mX7_readTerm) (X := v33.toInt) (Y := 1) dX7_readTerm_37 38 rfl rfl (by decide) (by omega) (by omega) (fun v34 ev34 => ?_)
            refine iv_put (M := mX7_readTerm) (l1 := 0) (l2 := 160) dX7_readTerm_38 FX7 3 wd283 (by decide) rfl (tl86 hT) rfl rfl rfl I12 rfl (by omega) (by omega) 41 rfl (fun m35 e38 I36 => ?_)
            have K37 := K13.set e38 (wl_r (by omega) (by omega))
            have w39 : (m35 86 3).toInt = v34.toInt := by rw [e38, up2_eq]
            have w40 : (m35 86 2).toInt = (m10 86 2).toInt := by rw [e38, up2_ne (by omega)]
            refine pv_aload_n (M := mX7_readTerm) 0 dX7_readTerm_41 42 rfl rfl rfl ?_
            refine pv_iload_n (M := mX7_readTerm) 1 dX7_readTerm_42 43 rfl rfl rfl ?_
            have z41 : (5 : Int32).toInt = 5 := by decide
            refine pv_callv (M := mX7_readTerm) (as := [.int 5]) (st := []) (kc2 := 0) (ks2 := 0) dX7_readTerm_43 wd547 YX7_readFactor ⟨wd549, wd6⟩ (mk_get (tl86 hT)) rfl rfl (s_X7_readFactor_v5 g hT I36 R (by first | omega | assumption | exact (iv_rng _).2 | exact (iv_rng _).1 | decide)) rfl rfl (Nat.le_of_ble_eq_true rfl) (by decide) rfl rfl 46 rfl (fun rv h1 q42 => ?_)
            obtain ⟨m43, n44, v47, rfl, rfl, I45, K46, pv47, qv47, rv47⟩ := q42
            replace rv47 : (m35 86 3).toInt ≤ (m43 86 3).toInt ∧ (m43 86 3).toInt ≤ (m43 86 2).toInt ∧ (m43 86 2).toInt = (m35 86 2).toInt := rv47
            have K46c := K46
            have K46 := K37.trans (K46.sub (fun _ _ q => q))
            show PV _ _ _ _ _ _ _ 46 [.ref 86, .int 5, .int y9, .int v32] [.int v47] _
            refine pv_if_ne (M := mX7_readTerm) (tgt := 51) dX7_readTerm_46 49 rfl (by decide) (fun c48 => ?_) (fun c48 => ?_)
            · have c48 := iv_ne (X := v47.toInt) (Y := 0) c48 rfl (by decide)
              refine pv_aload_n (M := mX7_readTerm) 0 dX7_readTerm_51 52 rfl rfl rfl ?_
              refine mv_get (M := mX7_readTerm) (v := .ref lb) dX7_readTerm_52 FX7 1 wd281 (by decide) (tl86 hT) rfl R.2.2.2.1 55 rfl ?_
              refine pv_iload_n (M := mX7_readTerm) 3 dX7_readTerm_55 56 rfl rfl rfl ?_
              refine pv_iconst (M := mX7_readTerm) (v := 0) dX7_readTerm_56 57 rfl (by decide) ?_
              refine pv_callv (M := mX7_readTerm) (as := [.int v32, .int 0]) (st := []) (kc2 := 0) (ks2 := 0) dX7_readTerm_57 wd567 YX6_emit ⟨wd568, wd569⟩ (mk_get R.2.2.2.2.2.2.1) rfl rfl (s_X6_emit g hT I45 lb R.2.2.2.2.2 v32 0 (by decide) (by decide)) rfl rfl (Nat.le_of_ble_eq_true rfl) (by decide) rfl rfl 60 rfl (fun rv h1 q49 => ?_)
              obtain ⟨m50, n51, rfl, rfl, I52, K53, rm50⟩ := q49
              have K53c := K53
              have w54 : (m50 86 3).toInt = (m43 86 3).toInt := congrArg Int32.toInt (K53 86 3 (wr_out (by omega)))
              have w55 : (m50 86 2).toInt = (m43 86 2).toInt := congrArg Int32.toInt (K53 86 2 (wr_out (by omega)))
              have K53 := K46.trans (K53.sub (wr_wr (by omega) (by omega)))
              show PV _ _ _ _ _ _ _ 60 [.ref 86, .int 5, .int y9, .int v32] [] _
              refine iv_inc (M := mX7_readTerm) (C := 1) dX7_readTerm_60 63 rfl rfl (by decide) rfl rfl (by decide) (by omega) (by omega) (fun v56 ev56 => ?_)
              show PV _ _ _ _ _ _ _ 63 [.ref 86, .int 5, .int v56, .int v32] [] _
              refine pv_goto (M := mX7_readTerm) (tgt := 12) dX7_readTerm_63 (by decide) ?_
              refine pv_fg (lo2 := [.ref 86, .int 5, .int v56, pv_U]) ⟨Or.inr rfl, ⟨Or.inr rfl, ⟨Or.inr rfl, ⟨Or.inl rfl, trivial⟩⟩⟩⟩ ?_
              exact ih16 v56 m50 n51 (by first | omega | assumption | exact (iv_rng _).2 | exact (iv_rng _).1 | decide) (by first | omega | assumption | exact (iv_rng _).2 | exact (iv_rng _).1 | decide) (by first | omega | assumption | (show (m 86 3).toInt ≤ (m50 86 3).toInt; omega) | decide) (by first | omega | assumption | (show (m50 86 3).toInt ≤ (m50 86 2).toInt; omega) | decide) (by first | omega | assumption | (show (m50 86 2).toInt = (m 86 2).toInt; omega) | decide) I52 K53 (by omega)
            · have c48 := iv_eq (X := v47.toInt) (Y := 0) c48 rfl (by decide)
              refine pv_iconst (M := mX7_readTerm) (v := 0) dX7_readTerm_49 50 rfl (by decide) ?_
              have z57 : (0 : Int32).toInt = 0 := by decide
              exact pv_iret (M := mX7_readTerm) dX7_readTerm_50 rfl rfl ⟨_, _, _, rfl, rfl, I45, K46, by decide, by decide, (by refine ⟨?_, ?_, ?_⟩ <;> omega)⟩
    have z58 : (0 : Int32).toInt = 0 := by decide
    exact lp15 (((160 - 0) : Int).toNat + 1) 0 m3 n4 (by first | omega | assumption | exact (iv_rng _).2 | exact (iv_rng _).1 | decide) (by first | omega | assumption | exact (iv_rng _).2 | exact (iv_rng _).1 | decide) (by first | omega | assumption | (show (m 86 3).toInt ≤ (m3 86 3).toInt; omega) | decide) (by first | omega | assumption | (show (m3 86 3).toInt ≤ (m3 86 2).toInt; omega) | decide) (by first | omega | assumption | (show (m3 86 2).toInt = (m 86 2).toInt; omega) | decide) I5 K6 (by omega)
  · have c8 := iv_eq (X := v7.toInt) (Y := 0) c8 rfl (by decide)
    refine pv_iconst (M := mX7_readTerm) (v := 0) dX7_readTerm_8 9 rfl (by decide) ?_
    have z59 : (0 : Int32).toInt = 0 := by decide
    exact pv_iret (M := mX7_readTerm) dX7_readTerm_9 rfl rfl ⟨_, _, _, rfl, rfl, I5, K6, by decide, by decide, (by refine ⟨?_, ?_, ?_⟩ <;> omega)⟩

set_option maxHeartbeats 2000000 in
set_option maxRecDepth 20000 in
theorem s_X7_readSum_v5 (g : pv_G) {T : List mv_T} {m : Nat → Nat → Int32} {n : Nat → Nat → Int64} {r : Nat → Value} {la lb : Nat} (hT : TX T) (I : IV BB m) (R : RX T r la lb) (hp0 : (m 86 3).toInt ≤ (m 86 2).toInt) : PM g mX7_readSum yX7_readSum (sqI T BB (wl [(77, 96, none)]) r m 0 1 (fun m' v => (m 86 3).toInt ≤ (m' 86 3).toInt ∧ (m' 86 3).toInt ≤ (m' 86 2).toInt ∧ (m' 86 2).toInt = (m 86 2).toInt)) 10 0 0 [.ref 86, .int 5] (mk T m n r) := by
  have Kp : fr (wl [(77, 96, none)]) m m := fr.rf
  have R0 := R
  have zR := R.2.2.2.2.1.1
  have zR2 := R.2.2.2.2.2.1
  have z90 : 0 ≤ (m 86 3).toInt ∧ (m 86 3).toInt ≤ 160 := I 86 3
  have z91 : 0 ≤ (m 86 2).toInt ∧ (m 86 2).toInt ≤ 160 := I 86 2
  refine PM.of 2 (lo := [.ref 86, .int 5, pv_U, pv_U]) rfl (by decide) rfl rfl (Nat.le_of_ble_eq_true rfl) ?_
  refine pv_aload_n (M := mX7_readSum) 0 dX7_readSum_0 1 rfl rfl rfl ?_
  refine pv_iload_n (M := mX7_readSum) 1 dX7_readSum_1 2 rfl rfl rfl ?_
  have z1 : (5 : Int32).toInt = 5 := by decide
  refine pv_callv (M := mX7_readSum) (as := [.int 5]) (st := []) (kc2 := 0) (ks2 := 0) dX7_readSum_2 wd543 YX7_readTerm ⟨wd545, wd5⟩ (mk_get (tl86 hT)) rfl rfl (s_X7_readTerm_v5 g hT I R (by first | omega | assumption | exact (iv_rng _).2 | exact (iv_rng _).1 | decide)) rfl rfl (Nat.le_of_ble_eq_true rfl) (by decide) rfl rfl 5 rfl (fun rv h1 q2 => ?_)
  obtain ⟨m3, n4, v7, rfl, rfl, I5, K6, pv7, qv7, rv7⟩ := q2
  replace rv7 : (m 86 3).toInt ≤ (m3 86 3).toInt ∧ (m3 86 3).toInt ≤ (m3 86 2).toInt ∧ (m3 86 2).toInt = (m 86 2).toInt := rv7
  have K6c := K6
  have K6 := Kp.trans (K6.sub (fun _ _ q => q))
  show PV _ _ _ _ _ _ _ 5 [.ref 86, .int 5, pv_U, pv_U] [.int v7] _
  refine pv_if_ne (M := mX7_readSum) (tgt := 10) dX7_readSum_5 8 rfl (by decide) (fun c8 => ?_) (fun c8 => ?_)
  · have c8 := iv_ne (X := v7.toInt) (Y := 0) c8 rfl (by decide)
    refine pv_iconst (M := mX7_readSum) (v := 0) dX7_readSum_10 11 rfl (by decide) ?_
    refine pv_istore_n (M := mX7_readSum) 2 (lo2 := [.ref 86, .int 5, .int 0, pv_U]) dX7_readSum_11 12 rfl rfl (by decide) rfl rfl ?_
    have lp15 : ∀ (fuel14 : Nat) (y9 : Int32) (m10 : Nat → Nat → Int32) (n11 : Nat → Nat → Int64), (0 ≤ y9.toInt) → (y9.toInt ≤ 160) → ((m 86 3).toInt ≤ (m10 86 3).toInt) → ((m10 86 3).toInt ≤ (m10 86 2).toInt) → ((m10 86 2).toInt = (m 86 2).toInt) → IV BB m10 → fr (wl [(77, 96, none)]) m m10 → ((160 - y9.toInt) : Int).toNat < fuel14 → PV none g mX7_readSum (sqI T BB (wl [(77, 96, none)]) r m 0 1 (fun m' v => (m 86 3).toInt ≤ (m' 86 3).toInt ∧ (m' 86 3).toInt ≤ (m' 86 2).toInt ∧ (m' 86 2).toInt = (m 86 2).toInt)) 10 0 0 12 [.ref 86, .int 5, .int y9, pv_U] [] (mk T m10 n11 r) := by
      intro fuel14
      induction fuel14 with
      | zero => intro y9 m10 n11 b17 b18 b19 b20 b21 I12 K13 z22; omega
      | succ fuel14 ih16 =>
        intro y9 m10 n11 b17 b18 b19 b20 b21 I12 K13 z22
        have z23 : 0 ≤ (m10 86 3).toInt ∧ (m10 86 3).toInt ≤ 160 := I12 86 3
        have z24 : 0 ≤ (m10 86 2).toInt ∧ (m10 86 2).toInt ≤ 160 := I12 86 2
        refine pv_iload_n (M := mX7_readSum) 2 dX7_readSum_12 13 rfl rfl rfl ?_
        refine pv_sipush (M := mX7_readSum) (v := 160) dX7_readSum_13 16 rfl (by decide) ?_
        refine pv_icmp_ge (M := mX7_readSum) (tgt := 77) dX7_readSum_16 19 rfl (by decide) (fun c25 => ?_) (fun c25 => ?_)
        · have c25 := iv_le (X := 160) (Y := y9.toInt) c25 (by decide) rfl
          refine pv_iconst (M := mX7_readSum) (v := 1) dX7_readSum_77 78 rfl (by decide) ?_
          have z26 : (1 : Int32).toInt = 1 := by decide
          exact pv_iret (M := mX7_readSum) dX7_readSum_78 rfl rfl ⟨_, _, _, rfl, rfl, I12, K13, by decide, by decide, (by refine ⟨?_, ?_, ?_⟩ <;> omega)⟩
        · have c25 := iv_nle (X := 160) (Y := y9.toInt) c25 (by decide) rfl
          refine pv_aload_n (M := mX7_readSum) 0 dX7_readSum_19 20 rfl rfl rfl ?_
          refine pv_callv (M := mX7_readSum) (as := []) (st := []) (kc2 := 0) (ks2 := 0) dX7_readSum_20 wd527 YX7_peek ⟨wd529, wd2⟩ (mk_get (tl86 hT)) rfl rfl (s_X7_peek g hT I12 R) rfl rfl (Nat.le_of_ble_eq_true rfl) (by decide) rfl rfl 23 rfl (fun rv h1 q27 => ?_)
          obtain ⟨v28, rfl, rfl, pv28, qv28, rv28⟩ := q27
          replace rv28 : v28.toInt = -1 ∨ (m10 86 3).toInt < (m10 86 2).toInt := rv28
          show PV _ _ _ _ _ _ _ 23 [.ref 86, .int 5, .int y9, pv_U] [.int v28] _
          refine pv_bipush (M := mX7_readSum) (v := 43) dX7_readSum_23 25 rfl (by decide) ?_
          refine pv_icmp_eq (M := mX7_readSum) (tgt := 37) dX7_readSum_25 28 rfl (by decide) (fun c29 => ?_) (fun c29 => ?_)
          · have c29 := iv_eq (X := v28.toInt) (Y := 43) c29 rfl (by decide)
            refine pv_aload_n (M := mX7_readSum) 0 dX7_readSum_37 38 rfl rfl rfl ?_
            refine pv_callv (M := mX7_readSum) (as := []) (st := []) (kc2 := 0) (ks2 := 0) dX7_readSum_38 wd527 YX7_peek ⟨wd529, wd2⟩ (mk_get (tl86 hT)) rfl rfl (s_X7_peek g hT I12 R) rfl rfl (Nat.le_of_ble_eq_true rfl) (by decide) rfl rfl 41 rfl (fun rv h1 q30 => ?_)
            obtain ⟨v31, rfl, rfl, pv31, qv31, rv31⟩ := q30
            replace rv31 : v31.toInt = -1 ∨ (m10 86 3).toInt < (m10 86 2).toInt := rv31
            show PV _ _ _ _ _ _ _ 41 [.ref 86, .int 5, .int y9, pv_U] [.int v31] _
            refine pv_istore_n (M := mX7_readSum) 3 (lo2 := [.ref 86, .int 5, .int y9, .int v31]) dX7_readSum_41 42 rfl rfl (by decide) rfl rfl ?_
            refine pv_aload_n (M := mX7_readSum) 0 dX7_readSum_42 43 rfl rfl rfl ?_
            refine pv_dup (M := mX7_readSum) dX7_readSum_43 44 rfl rfl ?_
            refine iv_get (M := mX7_readSum) (l1 := 0) (l2 := 160) dX7_readSum_44 FX7 3 wd283 (by decide) (tl86 hT) rfl I12 rfl 47 rfl (fun v32 ev32 pv32 qv32 => ?_)
            have wv32 : v32.toInt = (m10 86 3).toInt := congrArg Int32.toInt ev32
            refine pv_iconst (M := mX7_readSum) (v := 1) dX7_readSum_47 48 rfl (by decide) ?_
            refine iv_iadd (M := mX7_readSum) (X := v32.toInt) (Y := 1) dX7_readSum_48 49 rfl rfl (by decide) (by omega) (by omega) (fun v33 ev33 => ?_)
            refine iv_put (M := mX7_readSum) (l1 := 0) (l2 := 160) dX7_readSum_49 FX7 3 wd283 (by decide) rfl (tl86 hT) rfl rfl rfl I12 rfl (by omega) (by omega) 52 rfl (fun m34 e37 I35 => ?_)
            have K36 := K13.set e37 (wl_r (by omega) (by omega))
            have w38 : (m34 86 3).toInt = v33.toInt := by rw [e37, up2_eq]
            have w39 : (m34 86 2).toInt = (m10 86 2).toInt := by rw [e37, up2_ne (by omega)]
            refine pv_aload_n (M := mX7_readSum) 0 dX7_readSum_52 53 rfl rfl rfl ?_
            refine pv_iload_n (M := mX7_readSum) 1 dX7_readSum_53 54 rfl rfl rfl ?_
            have z40 : (5 : Int32).toInt = 5 := by decide
            refine pv_callv (M := mX7_readSum) (as := [.int 5]) (st := []) (kc2 := 0) (ks2 := 0) dX7_readSum_54 wd543 YX7_readTerm ⟨wd545, wd5⟩ (mk_get (tl86 hT)) rfl rfl (s_X7_readTerm_v5 g hT I35 R (by first | omega | assumption | exact (iv_rng _).2 | exact (iv_rng _).1 | decide)) rfl rfl (Nat.le_of_ble_eq_true rfl) (by decide) rfl rfl 57 rfl (fun rv h1 q41 => ?_)
            obtain ⟨m42, n43, v46, rfl, rfl, I44, K45, pv46, qv46, rv46⟩ := q41
            replace rv46 : (m34 86 3).toInt ≤ (m42 86 3).toInt ∧ (m42 86 3).toInt ≤ (m42 86 2).toInt ∧ (m42 86 2).toInt = (m34 86 2).toInt := rv46
            have K45c := K45
            have K45 := K36.trans (K45.sub (fun _ _ q => q))
            show PV _ _ _ _ _ _ _ 57 [.ref 86, .int 5, .int y9, .int v31] [.int v46] _
            refine pv_if_ne (M := mX7_readSum) (tgt := 62) dX7_readSum_57 60 rfl (by decide) (fun c47 => ?_) (fun c47 => ?_)
            · have c47 := iv_ne (X := v46.toInt) (Y := 0) c47 rfl (by decide)
              refine pv_aload_n (M := mX7_readSum) 0 dX7_readSum_62 63 rfl rfl rfl ?_
              refine mv_get (M := mX7_readSum) (v := .ref lb) dX7_readSum_63 FX7 1 wd281 (by decide) (tl86 hT) rfl R.2.2.2.1 66 rfl ?_
              refine pv_iload_n (M := mX7_readSum) 3 dX7_readSum_66 67 rfl rfl rfl ?_
              refine pv_iconst (M := mX7_readSum) (v := 0) dX7_readSum_67 68 rfl (by decide) ?_
              refine pv_callv (M := mX7_readSum) (as := [.int v31, .int 0]) (st := []) (kc2 := 0) (ks2 := 0) dX7_readSum_68 wd567 YX6_emit ⟨wd568, wd569⟩ (mk_get R.2.2.2.2.2.2.1) rfl rfl (s_X6_emit g hT I44 lb R.2.2.2.2.2 v31 0 (by decide) (by decide)) rfl rfl (Nat.le_of_ble_eq_true rfl) (by decide) rfl rfl 71 rfl (fun rv h1 q48 => ?_)
              obtain ⟨m49, n50, rfl, rfl, I51, K52, rm49⟩ := q48
              have K52c := K52
              have w53 : (m49 86 3).toInt = (m42 86 3).toInt := congrArg Int32.toInt (K52 86 3 (wr_out (by omega)))
              have w54 : (m49 86 2).toInt = (m42 86 2).toInt := congrArg Int32.toInt (K52 86 2 (wr_out (by omega)))
              have K52 := K45.trans (K52.sub (wr_wr (by omega) (by omega)))
              show PV _ _ _ _ _ _ _ 71 [.ref 86, .int 5, .int y9, .int v31] [] _
              refine iv_inc (M := mX7_readSum) (C := 1) dX7_readSum_71 74 rfl rfl (by decide) rfl rfl (by decide) (by omega) (by omega) (fun v55 ev55 => ?_)
              show PV _ _ _ _ _ _ _ 74 [.ref 86, .int 5, .int v55, .int v31] [] _
              refine pv_goto (M := mX7_readSum) (tgt := 12) dX7_readSum_74 (by decide) ?_
              refine pv_fg (lo2 := [.ref 86, .int 5, .int v55, pv_U]) ⟨Or.inr rfl, ⟨Or.inr rfl, ⟨Or.inr rfl, ⟨Or.inl rfl, trivial⟩⟩⟩⟩ ?_
              exact ih16 v55 m49 n50 (by first | omega | assumption | exact (iv_rng _).2 | exact (iv_rng _).1 | decide) (by first | omega | assumption | exact (iv_rng _).2 | exact (iv_rng _).1 | decide) (by first | omega | assumption | (show (m 86 3).toInt ≤ (m49 86 3).toInt; omega) | decide) (by first | omega | assumption | (show (m49 86 3).toInt ≤ (m49 86 2).toInt; omega) | decide) (by first | omega | assumption | (show (m49 86 2).toInt = (m 86 2).toInt; omega) | decide) I51 K52 (by omega)
            · have c47 := iv_eq (X := v46.toInt) (Y := 0) c47 rfl (by decide)
              refine pv_iconst (M := mX7_readSum) (v := 0) dX7_readSum_60 61 rfl (by decide) ?_
              have z56 : (0 : Int32).toInt = 0 := by decide
              exact pv_iret (M := mX7_readSum) dX7_readSum_61 rfl rfl ⟨_, _, _, rfl, rfl, I44, K45, by decide, by decide, (by refine ⟨?_, ?_, ?_⟩ <;> omega)⟩
          · have c29 := iv_ne (X := v28.toInt) (Y := 43) c29 rfl (by decide)
            refine pv_aload_n (M := mX7_readSum) 0 dX7_readSum_28 29 rfl rfl rfl ?_
            refine pv_callv (M := mX7_readSum) (as := []) (st := []) (kc2 := 0) (ks2 := 0) dX7_readSum_29 wd527 YX7_peek ⟨wd529, wd2⟩ (mk_get (tl86 hT)) rfl rfl (s_X7_peek g hT I12 R) rfl rfl (Nat.le_of_ble_eq_true rfl) (by decide) rfl rfl 32 rfl (fun rv h1 q57 => ?_)
            obtain ⟨v58, rfl, rfl, pv58, qv58, rv58⟩ := q57
            replace rv58 : v58.toInt = -1 ∨ (m10 86 3).toInt < (m10 86 2).toInt := rv58
            show PV _ _ _ _ _ _ _ 32 [.ref 86, .int 5, .int y9, pv_U] [.int v58] _
            refine pv_bipush (M := mX7_readSum) (v := 45) dX7_readSum_32 34 rfl (by decide) ?_
            refine pv_icmp_ne (M := mX7_readSum) (tgt := 77) dX7_readSum_34 37 rfl (by decide) (fun c59 => ?_) (fun c59 => ?_)
            · have c59 := iv_ne (X := v58.toInt) (Y := 45) c59 rfl (by decide)
              refine pv_iconst (M := mX7_readSum) (v := 1) dX7_readSum_77 78 rfl (by decide) ?_
              have z60 : (1 : Int32).toInt = 1 := by decide
              exact pv_iret (M := mX7_readSum) dX7_readSum_78 rfl rfl ⟨_, _, _, rfl, rfl, I12, K13, by decide, by decide, (by refine ⟨?_, ?_, ?_⟩ <;> omega)⟩
            · have c59 := iv_eq (X := v58.toInt) (Y := 45) c59 rfl (by decide)
              refine pv_aload_n (M := mX7_readSum) 0 dX7_readSum_37 38 rfl rfl rfl ?_
              refine pv_callv (M := mX7_readSum) (as := []) (st := []) (kc2 := 0) (ks2 := 0) dX7_readSum_38 wd527 YX7_peek ⟨wd529, wd2⟩ (mk_get (tl86 hT)) rfl rfl (s_X7_peek g hT I12 R) rfl rfl (Nat.le_of_ble_eq_true rfl) (by decide) rfl rfl 41 rfl (fun rv h1 q61 => ?_)
              obtain ⟨v62, rfl, rfl, pv62, qv62, rv62⟩ := q61
              replace rv62 : v62.toInt = -1 ∨ (m10 86 3).toInt < (m10 86 2).toInt := rv62
              show PV _ _ _ _ _ _ _ 41 [.ref 86, .int 5, .int y9, pv_U] [.int v62] _
              refine pv_istore_n (M := mX7_readSum) 3 (lo2 := [.ref 86, .int 5, .int y9, .int v62]) dX7_readSum_41 42 rfl rfl (by decide) rfl rfl ?_
              refine pv_aload_n (M := mX7_readSum) 0 dX7_readSum_42 43 rfl rfl rfl ?_
              refine pv_dup (M := mX7_readSum) dX7_readSum_43 44 rfl rfl ?_
              refine iv_get (M := mX7_readSum) (l1 := 0) (l2 := 160) dX7_readSum_44 FX7 3 wd283 (by decide) (tl86 hT) rfl I12 rfl 47 rfl (fun v63 ev63 pv63 qv63 => ?_)
              have wv63 : v63.toInt = (m10 86 3).toInt := congrArg Int32.toInt ev63
              refine pv_iconst (M := mX7_readSum) (v := 1) dX7_readSum_47 48 rfl (by decide) ?_
              refine iv_iadd (M := mX7_readSum) (X := v63.toInt) (Y := 1) dX7_readSum_48 49 rfl rfl (by decide) (by omega) (by omega) (fun v64 ev64 => ?_)
              refine iv_put (M := mX7_readSum) (l1 := 0) (l2 := 160) dX7_readSum_49 FX7 3 wd283 (by decide) rfl (tl86 hT) rfl rfl rfl I12 rfl (by omega) (by omega) 52 rfl (fun m65 e68 I66 => ?_)
              have K67 := K13.set e68 (wl_r (by omega) (by omega))
              have w69 : (m65 86 3).toInt = v64.toInt := by rw [e68, up2_eq]
              have w70 : (m65 86 2).toInt = (m10 86 2).toInt := by rw [e68, up2_ne (by omega)]
              refine pv_aload_n (M := mX7_readSum) 0 dX7_readSum_52 53 rfl rfl rfl ?_
              refine pv_iload_n (M := mX7_readSum) 1 dX7_readSum_53 54 rfl rfl rfl ?_
              have z71 : (5 : Int32).toInt = 5 := by decide
              refine pv_callv (M := mX7_readSum) (as := [.int 5]) (st := []) (kc2 := 0) (ks2 := 0) dX7_readSum_54 wd543 YX7_readTerm ⟨wd545, wd5⟩ (mk_get (tl86 hT)) rfl rfl (s_X7_readTerm_v5 g hT I66 R (by first | omega | assumption | exact (iv_rng _).2 | exact (iv_rng _).1 | decide)) rfl rfl (Nat.le_of_ble_eq_true rfl) (by decide) rfl rfl 57 rfl (fun rv h1 q72 => ?_)
              obtain ⟨m73, n74, v77, rfl, rfl, I75, K76, pv77, qv77, rv77⟩ := q72
              replace rv77 : (m65 86 3).toInt ≤ (m73 86 3).toInt ∧ (m73 86 3).toInt ≤ (m73 86 2).toInt ∧ (m73 86 2).toInt = (m65 86 2).toInt := rv77
              have K76c := K76
              have K76 := K67.trans (K76.sub (fun _ _ q => q))
              show PV _ _ _ _ _ _ _ 57 [.ref 86, .int 5, .int y9, .int v62] [.int v77] _
              refine pv_if_ne (M := mX7_readSum) (tgt := 62) dX7_readSum_57 60 rfl (by decide) (fun c78 => ?_) (fun c78 => ?_)
              · have c78 := iv_ne (X := v77.toInt) (Y := 0) c78 rfl (by decide)
                refine pv_aload_n (M := mX7_readSum) 0 dX7_readSum_62 63 rfl rfl rfl ?_
                refine mv_get (M := mX7_readSum) (v := .ref lb) dX7_readSum_63 FX7 1 wd281 (by decide) (tl86 hT) rfl R.2.2.2.1 66 rfl ?_
                refine pv_iload_n (M := mX7_readSum) 3 dX7_readSum_66 67 rfl rfl rfl ?_
                refine pv_iconst (M := mX7_readSum) (v := 0) dX7_readSum_67 68 rfl (by decide) ?_
                refine pv_callv (M := mX7_readSum) (as := [.int v62, .int 0]) (st := []) (kc2 := 0) (ks2 := 0) dX7_readSum_68 wd567 YX6_emit ⟨wd568, wd569⟩ (mk_get R.2.2.2.2.2.2.1) rfl rfl (s_X6_emit g hT I75 lb R.2.2.2.2.2 v62 0 (by decide) (by decide)) rfl rfl (Nat.le_of_ble_eq_true rfl) (by decide) rfl rfl 71 rfl (fun rv h1 q79 => ?_)
                obtain ⟨m80, n81, rfl, rfl, I82, K83, rm80⟩ := q79
                have K83c := K83
                have w84 : (m80 86 3).toInt = (m73 86 3).toInt := congrArg Int32.toInt (K83 86 3 (wr_out (by omega)))
                have w85 : (m80 86 2).toInt = (m73 86 2).toInt := congrArg Int32.toInt (K83 86 2 (wr_out (by omega)))
                have K83 := K76.trans (K83.sub (wr_wr (by omega) (by omega)))
                show PV _ _ _ _ _ _ _ 71 [.ref 86, .int 5, .int y9, .int v62] [] _
                refine iv_inc (M := mX7_readSum) (C := 1) dX7_readSum_71 74 rfl rfl (by decide) rfl rfl (by decide) (by omega) (by omega) (fun v86 ev86 => ?_)
                show PV _ _ _ _ _ _ _ 74 [.ref 86, .int 5, .int v86, .int v62] [] _
                refine pv_goto (M := mX7_readSum) (tgt := 12) dX7_readSum_74 (by decide) ?_
                refine pv_fg (lo2 := [.ref 86, .int 5, .int v86, pv_U]) ⟨Or.inr rfl, ⟨Or.inr rfl, ⟨Or.inr rfl, ⟨Or.inl rfl, trivial⟩⟩⟩⟩ ?_
                exact ih16 v86 m80 n81 (by first | omega | assumption | exact (iv_rng _).2 | exact (iv_rng _).1 | decide) (by first | omega | assumption | exact (iv_rng _).2 | exact (iv_rng _).1 | decide) (by first | omega | assumption | (show (m 86 3).toInt ≤ (m80 86 3).toInt; omega) | decide) (by first | omega | assumption | (show (m80 86 3).toInt ≤ (m80 86 2).toInt; omega) | decide) (by first | omega | assumption | (show (m80 86 2).toInt = (m 86 2).toInt; omega) | decide) I82 K83 (by omega)
              · have c78 := iv_eq (X := v77.toInt) (Y := 0) c78 rfl (by decide)
                refine pv_iconst (M := mX7_readSum) (v := 0) dX7_readSum_60 61 rfl (by decide) ?_
                have z87 : (0 : Int32).toInt = 0 := by decide
                exact pv_iret (M := mX7_readSum) dX7_readSum_61 rfl rfl ⟨_, _, _, rfl, rfl, I75, K76, by decide, by decide, (by refine ⟨?_, ?_, ?_⟩ <;> omega)⟩
    have z88 : (0 : Int32).toInt = 0 := by decide
    exact lp15 (((160 - 0) : Int).toNat + 1) 0 m3 n4 (by first | omega | assumption | exact (iv_rng _).2 | exact (iv_rng _).1 | decide) (by first | omega | assumption | exact (iv_rng _).2 | exact (iv_rng _).1 | decide) (by first | omega | assumption | (show (m 86 3).toInt ≤ (m3 86 3).toInt; omega) | decide) (by first | omega | assumption | (show (m3 86 3).toInt ≤ (m3 86 2).toInt; omega) | decide) (by first | omega | assumption | (show (m3 86 2).toInt = (m 86 2).toInt; omega) | decide) I5 K6 (by omega)
  · have c8 := iv_eq (X := v7.toInt) (Y := 0) c8 rfl (by decide)
    refine pv_iconst (M := mX7_readSum) (v := 0) dX7_readSum_8 9 rfl (by decide) ?_
    have z89 : (0 : Int32).toInt = 0 := by decide
    exact pv_iret (M := mX7_readSum) dX7_readSum_9 rfl rfl ⟨_, _, _, rfl, rfl, I5, K6, by decide, by decide, (by refine ⟨?_, ?_, ?_⟩ <;> omega)⟩

set_option maxHeartbeats 2000000 in
set_option maxRecDepth 20000 in
theorem s_X7_readPiece_v5 (g : pv_G) {T : List mv_T} {m : Nat → Nat → Int32} {n : Nat → Nat → Int64} {r : Nat → Value} {la lb : Nat} (hT : TX T) (I : IV BB m) (R : RX T r la lb) (hp0 : (m 86 3).toInt ≤ (m 86 2).toInt) : PM g mX7_readPiece yX7_readPiece (sqI T BB (wl [(77, 96, none)]) r m 0 1 (fun m' v => (m 86 3).toInt ≤ (m' 86 3).toInt ∧ (m' 86 3).toInt ≤ (m' 86 2).toInt ∧ (m' 86 2).toInt = (m 86 2).toInt)) 11 0 0 [.ref 86, .int 5] (mk T m n r) := by
  have Kp : fr (wl [(77, 96, none)]) m m := fr.rf
  have R0 := R
  have zR := R.2.2.2.2.1.1
  have zR2 := R.2.2.2.2.2.1
  have z159 : 0 ≤ (m 86 3).toInt ∧ (m 86 3).toInt ≤ 160 := I 86 3
  have z160 : 0 ≤ (m 86 2).toInt ∧ (m 86 2).toInt ≤ 160 := I 86 2
  refine PM.of 1 (lo := [.ref 86, .int 5, pv_U]) rfl (by decide) rfl rfl (Nat.le_of_ble_eq_true rfl) ?_
  refine pv_aload_n (M := mX7_readPiece) 0 dX7_readPiece_0 1 rfl rfl rfl ?_
  refine pv_callv (M := mX7_readPiece) (as := []) (st := []) (kc2 := 0) (ks2 := 0) dX7_readPiece_1 wd527 YX7_peek ⟨wd529, wd2⟩ (mk_get (tl86 hT)) rfl rfl (s_X7_peek g hT I R) rfl rfl (Nat.le_of_ble_eq_true rfl) (by decide) rfl rfl 4 rfl (fun rv h1 q1 => ?_)
  obtain ⟨v2, rfl, rfl, pv2, qv2, rv2⟩ := q1
  replace rv2 : v2.toInt = -1 ∨ (m 86 3).toInt < (m 86 2).toInt := rv2
  show PV _ _ _ _ _ _ _ 4 [.ref 86, .int 5, pv_U] [.int v2] _
  refine pv_bipush (M := mX7_readPiece) (v := 33) dX7_readPiece_4 6 rfl (by decide) ?_
  refine pv_icmp_ne (M := mX7_readPiece) (tgt := 41) dX7_readPiece_6 9 rfl (by decide) (fun c3 => ?_) (fun c3 => ?_)
  · have c3 := iv_ne (X := v2.toInt) (Y := 33) c3 rfl (by decide)
    refine pv_aload_n (M := mX7_readPiece) 0 dX7_readPiece_41 42 rfl rfl rfl ?_
    refine pv_callv (M := mX7_readPiece) (as := []) (st := []) (kc2 := 0) (ks2 := 0) dX7_readPiece_42 wd527 YX7_peek ⟨wd529, wd2⟩ (mk_get (tl86 hT)) rfl rfl (s_X7_peek g hT I R) rfl rfl (Nat.le_of_ble_eq_true rfl) (by decide) rfl rfl 45 rfl (fun rv h1 q4 => ?_)
    obtain ⟨v5, rfl, rfl, pv5, qv5, rv5⟩ := q4
    replace rv5 : v5.toInt = -1 ∨ (m 86 3).toInt < (m 86 2).toInt := rv5
    show PV _ _ _ _ _ _ _ 45 [.ref 86, .int 5, pv_U] [.int v5] _
    refine pv_bipush (M := mX7_readPiece) (v := 40) dX7_readPiece_45 47 rfl (by decide) ?_
    refine pv_icmp_ne (M := mX7_readPiece) (tgt := 83) dX7_readPiece_47 50 rfl (by decide) (fun c6 => ?_) (fun c6 => ?_)
    · have c6 := iv_ne (X := v5.toInt) (Y := 40) c6 rfl (by decide)
      refine pv_aload_n (M := mX7_readPiece) 0 dX7_readPiece_83 84 rfl rfl rfl ?_
      refine pv_iload_n (M := mX7_readPiece) 1 dX7_readPiece_84 85 rfl rfl rfl ?_
      have z7 : (5 : Int32).toInt = 5 := by decide
      refine pv_callv (M := mX7_readPiece) (as := [.int 5]) (st := []) (kc2 := 0) (ks2 := 0) dX7_readPiece_85 wd539 YX7_readSum ⟨wd541, wd4⟩ (mk_get (tl86 hT)) rfl rfl (s_X7_readSum_v5 g hT I R (by first | omega | assumption | exact (iv_rng _).2 | exact (iv_rng _).1 | decide)) rfl rfl (Nat.le_of_ble_eq_true rfl) (by decide) rfl rfl 88 rfl (fun rv h1 q8 => ?_)
      obtain ⟨m9, n10, v13, rfl, rfl, I11, K12, pv13, qv13, rv13⟩ := q8
      replace rv13 : (m 86 3).toInt ≤ (m9 86 3).toInt ∧ (m9 86 3).toInt ≤ (m9 86 2).toInt ∧ (m9 86 2).toInt = (m 86 2).toInt := rv13
      have K12c := K12
      have K12 := Kp.trans (K12.sub (fun _ _ q => q))
      show PV _ _ _ _ _ _ _ 88 [.ref 86, .int 5, pv_U] [.int v13] _
      refine pv_if_ne (M := mX7_readPiece) (tgt := 93) dX7_readPiece_88 91 rfl (by decide) (fun c14 => ?_) (fun c14 => ?_)
      · have c14 := iv_ne (X := v13.toInt) (Y := 0) c14 rfl (by decide)
        refine pv_aload_n (M := mX7_readPiece) 0 dX7_readPiece_93 94 rfl rfl rfl ?_
        refine pv_callv (M := mX7_readPiece) (as := []) (st := []) (kc2 := 0) (ks2 := 0) dX7_readPiece_94 wd527 YX7_peek ⟨wd529, wd2⟩ (mk_get (tl86 hT)) rfl rfl (s_X7_peek g hT I11 R) rfl rfl (Nat.le_of_ble_eq_true rfl) (by decide) rfl rfl 97 rfl (fun rv h1 q15 => ?_)
        obtain ⟨v16, rfl, rfl, pv16, qv16, rv16⟩ := q15
        replace rv16 : v16.toInt = -1 ∨ (m9 86 3).toInt < (m9 86 2).toInt := rv16
        show PV _ _ _ _ _ _ _ 97 [.ref 86, .int 5, pv_U] [.int v16] _
        refine pv_istore_n (M := mX7_readPiece) 2 (lo2 := [.ref 86, .int 5, .int v16]) dX7_readPiece_97 98 rfl rfl (by decide) rfl rfl ?_
        refine pv_iload_n (M := mX7_readPiece) 2 dX7_readPiece_98 99 rfl rfl rfl ?_
        refine pv_bipush (M := mX7_readPiece) (v := 60) dX7_readPiece_99 101 rfl (by decide) ?_
        refine pv_icmp_eq (M := mX7_readPiece) (tgt := 122) dX7_readPiece_101 104 rfl (by decide) (fun c17 => ?_) (fun c17 => ?_)
        · have c17 := iv_eq (X := v16.toInt) (Y := 60) c17 rfl (by decide)
          refine pv_aload_n (M := mX7_readPiece) 0 dX7_readPiece_122 123 rfl rfl rfl ?_
          refine pv_dup (M := mX7_readPiece) dX7_readPiece_123 124 rfl rfl ?_
          refine iv_get (M := mX7_readPiece) (l1 := 0) (l2 := 160) dX7_readPiece_124 FX7 3 wd283 (by decide) (tl86 hT) rfl I11 rfl 127 rfl (fun v18 ev18 pv18 qv18 => ?_)
          have wv18 : v18.toInt = (m9 86 3).toInt := congrArg Int32.toInt ev18
          refine pv_iconst (M := mX7_readPiece) (v := 1) dX7_readPiece_127 128 rfl (by decide) ?_
          refine iv_iadd (M := mX7_readPiece) (X := v18.toInt) (Y := 1) dX7_readPiece_128 129 rfl rfl (by decide) (by omega) (by omega) (fun v19 ev19 => ?_)
          refine iv_put (M := mX7_readPiece) (l1 := 0) (l2 := 160) dX7_readPiece_129 FX7 3 wd283 (by decide) rfl (tl86 hT) rfl rfl rfl I11 rfl (by omega) (by omega) 132 rfl (fun m20 e23 I21 => ?_)
          have K22 := K12.set e23 (wl_r (by omega) (by omega))
          have w24 : (m20 86 3).toInt = v19.toInt := by rw [e23, up2_eq]
          have w25 : (m20 86 2).toInt = (m9 86 2).toInt := by rw [e23, up2_ne (by omega)]
          refine pv_aload_n (M := mX7_readPiece) 0 dX7_readPiece_132 133 rfl rfl rfl ?_
          refine pv_iload_n (M := mX7_readPiece) 1 dX7_readPiece_133 134 rfl rfl rfl ?_
          have z26 : (5 : Int32).toInt = 5 := by decide
          refine pv_callv (M := mX7_readPiece) (as := [.int 5]) (st := []) (kc2 := 0) (ks2 := 0) dX7_readPiece_134 wd539 YX7_readSum ⟨wd541, wd4⟩ (mk_get (tl86 hT)) rfl rfl (s_X7_readSum_v5 g hT I21 R (by first | omega | assumption | exact (iv_rng _).2 | exact (iv_rng _).1 | decide)) rfl rfl (Nat.le_of_ble_eq_true rfl) (by decide) rfl rfl 137 rfl (fun rv h1 q27 => ?_)
          obtain ⟨m28, n29, v32, rfl, rfl, I30, K31, pv32, qv32, rv32⟩ := q27
          replace rv32 : (m20 86 3).toInt ≤ (m28 86 3).toInt ∧ (m28 86 3).toInt ≤ (m28 86 2).toInt ∧ (m28 86 2).toInt = (m20 86 2).toInt := rv32
          have K31c := K31
          have K31 := K22.trans (K31.sub (fun _ _ q => q))
          show PV _ _ _ _ _ _ _ 137 [.ref 86, .int 5, .int v16] [.int v32] _
          refine pv_if_ne (M := mX7_readPiece) (tgt := 142) dX7_readPiece_137 140 rfl (by decide) (fun c33 => ?_) (fun c33 => ?_)
          · have c33 := iv_ne (X := v32.toInt) (Y := 0) c33 rfl (by decide)
            refine pv_aload_n (M := mX7_readPiece) 0 dX7_readPiece_142 143 rfl rfl rfl ?_
            refine mv_get (M := mX7_readPiece) (v := .ref lb) dX7_readPiece_143 FX7 1 wd281 (by decide) (tl86 hT) rfl R.2.2.2.1 146 rfl ?_
            refine pv_iload_n (M := mX7_readPiece) 2 dX7_readPiece_146 147 rfl rfl rfl ?_
            refine pv_iconst (M := mX7_readPiece) (v := 0) dX7_readPiece_147 148 rfl (by decide) ?_
            refine pv_callv (M := mX7_readPiece) (as := [.int v16, .int 0]) (st := []) (kc2 := 0) (ks2 := 0) dX7_readPiece_148 wd567 YX6_emit ⟨wd568, wd569⟩ (mk_get R.2.2.2.2.2.2.1) rfl rfl (s_X6_emit g hT I30 lb R.2.2.2.2.2 v16 0 (by decide) (by decide)) rfl rfl (Nat.le_of_ble_eq_true rfl) (by decide) rfl rfl 151 rfl (fun rv h1 q34 => ?_)
            obtain ⟨m35, n36, rfl, rfl, I37, K38, rm35⟩ := q34
            have K38c := K38
            have w39 : (m35 86 3).toInt = (m28 86 3).toInt := congrArg Int32.toInt (K38 86 3 (wr_out (by omega)))
            have w40 : (m35 86 2).toInt = (m28 86 2).toInt := congrArg Int32.toInt (K38 86 2 (wr_out (by omega)))
            have K38 := K31.trans (K38.sub (wr_wr (by omega) (by omega)))
            show PV _ _ _ _ _ _ _ 151 [.ref 86, .int 5, .int v16] [] _
            refine pv_iconst (M := mX7_readPiece) (v := 1) dX7_readPiece_151 152 rfl (by decide) ?_
            have z41 : (1 : Int32).toInt = 1 := by decide
            exact pv_iret (M := mX7_readPiece) dX7_readPiece_152 rfl rfl ⟨_, _, _, rfl, rfl, I37, K38, by decide, by decide, (by refine ⟨?_, ?_, ?_⟩ <;> omega)⟩
          · have c33 := iv_eq (X := v32.toInt) (Y := 0) c33 rfl (by decide)
            refine pv_iconst (M := mX7_readPiece) (v := 0) dX7_readPiece_140 141 rfl (by decide) ?_
            have z42 : (0 : Int32).toInt = 0 := by decide
            exact pv_iret (M := mX7_readPiece) dX7_readPiece_141 rfl rfl ⟨_, _, _, rfl, rfl, I30, K31, by decide, by decide, (by refine ⟨?_, ?_, ?_⟩ <;> omega)⟩
        · have c17 := iv_ne (X := v16.toInt) (Y := 60) c17 rfl (by decide)
          refine pv_iload_n (M := mX7_readPiece) 2 dX7_readPiece_104 105 rfl rfl rfl ?_
          refine pv_bipush (M := mX7_readPiece) (v := 62) dX7_readPiece_105 107 rfl (by decide) ?_
          refine pv_icmp_eq (M := mX7_readPiece) (tgt := 122) dX7_readPiece_107 110 rfl (by decide) (fun c43 => ?_) (fun c43 => ?_)
          · have c43 := iv_eq (X := v16.toInt) (Y := 62) c43 rfl (by decide)
            refine pv_aload_n (M := mX7_readPiece) 0 dX7_readPiece_122 123 rfl rfl rfl ?_
            refine pv_dup (M := mX7_readPiece) dX7_readPiece_123 124 rfl rfl ?_
            refine iv_get (M := mX7_readPiece) (l1 := 0) (l2 := 160) dX7_readPiece_124 FX7 3 wd283 (by decide) (tl86 hT) rfl I11 rfl 127 rfl (fun v44 ev44 pv44 qv44 => ?_)
            have wv44 : v44.toInt = (m9 86 3).toInt := congrArg Int32.toInt ev44
            refine pv_iconst (M := mX7_readPiece) (v := 1) dX7_readPiece_127 128 rfl (by decide) ?_
            refine iv_iadd (M := mX7_readPiece) (X := v44.toInt) (Y := 1) dX7_readPiece_128 129 rfl rfl (by decide) (by omega) (by omega) (fun v45 ev45 => ?_)
            refine iv_put (M := mX7_readPiece) (l1 := 0) (l2 := 160) dX7_readPiece_129 FX7 3 wd283 (by decide) rfl (tl86 hT) rfl rfl rfl I11 rfl (by omega) (by omega) 132 rfl (fun m46 e49 I47 => ?_)
            have K48 := K12.set e49 (wl_r (by omega) (by omega))
            have w50 : (m46 86 3).toInt = v45.toInt := by rw [e49, up2_eq]
            have w51 : (m46 86 2).toInt = (m9 86 2).toInt := by rw [e49, up2_ne (by omega)]
            refine pv_aload_n (M := mX7_readPiece) 0 dX7_readPiece_132 133 rfl rfl rfl ?_
            refine pv_iload_n (M := mX7_readPiece) 1 dX7_readPiece_133 134 rfl rfl rfl ?_
            have z52 : (5 : Int32).toInt = 5 := by decide
            refine pv_callv (M := mX7_readPiece) (as := [.int 5]) (st := []) (kc2 := 0) (ks2 := 0) dX7_readPiece_134 wd539 YX7_readSum ⟨wd541, wd4⟩ (mk_get (tl86 hT)) rfl rfl (s_X7_readSum_v5 g hT I47 R (by first | omega | assumption | exact (iv_rng _).2 | exact (iv_rng _).1 | decide)) rfl rfl (Nat.le_of_ble_eq_true rfl) (by decide) rfl rfl 137 rfl (fun rv h1 q53 => ?_)
            obtain ⟨m54, n55, v58, rfl, rfl, I56, K57, pv58, qv58, rv58⟩ := q53
            replace rv58 : (m46 86 3).toInt ≤ (m54 86 3).toInt ∧ (m54 86 3).toInt ≤ (m54 86 2).toInt ∧ (m54 86 2).toInt = (m46 86 2).toInt := rv58
            have K57c := K57
            have K57 := K48.trans (K57.sub (fun _ _ q => q))
            show PV _ _ _ _ _ _ _ 137 [.ref 86, .int 5, .int v16] [.int v58] _
            refine pv_if_ne (M := mX7_readPiece) (tgt := 142) dX7_readPiece_137 140 rfl (by decide) (fun c59 => ?_) (fun c59 => ?_)
            · have c59 := iv_ne (X := v58.toInt) (Y := 0) c59 rfl (by decide)
              refine pv_aload_n (M := mX7_readPiece) 0 dX7_readPiece_142 143 rfl rfl rfl ?_
              refine mv_get (M := mX7_readPiece) (v := .ref lb) dX7_readPiece_143 FX7 1 wd281 (by decide) (tl86 hT) rfl R.2.2.2.1 146 rfl ?_
              refine pv_iload_n (M := mX7_readPiece) 2 dX7_readPiece_146 147 rfl rfl rfl ?_
              refine pv_iconst (M := mX7_readPiece) (v := 0) dX7_readPiece_147 148 rfl (by decide) ?_
              refine pv_callv (M := mX7_readPiece) (as := [.int v16, .int 0]) (st := []) (kc2 := 0) (ks2 := 0) dX7_readPiece_148 wd567 YX6_emit ⟨wd568, wd569⟩ (mk_get R.2.2.2.2.2.2.1) rfl rfl (s_X6_emit g hT I56 lb R.2.2.2.2.2 v16 0 (by decide) (by decide)) rfl rfl (Nat.le_of_ble_eq_true rfl) (by decide) rfl rfl 151 rfl (fun rv h1 q60 => ?_)
              obtain ⟨m61, n62, rfl, rfl, I63, K64, rm61⟩ := q60
              have K64c := K64
              have w65 : (m61 86 3).toInt = (m54 86 3).toInt := congrArg Int32.toInt (K64 86 3 (wr_out (by omega)))
              have w66 : (m61 86 2).toInt = (m54 86 2).toInt := congrArg Int32.toInt (K64 86 2 (wr_out (by omega)))
              have K64 := K57.trans (K64.sub (wr_wr (by omega) (by omega)))
              show PV _ _ _ _ _ _ _ 151 [.ref 86, .int 5, .int v16] [] _
              refine pv_iconst (M := mX7_readPiece) (v := 1) dX7_readPiece_151 152 rfl (by decide) ?_
              have z67 : (1 : Int32).toInt = 1 := by decide
              exact pv_iret (M := mX7_readPiece) dX7_readPiece_152 rfl rfl ⟨_, _, _, rfl, rfl, I63, K64, by decide, by decide, (by refine ⟨?_, ?_, ?_⟩ <;> omega)⟩
            · have c59 := iv_eq (X := v58.toInt) (Y := 0) c59 rfl (by decide)
              refine pv_iconst (M := mX7_readPiece) (v := 0) dX7_readPiece_140 141 rfl (by decide) ?_
              have z68 : (0 : Int32).toInt = 0 := by decide
              exact pv_iret (M := mX7_readPiece) dX7_readPiece_141 rfl rfl ⟨_, _, _, rfl, rfl, I56, K57, by decide, by decide, (by refine ⟨?_, ?_, ?_⟩ <;> omega)⟩
          · have c43 := iv_ne (X := v16.toInt) (Y := 62) c43 rfl (by decide)
            refine pv_iload_n (M := mX7_readPiece) 2 dX7_readPiece_110 111 rfl rfl rfl ?_
            refine pv_bipush (M := mX7_readPiece) (v := 61) dX7_readPiece_111 113 rfl (by decide) ?_
            refine pv_icmp_eq (M := mX7_readPiece) (tgt := 122) dX7_readPiece_113 116 rfl (by decide) (fun c69 => ?_) (fun c69 => ?_)
            · have c69 := iv_eq (X := v16.toInt) (Y := 61) c69 rfl (by decide)
              refine pv_aload_n (M := mX7_readPiece) 0 dX7_readPiece_122 123 rfl rfl rfl ?_
              refine pv_dup (M := mX7_readPiece) dX7_readPiece_123 124 rfl rfl ?_
              refine iv_get (M := mX7_readPiece) (l1 := 0) (l2 := 160) dX7_readPiece_124 FX7 3 wd283 (by decide) (tl86 hT) rfl I11 rfl 127 rfl (fun v70 ev70 pv70 qv70 => ?_)
              have wv70 : v70.toInt = (m9 86 3).toInt := congrArg Int32.toInt ev70
              refine pv_iconst (M := mX7_readPiece) (v := 1) dX7_readPiece_127 128 rfl (by decide) ?_
              refine iv_iadd (M := mX7_readPiece) (X := v70.toInt) (Y := 1) dX7_readPiece_128 129 rfl rfl (by decide) (by omega) (by omega) (fun v71 ev71 => ?_)
              refine iv_put (M := mX7_readPiece) (l1 := 0) (l2 := 160) dX7_readPiece_129 FX7 3 wd283 (by decide) rfl (tl86 hT) rfl rfl rfl I11 rfl (by omega) (by omega) 132 rfl (fun m72 e75 I73 => ?_)
              have K74 := K12.set e75 (wl_r (by omega) (by omega))
              have w76 : (m72 86 3).toInt = v71.toInt := by rw [e75, up2_eq]
              have w77 : (m72 86 2).toInt = (m9 86 2).toInt := by rw [e75, up2_ne (by omega)]
              refine pv_aload_n (M := mX7_readPiece) 0 dX7_readPiece_132 133 rfl rfl rfl ?_
              refine pv_iload_n (M := mX7_readPiece) 1 dX7_readPiece_133 134 rfl rfl rfl ?_
              have z78 : (5 : Int32).toInt = 5 := by decide
              refine pv_callv (M := mX7_readPiece) (as := [.int 5]) (st := []) (kc2 := 0) (ks2 := 0) dX7_readPiece_134 wd539 YX7_readSum ⟨wd541, wd4⟩ (mk_get (tl86 hT)) rfl rfl (s_X7_readSum_v5 g hT I73 R (by first | omega | assumption | exact (iv_rng _).2 | exact (iv_rng _).1 | decide)) rfl rfl (Nat.le_of_ble_eq_true rfl) (by decide) rfl rfl 137 rfl (fun rv h1 q79 => ?_)
              obtain ⟨m80, n81, v84, rfl, rfl, I82, K83, pv84, qv84, rv84⟩ := q79
              replace rv84 : (m72 86 3).toInt ≤ (m80 86 3).toInt ∧ (m80 86 3).toInt ≤ (m80 86 2).toInt ∧ (m80 86 2).toInt = (m72 86 2).toInt := rv84
              have K83c := K83
              have K83 := K74.trans (K83.sub (fun _ _ q => q))
              show PV _ _ _ _ _ _ _ 137 [.ref 86, .int 5, .int v16] [.int v84] _
              refine pv_if_ne (M := mX7_readPiece) (tgt := 142) dX7_readPiece_137 140 rfl (by decide) (fun c85 => ?_) (fun c85 => ?_)
              · have c85 := iv_ne (X := v84.toInt) (Y := 0) c85 rfl (by decide)
                refine pv_aload_n (M := mX7_readPiece) 0 dX7_readPiece_142 143 rfl rfl rfl ?_
                refine mv_get (M := mX7_readPiece) (v := .ref lb) dX7_readPiece_143 FX7 1 wd281 (by decide) (tl86 hT) rfl R.2.2.2.1 146 rfl ?_
                refine pv_iload_n (M := mX7_readPiece) 2 dX7_readPiece_146 147 rfl rfl rfl ?_
                refine pv_iconst (M := mX7_readPiece) (v := 0) dX7_readPiece_147 148 rfl (by decide) ?_
                refine pv_callv (M := mX7_readPiece) (as := [.int v16, .int 0]) (st := []) (kc2 := 0) (ks2 := 0) dX7_readPiece_148 wd567 YX6_emit ⟨wd568, wd569⟩ (mk_get R.2.2.2.2.2.2.1) rfl rfl (s_X6_emit g hT I82 lb R.2.2.2.2.2 v16 0 (by decide) (by decide)) rfl rfl (Nat.le_of_ble_eq_true rfl) (by decide) rfl rfl 151 rfl (fun rv h1 q86 => ?_)
                obtain ⟨m87, n88, rfl, rfl, I89, K90, rm87⟩ := q86
                have K90c := K90
                have w91 : (m87 86 3).toInt = (m80 86 3).toInt := congrArg Int32.toInt (K90 86 3 (wr_out (by omega)))
                have w92 : (m87 86 2).toInt = (m80 86 2).toInt := congrArg Int32.toInt (K90 86 2 (wr_out (by omega)))
                have K90 := K83.trans (K90.sub (wr_wr (by omega) (by omega)))
                show PV _ _ _ _ _ _ _ 151 [.ref 86, .int 5, .int v16] [] _
                refine pv_iconst (M := mX7_readPiece) (v := 1) dX7_readPiece_151 152 rfl (by decide) ?_
                have z93 : (1 : Int32).toInt = 1 := by decide
                exact pv_iret (M := mX7_readPiece) dX7_readPiece_152 rfl rfl ⟨_, _, _, rfl, rfl, I89, K90, by decide, by decide, (by refine ⟨?_, ?_, ?_⟩ <;> omega)⟩
              · have c85 := iv_eq (X := v84.toInt) (Y := 0) c85 rfl (by decide)
                refine pv_iconst (M := mX7_readPiece) (v := 0) dX7_readPiece_140 141 rfl (by decide) ?_
                have z94 : (0 : Int32).toInt = 0 := by decide
                exact pv_iret (M := mX7_readPiece) dX7_readPiece_141 rfl rfl ⟨_, _, _, rfl, rfl, I82, K83, by decide, by decide, (by refine ⟨?_, ?_, ?_⟩ <;> omega)⟩
            · have c69 := iv_ne (X := v16.toInt) (Y := 61) c69 rfl (by decide)
              refine pv_aload_n (M := mX7_readPiece) 0 dX7_readPiece_116 117 rfl rfl rfl ?_
              refine pv_iconst (M := mX7_readPiece) (v := 1) dX7_readPiece_117 118 rfl (by decide) ?_
              have z95 : (1 : Int32).toInt = 1 := by decide
              refine pv_callv (M := mX7_readPiece) (as := [.int 1]) (st := []) (kc2 := 0) (ks2 := 0) dX7_readPiece_118 wd531 YX7_fail ⟨wd533, wd3⟩ (mk_get (tl86 hT)) rfl rfl (s_X7_fail g hT I11 R 1 (by first | omega | assumption | exact (iv_rng _).2 | exact (iv_rng _).1 | decide)) rfl rfl (Nat.le_of_ble_eq_true rfl) (by decide) rfl rfl 121 rfl (fun rv h1 q96 => ?_)
              obtain ⟨m97, n98, v101, rfl, rfl, I99, K100, pv101, qv101, rv101⟩ := q96
              replace rv101 : v101.toInt = 0 ∧ (m9 86 3).toInt ≤ (m97 86 3).toInt ∧ (m97 86 3).toInt ≤ (m97 86 2).toInt ∧ (m97 86 2).toInt = (m9 86 2).toInt := rv101
              have K100c := K100
              have K100 := K12.trans (K100.sub (fun _ _ q => q))
              show PV _ _ _ _ _ _ _ 121 [.ref 86, .int 5, .int v16] [.int v101] _
              exact pv_iret (M := mX7_readPiece) dX7_readPiece_121 rfl (iv_nz (by omega) (by omega)) ⟨_, _, _, rfl, rfl, I99, K100, by omega, by omega, (by refine ⟨?_, ?_, ?_⟩ <;> omega)⟩
      · have c14 := iv_eq (X := v13.toInt) (Y := 0) c14 rfl (by decide)
        refine pv_iconst (M := mX7_readPiece) (v := 0) dX7_readPiece_91 92 rfl (by decide) ?_
        have z102 : (0 : Int32).toInt = 0 := by decide
        exact pv_iret (M := mX7_readPiece) dX7_readPiece_92 rfl rfl ⟨_, _, _, rfl, rfl, I11, K12, by decide, by decide, (by refine ⟨?_, ?_, ?_⟩ <;> omega)⟩
    · have c6 := iv_eq (X := v5.toInt) (Y := 40) c6 rfl (by decide)
      refine pv_aload_n (M := mX7_readPiece) 0 dX7_readPiece_50 51 rfl rfl rfl ?_
      refine pv_iload_n (M := mX7_readPiece) 1 dX7_readPiece_51 52 rfl rfl rfl ?_
      have z103 : (5 : Int32).toInt = 5 := by decide
      refine pv_callv (M := mX7_readPiece) (as := [.int 5]) (st := []) (kc2 := 0) (ks2 := 0) dX7_readPiece_52 wd551 YX7_open ⟨wd553, wd7⟩ (mk_get (tl86 hT)) rfl rfl (s_X7_open g hT I R 5 (by first | omega | assumption | exact (iv_rng _).2 | exact (iv_rng _).1 | decide)) rfl rfl (Nat.le_of_ble_eq_true rfl) (by decide) rfl rfl 55 rfl (fun rv h1 q104 => ?_)
      obtain ⟨m105, n106, v109, rfl, rfl, I107, K108, pv109, qv109, rv109⟩ := q104
      replace rv109 : (v109 = 0 ∨ (5 : Int) ≤ 5) ∧ (m 86 3).toInt ≤ (m105 86 3).toInt ∧ (m105 86 3).toInt ≤ (m105 86 2).toInt ∧ (m105 86 2).toInt = (m 86 2).toInt := by have q_ := rv109; (try rw [z103] at q_); exact q_
      have K108c := K108
      have K108 := Kp.trans (K108.sub (fun _ _ q => q))
      show PV _ _ _ _ _ _ _ 55 [.ref 86, .int 5, pv_U] [.int v109] _
      refine pv_if_eq (M := mX7_readPiece) (tgt := 81) dX7_readPiece_55 58 rfl (by decide) (fun c110 => ?_) (fun c110 => ?_)
      · have c110 := iv_eq (X := v109.toInt) (Y := 0) c110 rfl (by decide)
        refine pv_iconst (M := mX7_readPiece) (v := 0) dX7_readPiece_81 82 rfl (by decide) ?_
        have z111 : (0 : Int32).toInt = 0 := by decide
        exact pv_iret (M := mX7_readPiece) dX7_readPiece_82 rfl rfl ⟨_, _, _, rfl, rfl, I107, K108, by decide, by decide, (by refine ⟨?_, ?_, ?_⟩ <;> omega)⟩
      · have pc110 := rv109.1.resolve_left c110
        have c110 := iv_ne (X := v109.toInt) (Y := 0) c110 rfl (by decide)
        refine pv_aload_n (M := mX7_readPiece) 0 dX7_readPiece_58 59 rfl rfl rfl ?_
        refine pv_iload_n (M := mX7_readPiece) 1 dX7_readPiece_59 60 rfl rfl rfl ?_
        refine pv_iconst (M := mX7_readPiece) (v := 1) dX7_readPiece_60 61 rfl (by decide) ?_
        refine pv_iadd (M := mX7_readPiece) (v := 6) dX7_readPiece_61 62 rfl (by decide) ?_
        have z113 : (6 : Int32).toInt = 6 := by decide
        refine pv_callv (M := mX7_readPiece) (as := [.int 6]) (st := []) (kc2 := 0) (ks2 := 0) dX7_readPiece_62 wd662 YX7_readCondition ⟨wd664, wd12⟩ (mk_get (tl86 hT)) rfl rfl (s_X7_readCondition_v6 g hT I107 R (by first | omega | assumption | exact (iv_rng _).2 | exact (iv_rng _).1 | decide)) rfl rfl (Nat.le_of_ble_eq_true rfl) (by decide) rfl rfl 65 rfl (fun rv h1 q114 => ?_)
        obtain ⟨m115, n116, v119, rfl, rfl, I117, K118, pv119, qv119, rv119⟩ := q114
        replace rv119 : (m105 86 3).toInt ≤ (m115 86 3).toInt ∧ (m115 86 3).toInt ≤ (m115 86 2).toInt ∧ (m115 86 2).toInt = (m105 86 2).toInt := rv119
        have K118c := K118
        have K118 := K108.trans (K118.sub (fun _ _ q => q))
        show PV _ _ _ _ _ _ _ 65 [.ref 86, .int 5, pv_U] [.int v119] _
        refine pv_if_eq (M := mX7_readPiece) (tgt := 81) dX7_readPiece_65 68 rfl (by decide) (fun c120 => ?_) (fun c120 => ?_)
        · have c120 := iv_eq (X := v119.toInt) (Y := 0) c120 rfl (by decide)
          refine pv_iconst (M := mX7_readPiece) (v := 0) dX7_readPiece_81 82 rfl (by decide) ?_
          have z121 : (0 : Int32).toInt = 0 := by decide
          exact pv_iret (M := mX7_readPiece) dX7_readPiece_82 rfl rfl ⟨_, _, _, rfl, rfl, I117, K118, by decide, by decide, (by refine ⟨?_, ?_, ?_⟩ <;> omega)⟩
        · have c120 := iv_ne (X := v119.toInt) (Y := 0) c120 rfl (by decide)
          refine pv_aload_n (M := mX7_readPiece) 0 dX7_readPiece_68 69 rfl rfl rfl ?_
          refine pv_bipush (M := mX7_readPiece) (v := 41) dX7_readPiece_69 71 rfl (by decide) ?_
          have z122 : (41 : Int32).toInt = 41 := by decide
          refine pv_callv (M := mX7_readPiece) (as := [.int 41]) (st := []) (kc2 := 0) (ks2 := 0) dX7_readPiece_71 wd555 YX7_pass ⟨wd557, wd8⟩ (mk_get (tl86 hT)) rfl rfl (s_X7_pass g hT I117 R 41 (by decide) (by decide) (by first | omega | assumption | exact (iv_rng _).2 | exact (iv_rng _).1 | decide)) rfl rfl (Nat.le_of_ble_eq_true rfl) (by decide) rfl rfl 74 rfl (fun rv h1 q123 => ?_)
          obtain ⟨m124, n125, v128, rfl, rfl, I126, K127, pv128, qv128, rv128⟩ := q123
          replace rv128 : (m115 86 3).toInt ≤ (m124 86 3).toInt ∧ (m124 86 3).toInt ≤ (m124 86 2).toInt ∧ (m124 86 2).toInt = (m115 86 2).toInt := rv128
          have K127c := K127
          have K127 := K118.trans (K127.sub (fun _ _ q => q))
          show PV _ _ _ _ _ _ _ 74 [.ref 86, .int 5, pv_U] [.int v128] _
          refine pv_if_eq (M := mX7_readPiece) (tgt := 81) dX7_readPiece_74 77 rfl (by decide) (fun c129 => ?_) (fun c129 => ?_)
          · have c129 := iv_eq (X := v128.toInt) (Y := 0) c129 rfl (by decide)
            refine pv_iconst (M := mX7_readPiece) (v := 0) dX7_readPiece_81 82 rfl (by decide) ?_
            have z130 : (0 : Int32).toInt = 0 := by decide
            exact pv_iret (M := mX7_readPiece) dX7_readPiece_82 rfl rfl ⟨_, _, _, rfl, rfl, I126, K127, by decide, by decide, (by refine ⟨?_, ?_, ?_⟩ <;> omega)⟩
          · have c129 := iv_ne (X := v128.toInt) (Y := 0) c129 rfl (by decide)
            refine pv_iconst (M := mX7_readPiece) (v := 1) dX7_readPiece_77 78 rfl (by decide) ?_
            refine pv_goto (M := mX7_readPiece) (tgt := 82) dX7_readPiece_78 (by decide) ?_
            have z131 : (1 : Int32).toInt = 1 := by decide
            exact pv_iret (M := mX7_readPiece) dX7_readPiece_82 rfl rfl ⟨_, _, _, rfl, rfl, I126, K127, by decide, by decide, (by refine ⟨?_, ?_, ?_⟩ <;> omega)⟩
  · have c3 := iv_eq (X := v2.toInt) (Y := 33) c3 rfl (by decide)
    refine pv_aload_n (M := mX7_readPiece) 0 dX7_readPiece_9 10 rfl rfl rfl ?_
    refine pv_iload_n (M := mX7_readPiece) 1 dX7_readPiece_10 11 rfl rfl rfl ?_
    have z132 : (5 : Int32).toInt = 5 := by decide
    refine pv_callv (M := mX7_readPiece) (as := [.int 5]) (st := []) (kc2 := 0) (ks2 := 0) dX7_readPiece_11 wd551 YX7_open ⟨wd553, wd7⟩ (mk_get (tl86 hT)) rfl rfl (s_X7_open g hT I R 5 (by first | omega | assumption | exact (iv_rng _).2 | exact (iv_rng _).1 | decide)) rfl rfl (Nat.le_of_ble_eq_true rfl) (by decide) rfl rfl 14 rfl (fun rv h1 q133 => ?_)
    obtain ⟨m134, n135, v138, rfl, rfl, I136, K137, pv138, qv138, rv138⟩ := q133
    replace rv138 : (v138 = 0 ∨ (5 : Int) ≤ 5) ∧ (m 86 3).toInt ≤ (m134 86 3).toInt ∧ (m134 86 3).toInt ≤ (m134 86 2).toInt ∧ (m134 86 2).toInt = (m 86 2).toInt := by have q_ := rv138; (try rw [z132] at q_); exact q_
    have K137c := K137
    have K137 := Kp.trans (K137.sub (fun _ _ q => q))
    show PV _ _ _ _ _ _ _ 14 [.ref 86, .int 5, pv_U] [.int v138] _
    refine pv_if_eq (M := mX7_readPiece) (tgt := 27) dX7_readPiece_14 17 rfl (by decide) (fun c139 => ?_) (fun c139 => ?_)
    · have c139 := iv_eq (X := v138.toInt) (Y := 0) c139 rfl (by decide)
      refine pv_iconst (M := mX7_readPiece) (v := 0) dX7_readPiece_27 28 rfl (by decide) ?_
      have z140 : (0 : Int32).toInt = 0 := by decide
      exact pv_iret (M := mX7_readPiece) dX7_readPiece_28 rfl rfl ⟨_, _, _, rfl, rfl, I136, K137, by decide, by decide, (by refine ⟨?_, ?_, ?_⟩ <;> omega)⟩
    · have pc139 := rv138.1.resolve_left c139
      have c139 := iv_ne (X := v138.toInt) (Y := 0) c139 rfl (by decide)
      refine pv_aload_n (M := mX7_readPiece) 0 dX7_readPiece_17 18 rfl rfl rfl ?_
      refine pv_iload_n (M := mX7_readPiece) 1 dX7_readPiece_18 19 rfl rfl rfl ?_
      refine pv_iconst (M := mX7_readPiece) (v := 1) dX7_readPiece_19 20 rfl (by decide) ?_
      refine pv_iadd (M := mX7_readPiece) (v := 6) dX7_readPiece_20 21 rfl (by decide) ?_
      have z142 : (6 : Int32).toInt = 6 := by decide
      refine pv_callv (M := mX7_readPiece) (as := [.int 6]) (st := []) (kc2 := 0) (ks2 := 0) dX7_readPiece_21 wd674 YX7_readPiece ⟨wd676, wd14⟩ (mk_get (tl86 hT)) rfl rfl (s_X7_readPiece_v6 g hT I136 R (by first | omega | assumption | exact (iv_rng _).2 | exact (iv_rng _).1 | decide)) rfl rfl (Nat.le_of_ble_eq_true rfl) (by decide) rfl rfl 24 rfl (fun rv h1 q143 => ?_)
      obtain ⟨m144, n145, v148, rfl, rfl, I146, K147, pv148, qv148, rv148⟩ := q143
      replace rv148 : (m134 86 3).toInt ≤ (m144 86 3).toInt ∧ (m144 86 3).toInt ≤ (m144 86 2).toInt ∧ (m144 86 2).toInt = (m134 86 2).toInt := rv148
      have K147c := K147
      have K147 := K137.trans (K147.sub (fun _ _ q => q))
      show PV _ _ _ _ _ _ _ 24 [.ref 86, .int 5, pv_U] [.int v148] _
      refine pv_if_ne (M := mX7_readPiece) (tgt := 29) dX7_readPiece_24 27 rfl (by decide) (fun c149 => ?_) (fun c149 => ?_)
      · have c149 := iv_ne (X := v148.toInt) (Y := 0) c149 rfl (by decide)
        refine pv_aload_n (M := mX7_readPiece) 0 dX7_readPiece_29 30 rfl rfl rfl ?_
        refine mv_get (M := mX7_readPiece) (v := .ref lb) dX7_readPiece_30 FX7 1 wd281 (by decide) (tl86 hT) rfl R.2.2.2.1 33 rfl ?_
        refine pv_bipush (M := mX7_readPiece) (v := 33) dX7_readPiece_33 35 rfl (by decide) ?_
        refine pv_iconst (M := mX7_readPiece) (v := 0) dX7_readPiece_35 36 rfl (by decide) ?_
        refine pv_callv (M := mX7_readPiece) (as := [.int 33, .int 0]) (st := []) (kc2 := 0) (ks2 := 0) dX7_readPiece_36 wd567 YX6_emit ⟨wd568, wd569⟩ (mk_get R.2.2.2.2.2.2.1) rfl rfl (s_X6_emit g hT I146 lb R.2.2.2.2.2 33 0 (by decide) (by decide)) rfl rfl (Nat.le_of_ble_eq_true rfl) (by decide) rfl rfl 39 rfl (fun rv h1 q150 => ?_)
        obtain ⟨m151, n152, rfl, rfl, I153, K154, rm151⟩ := q150
        have K154c := K154
        have w155 : (m151 86 3).toInt = (m144 86 3).toInt := congrArg Int32.toInt (K154 86 3 (wr_out (by omega)))
        have w156 : (m151 86 2).toInt = (m144 86 2).toInt := congrArg Int32.toInt (K154 86 2 (wr_out (by omega)))
        have K154 := K147.trans (K154.sub (wr_wr (by omega) (by omega)))
        show PV _ _ _ _ _ _ _ 39 [.ref 86, .int 5, pv_U] [] _
        refine pv_iconst (M := mX7_readPiece) (v := 1) dX7_readPiece_39 40 rfl (by decide) ?_
        have z157 : (1 : Int32).toInt = 1 := by decide
        exact pv_iret (M := mX7_readPiece) dX7_readPiece_40 rfl rfl ⟨_, _, _, rfl, rfl, I153, K154, by decide, by decide, (by refine ⟨?_, ?_, ?_⟩ <;> omega)⟩
      · have c149 := iv_eq (X := v148.toInt) (Y := 0) c149 rfl (by decide)
        refine pv_iconst (M := mX7_readPiece) (v := 0) dX7_readPiece_27 28 rfl (by decide) ?_
        have z158 : (0 : Int32).toInt = 0 := by decide
        exact pv_iret (M := mX7_readPiece) dX7_readPiece_28 rfl rfl ⟨_, _, _, rfl, rfl, I146, K147, by decide, by decide, (by refine ⟨?_, ?_, ?_⟩ <;> omega)⟩

set_option maxHeartbeats 2000000 in
set_option maxRecDepth 20000 in
theorem s_X7_readPart_v5 (g : pv_G) {T : List mv_T} {m : Nat → Nat → Int32} {n : Nat → Nat → Int64} {r : Nat → Value} {la lb : Nat} (hT : TX T) (I : IV BB m) (R : RX T r la lb) (hp0 : (m 86 3).toInt ≤ (m 86 2).toInt) : PM g mX7_readPart yX7_readPart (sqI T BB (wl [(77, 96, none)]) r m 0 1 (fun m' v => (m 86 3).toInt ≤ (m' 86 3).toInt ∧ (m' 86 3).toInt ≤ (m' 86 2).toInt ∧ (m' 86 2).toInt = (m 86 2).toInt)) 12 0 0 [.ref 86, .int 5] (mk T m n r) := by
  have Kp : fr (wl [(77, 96, none)]) m m := fr.rf
  have R0 := R
  have zR := R.2.2.2.2.1.1
  have zR2 := R.2.2.2.2.2.1
  have z65 : 0 ≤ (m 86 3).toInt ∧ (m 86 3).toInt ≤ 160 := I 86 3
  have z66 : 0 ≤ (m 86 2).toInt ∧ (m 86 2).toInt ≤ 160 := I 86 2
  refine PM.of 2 (lo := [.ref 86, .int 5, pv_U, pv_U]) rfl (by decide) rfl rfl (Nat.le_of_ble_eq_true rfl) ?_
  refine pv_aload_n (M := mX7_readPart) 0 dX7_readPart_0 1 rfl rfl rfl ?_
  refine mv_get (M := mX7_readPart) (v := .ref lb) dX7_readPart_1 FX7 1 wd281 (by decide) (tl86 hT) rfl R.2.2.2.1 4 rfl ?_
  refine pv_callv (M := mX7_readPart) (as := []) (st := []) (kc2 := 0) (ks2 := 0) dX7_readPart_4 wd666 YX6_steps ⟨wd667, wd668⟩ (mk_get R.2.2.2.2.2.2.1) rfl rfl (s_X6_steps g hT I lb R.2.2.2.2.2) rfl rfl (Nat.le_of_ble_eq_true rfl) (by decide) rfl rfl 7 rfl (fun rv h1 q1 => ?_)
  obtain ⟨v2, rfl, rfl, pv2, qv2, rv2⟩ := q1
  show PV _ _ _ _ _ _ _ 7 [.ref 86, .int 5, pv_U, pv_U] [.int v2] _
  refine pv_istore_n (M := mX7_readPart) 2 (lo2 := [.ref 86, .int 5, .int v2, pv_U]) dX7_readPart_7 8 rfl rfl (by decide) rfl rfl ?_
  refine pv_iconst (M := mX7_readPart) (v := 0) dX7_readPart_8 9 rfl (by decide) ?_
  refine pv_istore_n (M := mX7_readPart) 3 (lo2 := [.ref 86, .int 5, .int v2, .int 0]) dX7_readPart_9 10 rfl rfl (by decide) rfl rfl ?_
  have lp9 : ∀ (fuel8 : Nat) (y3 : Int32) (m4 : Nat → Nat → Int32) (n5 : Nat → Nat → Int64), (0 ≤ y3.toInt) → (y3.toInt ≤ 160) → ((m 86 3).toInt ≤ (m4 86 3).toInt) → ((m4 86 3).toInt ≤ (m4 86 2).toInt) → ((m4 86 2).toInt = (m 86 2).toInt) → IV BB m4 → fr (wl [(77, 96, none)]) m m4 → ((160 - y3.toInt) : Int).toNat < fuel8 → PV none g mX7_readPart (sqI T BB (wl [(77, 96, none)]) r m 0 1 (fun m' v => (m 86 3).toInt ≤ (m' 86 3).toInt ∧ (m' 86 3).toInt ≤ (m' 86 2).toInt ∧ (m' 86 2).toInt = (m 86 2).toInt)) 12 0 0 10 [.ref 86, .int 5, .int v2, .int y3] [] (mk T m4 n5 r) := by
    intro fuel8
    induction fuel8 with
    | zero => intro y3 m4 n5 b11 b12 b13 b14 b15 I6 K7 z16; omega
    | succ fuel8 ih10 =>
      intro y3 m4 n5 b11 b12 b13 b14 b15 I6 K7 z16
      have z17 : 0 ≤ (m4 86 3).toInt ∧ (m4 86 3).toInt ≤ 160 := I6 86 3
      have z18 : 0 ≤ (m4 86 2).toInt ∧ (m4 86 2).toInt ≤ 160 := I6 86 2
      refine pv_iload_n (M := mX7_readPart) 3 dX7_readPart_10 11 rfl rfl rfl ?_
      refine pv_sipush (M := mX7_readPart) (v := 160) dX7_readPart_11 14 rfl (by decide) ?_
      refine pv_icmp_ge (M := mX7_readPart) (tgt := 65) dX7_readPart_14 17 rfl (by decide) (fun c19 => ?_) (fun c19 => ?_)
      · have c19 := iv_le (X := 160) (Y := y3.toInt) c19 (by decide) rfl
        refine pv_aload_n (M := mX7_readPart) 0 dX7_readPart_65 66 rfl rfl rfl ?_
        refine mv_get (M := mX7_readPart) (v := .ref lb) dX7_readPart_66 FX7 1 wd281 (by decide) (tl86 hT) rfl R.2.2.2.1 69 rfl ?_
        refine pv_bipush (M := mX7_readPart) (v := 38) dX7_readPart_69 71 rfl (by decide) ?_
        refine pv_iload_n (M := mX7_readPart) 2 dX7_readPart_71 72 rfl rfl rfl ?_
        refine pv_callv (M := mX7_readPart) (as := [.int 38, .int v2]) (st := []) (kc2 := 0) (ks2 := 0) dX7_readPart_72 wd678 YX6_aimLeaps ⟨wd679, wd680⟩ (mk_get R.2.2.2.2.2.2.1) rfl rfl (s_X6_aimLeaps g hT I6 lb R.2.2.2.2.2 38 v2) rfl rfl (Nat.le_of_ble_eq_true rfl) (by decide) rfl rfl 75 rfl (fun rv h1 q20 => ?_)
        obtain ⟨m21, n22, rfl, rfl, I23, K24, rm21⟩ := q20
        have K24c := K24
        have w25 : (m21 86 3).toInt = (m4 86 3).toInt := congrArg Int32.toInt (K24 86 3 (wr_out (by omega)))
        have w26 : (m21 86 2).toInt = (m4 86 2).toInt := congrArg Int32.toInt (K24 86 2 (wr_out (by omega)))
        have K24 := K7.trans (K24.sub (wr_wr (by omega) (by omega)))
        show PV _ _ _ _ _ _ _ 75 [.ref 86, .int 5, .int v2, .int y3] [] _
        refine pv_iconst (M := mX7_readPart) (v := 1) dX7_readPart_75 76 rfl (by decide) ?_
        have z27 : (1 : Int32).toInt = 1 := by decide
        exact pv_iret (M := mX7_readPart) dX7_readPart_76 rfl rfl ⟨_, _, _, rfl, rfl, I23, K24, by decide, by decide, (by refine ⟨?_, ?_, ?_⟩ <;> omega)⟩
      · have c19 := iv_nle (X := 160) (Y := y3.toInt) c19 (by decide) rfl
        refine pv_aload_n (M := mX7_readPart) 0 dX7_readPart_17 18 rfl rfl rfl ?_
        refine pv_iload_n (M := mX7_readPart) 1 dX7_readPart_18 19 rfl rfl rfl ?_
        have z28 : (5 : Int32).toInt = 5 := by decide
        refine pv_callv (M := mX7_readPart) (as := [.int 5]) (st := []) (kc2 := 0) (ks2 := 0) dX7_readPart_19 wd674 YX7_readPiece ⟨wd676, wd14⟩ (mk_get (tl86 hT)) rfl rfl (s_X7_readPiece_v5 g hT I6 R (by first | omega | assumption | exact (iv_rng _).2 | exact (iv_rng _).1 | decide)) rfl rfl (Nat.le_of_ble_eq_true rfl) (by decide) rfl rfl 22 rfl (fun rv h1 q29 => ?_)
        obtain ⟨m30, n31, v34, rfl, rfl, I32, K33, pv34, qv34, rv34⟩ := q29
        replace rv34 : (m4 86 3).toInt ≤ (m30 86 3).toInt ∧ (m30 86 3).toInt ≤ (m30 86 2).toInt ∧ (m30 86 2).toInt = (m4 86 2).toInt := rv34
        have K33c := K33
        have K33 := K7.trans (K33.sub (fun _ _ q => q))
        show PV _ _ _ _ _ _ _ 22 [.ref 86, .int 5, .int v2, .int y3] [.int v34] _
        refine pv_if_ne (M := mX7_readPart) (tgt := 27) dX7_readPart_22 25 rfl (by decide) (fun c35 => ?_) (fun c35 => ?_)
        · have c35 := iv_ne (X := v34.toInt) (Y := 0) c35 rfl (by decide)
          refine pv_aload_n (M := mX7_readPart) 0 dX7_readPart_27 28 rfl rfl rfl ?_
          refine pv_callv (M := mX7_readPart) (as := []) (st := []) (kc2 := 0) (ks2 := 0) dX7_readPart_28 wd527 YX7_peek ⟨wd529, wd2⟩ (mk_get (tl86 hT)) rfl rfl (s_X7_peek g hT I32 R) rfl rfl (Nat.le_of_ble_eq_true rfl) (by decide) rfl rfl 31 rfl (fun rv h1 q36 => ?_)
          obtain ⟨v37, rfl, rfl, pv37, qv37, rv37⟩ := q36
          replace rv37 : v37.toInt = -1 ∨ (m30 86 3).toInt < (m30 86 2).toInt := rv37
          show PV _ _ _ _ _ _ _ 31 [.ref 86, .int 5, .int v2, .int y3] [.int v37] _
          refine pv_bipush (M := mX7_readPart) (v := 38) dX7_readPart_31 33 rfl (by decide) ?_
          refine pv_icmp_eq (M := mX7_readPart) (tgt := 39) dX7_readPart_33 36 rfl (by decide) (fun c38 => ?_) (fun c38 => ?_)
          · have c38 := iv_eq (X := v37.toInt) (Y := 38) c38 rfl (by decide)
            refine pv_aload_n (M := mX7_readPart) 0 dX7_readPart_39 40 rfl rfl rfl ?_
            refine mv_get (M := mX7_readPart) (v := .ref lb) dX7_readPart_40 FX7 1 wd281 (by decide) (tl86 hT) rfl R.2.2.2.1 43 rfl ?_
            refine pv_bipush (M := mX7_readPart) (v := 38) dX7_readPart_43 45 rfl (by decide) ?_
            refine pv_iconst (M := mX7_readPart) (v := (-1)) dX7_readPart_45 46 rfl (by decide) ?_
            refine pv_callv (M := mX7_readPart) (as := [.int 38, .int (-1)]) (st := []) (kc2 := 0) (ks2 := 0) dX7_readPart_46 wd567 YX6_emit ⟨wd568, wd569⟩ (mk_get R.2.2.2.2.2.2.1) rfl rfl (s_X6_emit g hT I32 lb R.2.2.2.2.2 38 (-1) (by decide) (by decide)) rfl rfl (Nat.le_of_ble_eq_true rfl) (by decide) rfl rfl 49 rfl (fun rv h1 q39 => ?_)
            obtain ⟨m40, n41, rfl, rfl, I42, K43, rm40⟩ := q39
            have K43c := K43
            have w44 : (m40 86 3).toInt = (m30 86 3).toInt := congrArg Int32.toInt (K43 86 3 (wr_out (by omega)))
            have w45 : (m40 86 2).toInt = (m30 86 2).toInt := congrArg Int32.toInt (K43 86 2 (wr_out (by omega)))
            have K43 := K33.trans (K43.sub (wr_wr (by omega) (by omega)))
            show PV _ _ _ _ _ _ _ 49 [.ref 86, .int 5, .int v2, .int y3] [] _
            refine pv_aload_n (M := mX7_readPart) 0 dX7_readPart_49 50 rfl rfl rfl ?_
            refine pv_dup (M := mX7_readPart) dX7_readPart_50 51 rfl rfl ?_
            refine iv_get (M := mX7_readPart) (l1 := 0) (l2 := 160) dX7_readPart_51 FX7 3 wd283 (by decide) (tl86 hT) rfl I42 rfl 54 rfl (fun v46 ev46 pv46 qv46 => ?_)
            have wv46 : v46.toInt = (m40 86 3).toInt := congrArg Int32.toInt ev46
            refine pv_iconst (M := mX7_readPart) (v := 1) dX7_readPart_54 55 rfl (by decide) ?_
            refine iv_iadd (M := mX7_readPart) (X := v46.toInt) (Y := 1) dX7_readPart_55 56 rfl rfl (by decide) (by omega) (by omega) (fun v47 ev47 => ?_)
            refine iv_put (M := mX7_readPart) (l1 := 0) (l2 := 160) dX7_readPart_56 FX7 3 wd283 (by decide) rfl (tl86 hT) rfl rfl rfl I42 rfl (by omega) (by omega) 59 rfl (fun m48 e51 I49 => ?_)
            have K50 := K43.set e51 (wl_r (by omega) (by omega))
            have w52 : (m48 86 3).toInt = v47.toInt := by rw [e51, up2_eq]
            have w53 : (m48 86 2).toInt = (m40 86 2).toInt := by rw [e51, up2_ne (by omega)]
            refine iv_inc (M := mX7_readPart) (C := 1) dX7_readPart_59 62 rfl rfl (by decide) rfl rfl (by decide) (by omega) (by omega) (fun v54 ev54 => ?_)
            show PV _ _ _ _ _ _ _ 62 [.ref 86, .int 5, .int v2, .int v54] [] _
            refine pv_goto (M := mX7_readPart) (tgt := 10) dX7_readPart_62 (by decide) ?_
            exact ih10 v54 m48 n41 (by first | omega | assumption | exact (iv_rng _).2 | exact (iv_rng _).1 | decide) (by first | omega | assumption | exact (iv_rng _).2 | exact (iv_rng _).1 | decide) (by first | omega | assumption | (show (m 86 3).toInt ≤ (m48 86 3).toInt; omega) | decide) (by first | omega | assumption | (show (m48 86 3).toInt ≤ (m48 86 2).toInt; omega) | decide) (by first | omega | assumption | (show (m48 86 2).toInt = (m 86 2).toInt; omega) | decide) I49 K50 (by omega)
          · have c38 := iv_ne (X := v37.toInt) (Y := 38) c38 rfl (by decide)
            refine pv_goto (M := mX7_readPart) (tgt := 65) dX7_readPart_36 (by decide) ?_
            refine pv_aload_n (M := mX7_readPart) 0 dX7_readPart_65 66 rfl rfl rfl ?_
            refine mv_get (M := mX7_readPart) (v := .ref lb) dX7_readPart_66 FX7 1 wd281 (by decide) (tl86 hT) rfl R.2.2.2.1 69 rfl ?_
            refine pv_bipush (M := mX7_readPart) (v := 38) dX7_readPart_69 71 rfl (by decide) ?_
            refine pv_iload_n (M := mX7_readPart) 2 dX7_readPart_71 72 rfl rfl rfl ?_
            refine pv_callv (M := mX7_readPart) (as := [.int 38, .int v2]) (st := []) (kc2 := 0) (ks2 := 0) dX7_readPart_72 wd678 YX6_aimLeaps ⟨wd679, wd680⟩ (mk_get R.2.2.2.2.2.2.1) rfl rfl (s_X6_aimLeaps g hT I32 lb R.2.2.2.2.2 38 v2) rfl rfl (Nat.le_of_ble_eq_true rfl) (by decide) rfl rfl 75 rfl (fun rv h1 q55 => ?_)
            obtain ⟨m56, n57, rfl, rfl, I58, K59, rm56⟩ := q55
            have K59c := K59
            have w60 : (m56 86 3).toInt = (m30 86 3).toInt := congrArg Int32.toInt (K59 86 3 (wr_out (by omega)))
            have w61 : (m56 86 2).toInt = (m30 86 2).toInt := congrArg Int32.toInt (K59 86 2 (wr_out (by omega)))
            have K59 := K33.trans (K59.sub (wr_wr (by omega) (by omega)))
            show PV _ _ _ _ _ _ _ 75 [.ref 86, .int 5, .int v2, .int y3] [] _
            refine pv_iconst (M := mX7_readPart) (v := 1) dX7_readPart_75 76 rfl (by decide) ?_
            have z62 : (1 : Int32).toInt = 1 := by decide
            exact pv_iret (M := mX7_readPart) dX7_readPart_76 rfl rfl ⟨_, _, _, rfl, rfl, I58, K59, by decide, by decide, (by refine ⟨?_, ?_, ?_⟩ <;> omega)⟩
        · have c35 := iv_eq (X := v34.toInt) (Y := 0) c35 rfl (by decide)
          refine pv_iconst (M := mX7_readPart) (v := 0) dX7_readPart_25 26 rfl (by decide) ?_
          have z63 : (0 : Int32).toInt = 0 := by decide
          exact pv_iret (M := mX7_readPart) dX7_readPart_26 rfl rfl ⟨_, _, _, rfl, rfl, I32, K33, by decide, by decide, (by refine ⟨?_, ?_, ?_⟩ <;> omega)⟩
  have z64 : (0 : Int32).toInt = 0 := by decide
  exact lp9 (((160 - 0) : Int).toNat + 1) 0 m n (by first | omega | assumption | exact (iv_rng _).2 | exact (iv_rng _).1 | decide) (by first | omega | assumption | exact (iv_rng _).2 | exact (iv_rng _).1 | decide) (by first | omega | assumption | (show (m 86 3).toInt ≤ (m 86 3).toInt; omega) | decide) (by first | omega | assumption | (show (m 86 3).toInt ≤ (m 86 2).toInt; omega) | decide) (by first | omega | assumption | (show (m 86 2).toInt = (m 86 2).toInt; omega) | decide) I Kp (by omega)

set_option maxHeartbeats 2000000 in
set_option maxRecDepth 20000 in
theorem s_X7_readCondition_v5 (g : pv_G) {T : List mv_T} {m : Nat → Nat → Int32} {n : Nat → Nat → Int64} {r : Nat → Value} {la lb : Nat} (hT : TX T) (I : IV BB m) (R : RX T r la lb) (hp0 : (m 86 3).toInt ≤ (m 86 2).toInt) : PM g mX7_readCondition yX7_readCondition (sqI T BB (wl [(77, 96, none)]) r m 0 1 (fun m' v => (m 86 3).toInt ≤ (m' 86 3).toInt ∧ (m' 86 3).toInt ≤ (m' 86 2).toInt ∧ (m' 86 2).toInt = (m 86 2).toInt)) 13 0 0 [.ref 86, .int 5] (mk T m n r) := by
  have Kp : fr (wl [(77, 96, none)]) m m := fr.rf
  have R0 := R
  have zR := R.2.2.2.2.1.1
  have zR2 := R.2.2.2.2.2.1
  have z65 : 0 ≤ (m 86 3).toInt ∧ (m 86 3).toInt ≤ 160 := I 86 3
  have z66 : 0 ≤ (m 86 2).toInt ∧ (m 86 2).toInt ≤ 160 := I 86 2
  refine PM.of 2 (lo := [.ref 86, .int 5, pv_U, pv_U]) rfl (by decide) rfl rfl (Nat.le_of_ble_eq_true rfl) ?_
  refine pv_aload_n (M := mX7_readCondition) 0 dX7_readCondition_0 1 rfl rfl rfl ?_
  refine mv_get (M := mX7_readCondition) (v := .ref lb) dX7_readCondition_1 FX7 1 wd281 (by decide) (tl86 hT) rfl R.2.2.2.1 4 rfl ?_
  refine pv_callv (M := mX7_readCondition) (as := []) (st := []) (kc2 := 0) (ks2 := 0) dX7_readCondition_4 wd666 YX6_steps ⟨wd667, wd668⟩ (mk_get R.2.2.2.2.2.2.1) rfl rfl (s_X6_steps g hT I lb R.2.2.2.2.2) rfl rfl (Nat.le_of_ble_eq_true rfl) (by decide) rfl rfl 7 rfl (fun rv h1 q1 => ?_)
  obtain ⟨v2, rfl, rfl, pv2, qv2, rv2⟩ := q1
  show PV _ _ _ _ _ _ _ 7 [.ref 86, .int 5, pv_U, pv_U] [.int v2] _
  refine pv_istore_n (M := mX7_readCondition) 2 (lo2 := [.ref 86, .int 5, .int v2, pv_U]) dX7_readCondition_7 8 rfl rfl (by decide) rfl rfl ?_
  refine pv_iconst (M := mX7_readCondition) (v := 0) dX7_readCondition_8 9 rfl (by decide) ?_
  refine pv_istore_n (M := mX7_readCondition) 3 (lo2 := [.ref 86, .int 5, .int v2, .int 0]) dX7_readCondition_9 10 rfl rfl (by decide) rfl rfl ?_
  have lp9 : ∀ (fuel8 : Nat) (y3 : Int32) (m4 : Nat → Nat → Int32) (n5 : Nat → Nat → Int64), (0 ≤ y3.toInt) → (y3.toInt ≤ 160) → ((m 86 3).toInt ≤ (m4 86 3).toInt) → ((m4 86 3).toInt ≤ (m4 86 2).toInt) → ((m4 86 2).toInt = (m 86 2).toInt) → IV BB m4 → fr (wl [(77, 96, none)]) m m4 → ((160 - y3.toInt) : Int).toNat < fuel8 → PV none g mX7_readCondition (sqI T BB (wl [(77, 96, none)]) r m 0 1 (fun m' v => (m 86 3).toInt ≤ (m' 86 3).toInt ∧ (m' 86 3).toInt ≤ (m' 86 2).toInt ∧ (m' 86 2).toInt = (m 86 2).toInt)) 13 0 0 10 [.ref 86, .int 5, .int v2, .int y3] [] (mk T m4 n5 r) := by
    intro fuel8
    induction fuel8 with
    | zero => intro y3 m4 n5 b11 b12 b13 b14 b15 I6 K7 z16; omega
    | succ fuel8 ih10 =>
      intro y3 m4 n5 b11 b12 b13 b14 b15 I6 K7 z16
      have z17 : 0 ≤ (m4 86 3).toInt ∧ (m4 86 3).toInt ≤ 160 := I6 86 3
      have z18 : 0 ≤ (m4 86 2).toInt ∧ (m4 86 2).toInt ≤ 160 := I6 86 2
      refine pv_iload_n (M := mX7_readCondition) 3 dX7_readCondition_10 11 rfl rfl rfl ?_
      refine pv_sipush (M := mX7_readCondition) (v := 160) dX7_readCondition_11 14 rfl (by decide) ?_
      refine pv_icmp_ge (M := mX7_readCondition) (tgt := 65) dX7_readCondition_14 17 rfl (by decide) (fun c19 => ?_) (fun c19 => ?_)
      · have c19 := iv_le (X := 160) (Y := y3.toInt) c19 (by decide) rfl
        refine pv_aload_n (M := mX7_readCondition) 0 dX7_readCondition_65 66 rfl rfl rfl ?_
        refine mv_get (M := mX7_readCondition) (v := .ref lb) dX7_readCondition_66 FX7 1 wd281 (by decide) (tl86 hT) rfl R.2.2.2.1 69 rfl ?_
        refine pv_bipush (M := mX7_readCondition) (v := 124) dX7_readCondition_69 71 rfl (by decide) ?_
        refine pv_iload_n (M := mX7_readCondition) 2 dX7_readCondition_71 72 rfl rfl rfl ?_
        refine pv_callv (M := mX7_readCondition) (as := [.int 124, .int v2]) (st := []) (kc2 := 0) (ks2 := 0) dX7_readCondition_72 wd678 YX6_aimLeaps ⟨wd679, wd680⟩ (mk_get R.2.2.2.2.2.2.1) rfl rfl (s_X6_aimLeaps g hT I6 lb R.2.2.2.2.2 124 v2) rfl rfl (Nat.le_of_ble_eq_true rfl) (by decide) rfl rfl 75 rfl (fun rv h1 q20 => ?_)
        obtain ⟨m21, n22, rfl, rfl, I23, K24, rm21⟩ := q20
        have K24c := K24
        have w25 : (m21 86 3).toInt = (m4 86 3).toInt := congrArg Int32.toInt (K24 86 3 (wr_out (by omega)))
        have w26 : (m21 86 2).toInt = (m4 86 2).toInt := congrArg Int32.toInt (K24 86 2 (wr_out (by omega)))
        have K24 := K7.trans (K24.sub (wr_wr (by omega) (by omega)))
        show PV _ _ _ _ _ _ _ 75 [.ref 86, .int 5, .int v2, .int y3] [] _
        refine pv_iconst (M := mX7_readCondition) (v := 1) dX7_readCondition_75 76 rfl (by decide) ?_
        have z27 : (1 : Int32).toInt = 1 := by decide
        exact pv_iret (M := mX7_readCondition) dX7_readCondition_76 rfl rfl ⟨_, _, _, rfl, rfl, I23, K24, by decide, by decide, (by refine ⟨?_, ?_, ?_⟩ <;> omega)⟩
      · have c19 := iv_nle (X := 160) (Y := y3.toInt) c19 (by decide) rfl
        refine pv_aload_n (M := mX7_readCondition) 0 dX7_readCondition_17 18 rfl rfl rfl ?_
        refine pv_iload_n (M := mX7_readCondition) 1 dX7_readCondition_18 19 rfl rfl rfl ?_
        have z28 : (5 : Int32).toInt = 5 := by decide
        refine pv_callv (M := mX7_readCondition) (as := [.int 5]) (st := []) (kc2 := 0) (ks2 := 0) dX7_readCondition_19 wd670 YX7_readPart ⟨wd672, wd13⟩ (mk_get (tl86 hT)) rfl rfl (s_X7_readPart_v5 g hT I6 R (by first | omega | assumption | exact (iv_rng _).2 | exact (iv_rng _).1 | decide)) rfl rfl (Nat.le_of_ble_eq_true rfl) (by decide) rfl rfl 22 rfl (fun rv h1 q29 => ?_)
        obtain ⟨m30, n31, v34, rfl, rfl, I32, K33, pv34, qv34, rv34⟩ := q29
        replace rv34 : (m4 86 3).toInt ≤ (m30 86 3).toInt ∧ (m30 86 3).toInt ≤ (m30 86 2).toInt ∧ (m30 86 2).toInt = (m4 86 2).toInt := rv34
        have K33c := K33
        have K33 := K7.trans (K33.sub (fun _ _ q => q))
        show PV _ _ _ _ _ _ _ 22 [.ref 86, .int 5, .int v2, .int y3] [.int v34] _
        refine pv_if_ne (M := mX7_readCondition) (tgt := 27) dX7_readCondition_22 25 rfl (by decide) (fun c35 => ?_) (fun c35 => ?_)
        · have c35 := iv_ne (X := v34.toInt) (Y := 0) c35 rfl (by decide)
          refine pv_aload_n (M := mX7_readCondition) 0 dX7_readCondition_27 28 rfl rfl rfl ?_
          refine pv_callv (M := mX7_readCondition) (as := []) (st := []) (kc2 := 0) (ks2 := 0) dX7_readCondition_28 wd527 YX7_peek ⟨wd529, wd2⟩ (mk_get (tl86 hT)) rfl rfl (s_X7_peek g hT I32 R) rfl rfl (Nat.le_of_ble_eq_true rfl) (by decide) rfl rfl 31 rfl (fun rv h1 q36 => ?_)
          obtain ⟨v37, rfl, rfl, pv37, qv37, rv37⟩ := q36
          replace rv37 : v37.toInt = -1 ∨ (m30 86 3).toInt < (m30 86 2).toInt := rv37
          show PV _ _ _ _ _ _ _ 31 [.ref 86, .int 5, .int v2, .int y3] [.int v37] _
          refine pv_bipush (M := mX7_readCondition) (v := 124) dX7_readCondition_31 33 rfl (by decide) ?_
          refine pv_icmp_eq (M := mX7_readCondition) (tgt := 39) dX7_readCondition_33 36 rfl (by decide) (fun c38 => ?_) (fun c38 => ?_)
          · have c38 := iv_eq (X := v37.toInt) (Y := 124) c38 rfl (by decide)
            refine pv_aload_n (M := mX7_readCondition) 0 dX7_readCondition_39 40 rfl rfl rfl ?_
            refine mv_get (M := mX7_readCondition) (v := .ref lb) dX7_readCondition_40 FX7 1 wd281 (by decide) (tl86 hT) rfl R.2.2.2.1 43 rfl ?_
            refine pv_bipush (M := mX7_readCondition) (v := 124) dX7_readCondition_43 45 rfl (by decide) ?_
            refine pv_iconst (M := mX7_readCondition) (v := (-1)) dX7_readCondition_45 46 rfl (by decide) ?_
            refine pv_callv (M := mX7_readCondition) (as := [.int 124, .int (-1)]) (st := []) (kc2 := 0) (ks2 := 0) dX7_readCondition_46 wd567 YX6_emit ⟨wd568, wd569⟩ (mk_get R.2.2.2.2.2.2.1) rfl rfl (s_X6_emit g hT I32 lb R.2.2.2.2.2 124 (-1) (by decide) (by decide)) rfl rfl (Nat.le_of_ble_eq_true rfl) (by decide) rfl rfl 49 rfl (fun rv h1 q39 => ?_)
            obtain ⟨m40, n41, rfl, rfl, I42, K43, rm40⟩ := q39
            have K43c := K43
            have w44 : (m40 86 3).toInt = (m30 86 3).toInt := congrArg Int32.toInt (K43 86 3 (wr_out (by omega)))
            have w45 : (m40 86 2).toInt = (m30 86 2).toInt := congrArg Int32.toInt (K43 86 2 (wr_out (by omega)))
            have K43 := K33.trans (K43.sub (wr_wr (by omega) (by omega)))
            show PV _ _ _ _ _ _ _ 49 [.ref 86, .int 5, .int v2, .int y3] [] _
            refine pv_aload_n (M := mX7_readCondition) 0 dX7_readCondition_49 50 rfl rfl rfl ?_
            refine pv_dup (M := mX7_readCondition) dX7_readCondition_50 51 rfl rfl ?_
            refine iv_get (M := mX7_readCondition) (l1 := 0) (l2 := 160) dX7_readCondition_51 FX7 3 wd283 (by decide) (tl86 hT) rfl I42 rfl 54 rfl (fun v46 ev46 pv46 qv46 => ?_)
            have wv46 : v46.toInt = (m40 86 3).toInt := congrArg Int32.toInt ev46
            refine pv_iconst (M := mX7_readCondition) (v := 1) dX7_readCondition_54 55 rfl (by decide) ?_
            refine iv_iadd (M := mX7_readCondition) (X := v46.toInt) (Y := 1) dX7_readCondition_55 56 rfl rfl (by decide) (by omega) (by omega) (fun v47 ev47 => ?_)
            refine iv_put (M := mX7_readCondition) (l1 := 0) (l2 := 160) dX7_readCondition_56 FX7 3 wd283 (by decide) rfl (tl86 hT) rfl rfl rfl I42 rfl (by omega) (by omega) 59 rfl (fun m48 e51 I49 => ?_)
            have K50 := K43.set e51 (wl_r (by omega) (by omega))
            have w52 : (m48 86 3).toInt = v47.toInt := by rw [e51, up2_eq]
            have w53 : (m48 86 2).toInt = (m40 86 2).toInt := by rw [e51, up2_ne (by omega)]
            refine iv_inc (M := mX7_readCondition) (C := 1) dX7_readCondition_59 62 rfl rfl (by decide) rfl rfl (by decide) (by omega) (by omega) (fun v54 ev54 => ?_)
            show PV _ _ _ _ _ _ _ 62 [.ref 86, .int 5, .int v2, .int v54] [] _
            refine pv_goto (M := mX7_readCondition) (tgt := 10) dX7_readCondition_62 (by decide) ?_
            exact ih10 v54 m48 n41 (by first | omega | assumption | exact (iv_rng _).2 | exact (iv_rng _).1 | decide) (by first | omega | assumption | exact (iv_rng _).2 | exact (iv_rng _).1 | decide) (by first | omega | assumption | (show (m 86 3).toInt ≤ (m48 86 3).toInt; omega) | decide) (by first | omega | assumption | (show (m48 86 3).toInt ≤ (m48 86 2).toInt; omega) | decide) (by first | omega | assumption | (show (m48 86 2).toInt = (m 86 2).toInt; omega) | decide) I49 K50 (by omega)
          · have c38 := iv_ne (X := v37.toInt) (Y := 124) c38 rfl (by decide)
            refine pv_goto (M := mX7_readCondition) (tgt := 65) dX7_readCondition_36 (by decide) ?_
            refine pv_aload_n (M := mX7_readCondition) 0 dX7_readCondition_65 66 rfl rfl rfl ?_
            refine mv_get (M := mX7_readCondition) (v := .ref lb) dX7_readCondition_66 FX7 1 wd281 (by decide) (tl86 hT) rfl R.2.2.2.1 69 rfl ?_
            refine pv_bipush (M := mX7_readCondition) (v := 124) dX7_readCondition_69 71 rfl (by decide) ?_
            refine pv_iload_n (M := mX7_readCondition) 2 dX7_readCondition_71 72 rfl rfl rfl ?_
            refine pv_callv (M := mX7_readCondition) (as := [.int 124, .int v2]) (st := []) (kc2 := 0) (ks2 := 0) dX7_readCondition_72 wd678 YX6_aimLeaps ⟨wd679, wd680⟩ (mk_get R.2.2.2.2.2.2.1) rfl rfl (s_X6_aimLeaps g hT I32 lb R.2.2.2.2.2 124 v2) rfl rfl (Nat.le_of_ble_eq_true rfl) (by decide) rfl rfl 75 rfl (fun rv h1 q55 => ?_)
            obtain ⟨m56, n57, rfl, rfl, I58, K59, rm56⟩ := q55
            have K59c := K59
            have w60 : (m56 86 3).toInt = (m30 86 3).toInt := congrArg Int32.toInt (K59 86 3 (wr_out (by omega)))
            have w61 : (m56 86 2).toInt = (m30 86 2).toInt := congrArg Int32.toInt (K59 86 2 (wr_out (by omega)))
            have K59 := K33.trans (K59.sub (wr_wr (by omega) (by omega)))
            show PV _ _ _ _ _ _ _ 75 [.ref 86, .int 5, .int v2, .int y3] [] _
            refine pv_iconst (M := mX7_readCondition) (v := 1) dX7_readCondition_75 76 rfl (by decide) ?_
            have z62 : (1 : Int32).toInt = 1 := by decide
            exact pv_iret (M := mX7_readCondition) dX7_readCondition_76 rfl rfl ⟨_, _, _, rfl, rfl, I58, K59, by decide, by decide, (by refine ⟨?_, ?_, ?_⟩ <;> omega)⟩
        · have c35 := iv_eq (X := v34.toInt) (Y := 0) c35 rfl (by decide)
          refine pv_iconst (M := mX7_readCondition) (v := 0) dX7_readCondition_25 26 rfl (by decide) ?_
          have z63 : (0 : Int32).toInt = 0 := by decide
          exact pv_iret (M := mX7_readCondition) dX7_readCondition_26 rfl rfl ⟨_, _, _, rfl, rfl, I32, K33, by decide, by decide, (by refine ⟨?_, ?_, ?_⟩ <;> omega)⟩
  have z64 : (0 : Int32).toInt = 0 := by decide
  exact lp9 (((160 - 0) : Int).toNat + 1) 0 m n (by first | omega | assumption | exact (iv_rng _).2 | exact (iv_rng _).1 | decide) (by first | omega | assumption | exact (iv_rng _).2 | exact (iv_rng _).1 | decide) (by first | omega | assumption | (show (m 86 3).toInt ≤ (m 86 3).toInt; omega) | decide) (by first | omega | assumption | (show (m 86 3).toInt ≤ (m 86 2).toInt; omega) | decide) (by first | omega | assumption | (show (m 86 2).toInt = (m 86 2).toInt; omega) | decide) I Kp (by omega)

set_option maxHeartbeats 2000000 in
set_option maxRecDepth 20000 in
theorem s_X7_readFactor_v4 (g : pv_G) {T : List mv_T} {m : Nat → Nat → Int32} {n : Nat → Nat → Int64} {r : Nat → Value} {la lb : Nat} (hT : TX T) (I : IV BB m) (R : RX T r la lb) (hp0 : (m 86 3).toInt ≤ (m 86 2).toInt) : PM g mX7_readFactor yX7_readFactor (sqI T BB (wl [(77, 96, none)]) r m 0 1 (fun m' v => (m 86 3).toInt ≤ (m' 86 3).toInt ∧ (m' 86 3).toInt ≤ (m' 86 2).toInt ∧ (m' 86 2).toInt = (m 86 2).toInt)) 11 0 0 [.ref 86, .int 4] (mk T m n r) := by
  have Kp : fr (wl [(77, 96, none)]) m m := fr.rf
  have R0 := R
  have zR := R.2.2.2.2.1.1
  have zR2 := R.2.2.2.2.2.1
  have z82 : 0 ≤ (m 86 3).toInt ∧ (m 86 3).toInt ≤ 160 := I 86 3
  have z83 : 0 ≤ (m 86 2).toInt ∧ (m 86 2).toInt ≤ 160 := I 86 2
  refine PM.of 1 (lo := [.ref 86, .int 4, pv_U]) rfl (by decide) rfl rfl (Nat.le_of_ble_eq_true rfl) ?_
  refine pv_aload_n (M := mX7_readFactor) 0 dX7_readFactor_0 1 rfl rfl rfl ?_
  refine pv_callv (M := mX7_readFactor) (as := []) (st := []) (kc2 := 0) (ks2 := 0) dX7_readFactor_1 wd527 YX7_peek ⟨wd529, wd2⟩ (mk_get (tl86 hT)) rfl rfl (s_X7_peek g hT I R) rfl rfl (Nat.le_of_ble_eq_true rfl) (by decide) rfl rfl 4 rfl (fun rv h1 q1 => ?_)
  obtain ⟨v2, rfl, rfl, pv2, qv2, rv2⟩ := q1
  replace rv2 : v2.toInt = -1 ∨ (m 86 3).toInt < (m 86 2).toInt := rv2
  show PV _ _ _ _ _ _ _ 4 [.ref 86, .int 4, pv_U] [.int v2] _
  refine pv_bipush (M := mX7_readFactor) (v := 91) dX7_readFactor_4 6 rfl (by decide) ?_
  refine pv_icmp_ne (M := mX7_readFactor) (tgt := 42) dX7_readFactor_6 9 rfl (by decide) (fun c3 => ?_) (fun c3 => ?_)
  · have c3 := iv_ne (X := v2.toInt) (Y := 91) c3 rfl (by decide)
    refine pv_aload_n (M := mX7_readFactor) 0 dX7_readFactor_42 43 rfl rfl rfl ?_
    refine pv_callv (M := mX7_readFactor) (as := []) (st := []) (kc2 := 0) (ks2 := 0) dX7_readFactor_43 wd559 YX7_digitAhead ⟨wd561, wd9⟩ (mk_get (tl86 hT)) rfl rfl (s_X7_digitAhead g hT I R) rfl rfl (Nat.le_of_ble_eq_true rfl) (by decide) rfl rfl 46 rfl (fun rv h1 q4 => ?_)
    obtain ⟨v5, rfl, rfl, pv5, qv5, rv5⟩ := q4
    replace rv5 : v5 = 0 ∨ ((m 86 3).toInt < (m 86 2).toInt ∧ 48 ≤ (m 87 (m 86 3).toInt.toNat).toInt ∧ (m 87 (m 86 3).toInt.toNat).toInt ≤ 57) := rv5
    show PV _ _ _ _ _ _ _ 46 [.ref 86, .int 4, pv_U] [.int v5] _
    refine pv_if_eq (M := mX7_readFactor) (tgt := 54) dX7_readFactor_46 49 rfl (by decide) (fun c6 => ?_) (fun c6 => ?_)
    · have c6 := iv_eq (X := v5.toInt) (Y := 0) c6 rfl (by decide)
      refine pv_aload_n (M := mX7_readFactor) 0 dX7_readFactor_54 55 rfl rfl rfl ?_
      refine pv_callv (M := mX7_readFactor) (as := []) (st := []) (kc2 := 0) (ks2 := 0) dX7_readFactor_55 wd527 YX7_peek ⟨wd529, wd2⟩ (mk_get (tl86 hT)) rfl rfl (s_X7_peek g hT I R) rfl rfl (Nat.le_of_ble_eq_true rfl) (by decide) rfl rfl 58 rfl (fun rv h1 q7 => ?_)
      obtain ⟨v8, rfl, rfl, pv8, qv8, rv8⟩ := q7
      replace rv8 : v8.toInt = -1 ∨ (m 86 3).toInt < (m 86 2).toInt := rv8
      show PV _ _ _ _ _ _ _ 58 [.ref 86, .int 4, pv_U] [.int v8] _
      refine pv_iconst (M := mX7_readFactor) (v := (-1)) dX7_readFactor_58 59 rfl (by decide) ?_
      refine pv_icmp_ne (M := mX7_readFactor) (tgt := 66) dX7_readFactor_59 62 rfl (by decide) (fun c9 => ?_) (fun c9 => ?_)
      · have c9 := iv_ne (X := v8.toInt) (Y := (-1)) c9 rfl (by decide)
        refine pv_ldcS (M := mX7_readFactor) dX7_readFactor_66 rfl 68 rfl ?_
        refine pv_aload_n (M := mX7_readFactor) 0 dX7_readFactor_68 69 rfl rfl rfl ?_
        refine pv_callv (M := mX7_readFactor) (as := []) (st := [.retAddr (g.2.2.1 6 + 1)]) (kc2 := 0) (ks2 := 0) dX7_readFactor_69 wd527 YX7_peek ⟨wd529, wd2⟩ (mk_get (tl86 hT)) rfl rfl (s_X7_peek g hT I R) rfl rfl (Nat.le_of_ble_eq_true rfl) (by decide) rfl rfl 72 rfl (fun rv h1 q10 => ?_)
        obtain ⟨v11, rfl, rfl, pv11, qv11, rv11⟩ := q10
        replace rv11 : v11.toInt = -1 ∨ (m 86 3).toInt < (m 86 2).toInt := rv11
        show PV _ _ _ _ _ _ _ 72 [.ref 86, .int 4, pv_U] [.int v11, .retAddr (g.2.2.1 6 + 1)] _
        refine iv_i2cU (M := mX7_readFactor) dX7_readFactor_72 73 rfl (fun v12 ev12 => ?_)
        refine pv_callvS (M := mX7_readFactor) (as := [.int v12]) (st := []) (kc2 := 0) (ks2 := 0) dX7_readFactor_73 wd572 YJ0_indexOf_0f7a4 ⟨wd573, wd574⟩ rfl (s_J0_indexOf_0f7a4 g hT I v12) rfl rfl (Nat.le_of_ble_eq_true rfl) (by decide) rfl rfl 76 rfl (fun rv h1 q13 => ?_)
        obtain ⟨v14, rfl, rfl, pv14, qv14, rv14⟩ := q13
        show PV _ _ _ _ _ _ _ 76 [.ref 86, .int 4, pv_U] [.int v14] _
        refine pv_istore_n (M := mX7_readFactor) 2 (lo2 := [.ref 86, .int 4, .int v14]) dX7_readFactor_76 77 rfl rfl (by decide) rfl rfl ?_
        refine pv_iload_n (M := mX7_readFactor) 2 dX7_readFactor_77 78 rfl rfl rfl ?_
        refine pv_if_ge (M := mX7_readFactor) (tgt := 87) dX7_readFactor_78 81 rfl (by decide) (fun c15 => ?_) (fun c15 => ?_)
        · have c15 := iv_le (X := 0) (Y := v14.toInt) c15 (by decide) rfl
          refine pv_aload_n (M := mX7_readFactor) 0 dX7_readFactor_87 88 rfl rfl rfl ?_
          refine mv_get (M := mX7_readFactor) (v := .ref lb) dX7_readFactor_88 FX7 1 wd281 (by decide) (tl86 hT) rfl R.2.2.2.1 91 rfl ?_
          refine pv_bipush (M := mX7_readFactor) (v := 36) dX7_readFactor_91 93 rfl (by decide) ?_
          refine pv_iload_n (M := mX7_readFactor) 2 dX7_readFactor_93 94 rfl rfl rfl ?_
          refine pv_callv (M := mX7_readFactor) (as := [.int 36, .int v14]) (st := []) (kc2 := 0) (ks2 := 0) dX7_readFactor_94 wd567 YX6_emit ⟨wd568, wd569⟩ (mk_get R.2.2.2.2.2.2.1) rfl rfl (s_X6_emit g hT I lb R.2.2.2.2.2 36 v14 (by omega) (by omega)) rfl rfl (Nat.le_of_ble_eq_true rfl) (by decide) rfl rfl 97 rfl (fun rv h1 q16 => ?_)
          obtain ⟨m17, n18, rfl, rfl, I19, K20, rm17⟩ := q16
          have K20c := K20
          have w21 : (m17 86 3).toInt = (m 86 3).toInt := congrArg Int32.toInt (K20 86 3 (wr_out (by omega)))
          have w22 : (m17 86 2).toInt = (m 86 2).toInt := congrArg Int32.toInt (K20 86 2 (wr_out (by omega)))
          have K20 := Kp.trans (K20.sub (wr_wr (by omega) (by omega)))
          show PV _ _ _ _ _ _ _ 97 [.ref 86, .int 4, .int v14] [] _
          refine pv_aload_n (M := mX7_readFactor) 0 dX7_readFactor_97 98 rfl rfl rfl ?_
          refine pv_dup (M := mX7_readFactor) dX7_readFactor_98 99 rfl rfl ?_
          refine iv_get (M := mX7_readFactor) (l1 := 0) (l2 := 160) dX7_readFactor_99 FX7 3 wd283 (by decide) (tl86 hT) rfl I19 rfl 102 rfl (fun v23 ev23 pv23 qv23 => ?_)
          have wv23 : v23.toInt = (m17 86 3).toInt := congrArg Int32.toInt ev23
          refine pv_iconst (M := mX7_readFactor) (v := 1) dX7_readFactor_102 103 rfl (by decide) ?_
          refine iv_iadd (M := mX7_readFactor) (X := v23.toInt) (Y := 1) dX7_readFactor_103 104 rfl rfl (by decide) (by omega) (by omega) (fun v24 ev24 => ?_)
          refine iv_put (M := mX7_readFactor) (l1 := 0) (l2 := 160) dX7_readFactor_104 FX7 3 wd283 (by decide) rfl (tl86 hT) rfl rfl rfl I19 rfl (by omega) (by omega) 107 rfl (fun m25 e28 I26 => ?_)
          have K27 := K20.set e28 (wl_r (by omega) (by omega))
          have w29 : (m25 86 3).toInt = v24.toInt := by rw [e28, up2_eq]
          have w30 : (m25 86 2).toInt = (m17 86 2).toInt := by rw [e28, up2_ne (by omega)]
          refine pv_iconst (M := mX7_readFactor) (v := 1) dX7_readFactor_107 108 rfl (by decide) ?_
          have z31 : (1 : Int32).toInt = 1 := by decide
          exact pv_iret (M := mX7_readFactor) dX7_readFactor_108 rfl rfl ⟨_, _, _, rfl, rfl, I26, K27, by decide, by decide, (by refine ⟨?_, ?_, ?_⟩ <;> omega)⟩
        · have c15 := iv_nle (X := 0) (Y := v14.toInt) c15 (by decide) rfl
          refine pv_aload_n (M := mX7_readFactor) 0 dX7_readFactor_81 82 rfl rfl rfl ?_
          refine pv_iconst (M := mX7_readFactor) (v := 1) dX7_readFactor_82 83 rfl (by decide) ?_
          have z32 : (1 : Int32).toInt = 1 := by decide
          refine pv_callv (M := mX7_readFactor) (as := [.int 1]) (st := []) (kc2 := 0) (ks2 := 0) dX7_readFactor_83 wd531 YX7_fail ⟨wd533, wd3⟩ (mk_get (tl86 hT)) rfl rfl (s_X7_fail g hT I R 1 (by first | omega | assumption | exact (iv_rng _).2 | exact (iv_rng _).1 | decide)) rfl rfl (Nat.le_of_ble_eq_true rfl) (by decide) rfl rfl 86 rfl (fun rv h1 q33 => ?_)
          obtain ⟨m34, n35, v38, rfl, rfl, I36, K37, pv38, qv38, rv38⟩ := q33
          replace rv38 : v38.toInt = 0 ∧ (m 86 3).toInt ≤ (m34 86 3).toInt ∧ (m34 86 3).toInt ≤ (m34 86 2).toInt ∧ (m34 86 2).toInt = (m 86 2).toInt := rv38
          have K37c := K37
          have K37 := Kp.trans (K37.sub (fun _ _ q => q))
          show PV _ _ _ _ _ _ _ 86 [.ref 86, .int 4, .int v14] [.int v38] _
          exact pv_iret (M := mX7_readFactor) dX7_readFactor_86 rfl (iv_nz (by omega) (by omega)) ⟨_, _, _, rfl, rfl, I36, K37, by omega, by omega, (by refine ⟨?_, ?_, ?_⟩ <;> omega)⟩
      · have c9 := iv_eq (X := v8.toInt) (Y := (-1)) c9 rfl (by decide)
        refine pv_iconst (M := mX7_readFactor) (v := (-1)) dX7_readFactor_62 63 rfl (by decide) ?_
        refine pv_goto (M := mX7_readFactor) (tgt := 76) dX7_readFactor_63 (by decide) ?_
        refine pv_istore_n (M := mX7_readFactor) 2 (lo2 := [.ref 86, .int 4, .int (-1)]) dX7_readFactor_76 77 rfl rfl (by decide) rfl rfl ?_
        refine pv_iload_n (M := mX7_readFactor) 2 dX7_readFactor_77 78 rfl rfl rfl ?_
        refine pv_if_ge (M := mX7_readFactor) (tgt := 87) dX7_readFactor_78 81 rfl (by decide) (fun q => absurd q (by decide)) (fun _ => ?_)
        refine pv_aload_n (M := mX7_readFactor) 0 dX7_readFactor_81 82 rfl rfl rfl ?_
        refine pv_iconst (M := mX7_readFactor) (v := 1) dX7_readFactor_82 83 rfl (by decide) ?_
        have z40 : (1 : Int32).toInt = 1 := by decide
        refine pv_callv (M := mX7_readFactor) (as := [.int 1]) (st := []) (kc2 := 0) (ks2 := 0) dX7_readFactor_83 wd531 YX7_fail ⟨wd533, wd3⟩ (mk_get (tl86 hT)) rfl rfl (s_X7_fail g hT I R 1 (by first | omega | assumption | exact (iv_rng _).2 | exact (iv_rng _).1 | decide)) rfl rfl (Nat.le_of_ble_eq_true rfl) (by decide) rfl rfl 86 rfl (fun rv h1 q41 => ?_)
        obtain ⟨m42, n43, v46, rfl, rfl, I44, K45, pv46, qv46, rv46⟩ := q41
        replace rv46 : v46.toInt = 0 ∧ (m 86 3).toInt ≤ (m42 86 3).toInt ∧ (m42 86 3).toInt ≤ (m42 86 2).toInt ∧ (m42 86 2).toInt = (m 86 2).toInt := rv46
        have K45c := K45
        have K45 := Kp.trans (K45.sub (fun _ _ q => q))
        show PV _ _ _ _ _ _ _ 86 [.ref 86, .int 4, .int (-1)] [.int v46] _
        exact pv_iret (M := mX7_readFactor) dX7_readFactor_86 rfl (iv_nz (by omega) (by omega)) ⟨_, _, _, rfl, rfl, I44, K45, by omega, by omega, (by refine ⟨?_, ?_, ?_⟩ <;> omega)⟩
    · have pc6 := rv5.resolve_left c6
      have c6 := iv_ne (X := v5.toInt) (Y := 0) c6 rfl (by decide)
      refine pv_aload_n (M := mX7_readFactor) 0 dX7_readFactor_49 50 rfl rfl rfl ?_
      refine pv_callv (M := mX7_readFactor) (as := []) (st := []) (kc2 := 0) (ks2 := 0) dX7_readFactor_50 wd563 YX7_readNumber ⟨wd565, wd10⟩ (mk_get (tl86 hT)) rfl rfl (s_X7_readNumber g hT I R (by first | omega | assumption | exact (iv_rng _).2 | exact (iv_rng _).1 | decide)) rfl rfl (Nat.le_of_ble_eq_true rfl) (by decide) rfl rfl 53 rfl (fun rv h1 q47 => ?_)
      obtain ⟨m48, n49, v52, rfl, rfl, I50, K51, pv52, qv52, rv52⟩ := q47
      replace rv52 : (m 86 3).toInt ≤ (m48 86 3).toInt ∧ (m48 86 3).toInt ≤ (m48 86 2).toInt ∧ (m48 86 2).toInt = (m 86 2).toInt := rv52
      have K51c := K51
      have K51 := Kp.trans (K51.sub (fun _ _ q => q))
      show PV _ _ _ _ _ _ _ 53 [.ref 86, .int 4, pv_U] [.int v52] _
      exact pv_iret (M := mX7_readFactor) dX7_readFactor_53 rfl (iv_nz (by omega) (by omega)) ⟨_, _, _, rfl, rfl, I50, K51, by omega, by omega, (by refine ⟨?_, ?_, ?_⟩ <;> omega)⟩
  · have c3 := iv_eq (X := v2.toInt) (Y := 91) c3 rfl (by decide)
    refine pv_aload_n (M := mX7_readFactor) 0 dX7_readFactor_9 10 rfl rfl rfl ?_
    refine pv_iload_n (M := mX7_readFactor) 1 dX7_readFactor_10 11 rfl rfl rfl ?_
    have z53 : (4 : Int32).toInt = 4 := by decide
    refine pv_callv (M := mX7_readFactor) (as := [.int 4]) (st := []) (kc2 := 0) (ks2 := 0) dX7_readFactor_11 wd551 YX7_open ⟨wd553, wd7⟩ (mk_get (tl86 hT)) rfl rfl (s_X7_open g hT I R 4 (by first | omega | assumption | exact (iv_rng _).2 | exact (iv_rng _).1 | decide)) rfl rfl (Nat.le_of_ble_eq_true rfl) (by decide) rfl rfl 14 rfl (fun rv h1 q54 => ?_)
    obtain ⟨m55, n56, v59, rfl, rfl, I57, K58, pv59, qv59, rv59⟩ := q54
    replace rv59 : (v59 = 0 ∨ (4 : Int) ≤ 5) ∧ (m 86 3).toInt ≤ (m55 86 3).toInt ∧ (m55 86 3).toInt ≤ (m55 86 2).toInt ∧ (m55 86 2).toInt = (m 86 2).toInt := by have q_ := rv59; (try rw [z53] at q_); exact q_
    have K58c := K58
    have K58 := Kp.trans (K58.sub (fun _ _ q => q))
    show PV _ _ _ _ _ _ _ 14 [.ref 86, .int 4, pv_U] [.int v59] _
    refine pv_if_eq (M := mX7_readFactor) (tgt := 40) dX7_readFactor_14 17 rfl (by decide) (fun c60 => ?_) (fun c60 => ?_)
    · have c60 := iv_eq (X := v59.toInt) (Y := 0) c60 rfl (by decide)
      refine pv_iconst (M := mX7_readFactor) (v := 0) dX7_readFactor_40 41 rfl (by decide) ?_
      have z61 : (0 : Int32).toInt = 0 := by decide
      exact pv_iret (M := mX7_readFactor) dX7_readFactor_41 rfl rfl ⟨_, _, _, rfl, rfl, I57, K58, by decide, by decide, (by refine ⟨?_, ?_, ?_⟩ <;> omega)⟩
    · have pc60 := rv59.1.resolve_left c60
      have c60 := iv_ne (X := v59.toInt) (Y := 0) c60 rfl (by decide)
      refine pv_aload_n (M := mX7_readFactor) 0 dX7_readFactor_17 18 rfl rfl rfl ?_
      refine pv_iload_n (M := mX7_readFactor) 1 dX7_readFactor_18 19 rfl rfl rfl ?_
      refine pv_iconst (M := mX7_readFactor) (v := 1) dX7_readFactor_19 20 rfl (by decide) ?_
      refine pv_iadd (M := mX7_readFactor) (v := 5) dX7_readFactor_20 21 rfl (by decide) ?_
      have z63 : (5 : Int32).toInt = 5 := by decide
      refine pv_callv (M := mX7_readFactor) (as := [.int 5]) (st := []) (kc2 := 0) (ks2 := 0) dX7_readFactor_21 wd539 YX7_readSum ⟨wd541, wd4⟩ (mk_get (tl86 hT)) rfl rfl (s_X7_readSum_v5 g hT I57 R (by first | omega | assumption | exact (iv_rng _).2 | exact (iv_rng _).1 | decide)) rfl rfl (Nat.le_of_ble_eq_true rfl) (by decide) rfl rfl 24 rfl (fun rv h1 q64 => ?_)
      obtain ⟨m65, n66, v69, rfl, rfl, I67, K68, pv69, qv69, rv69⟩ := q64
      replace rv69 : (m55 86 3).toInt ≤ (m65 86 3).toInt ∧ (m65 86 3).toInt ≤ (m65 86 2).toInt ∧ (m65 86 2).toInt = (m55 86 2).toInt := rv69
      have K68c := K68
      have K68 := K58.trans (K68.sub (fun _ _ q => q))
      show PV _ _ _ _ _ _ _ 24 [.ref 86, .int 4, pv_U] [.int v69] _
      refine pv_if_eq (M := mX7_readFactor) (tgt := 40) dX7_readFactor_24 27 rfl (by decide) (fun c70 => ?_) (fun c70 => ?_)
      · have c70 := iv_eq (X := v69.toInt) (Y := 0) c70 rfl (by decide)
        refine pv_iconst (M := mX7_readFactor) (v := 0) dX7_readFactor_40 41 rfl (by decide) ?_
        have z71 : (0 : Int32).toInt = 0 := by decide
        exact pv_iret (M := mX7_readFactor) dX7_readFactor_41 rfl rfl ⟨_, _, _, rfl, rfl, I67, K68, by decide, by decide, (by refine ⟨?_, ?_, ?_⟩ <;> omega)⟩
      · have c70 := iv_ne (X := v69.toInt) (Y := 0) c70 rfl (by decide)
        refine pv_aload_n (M := mX7_readFactor) 0 dX7_readFactor_27 28 rfl rfl rfl ?_
        refine pv_bipush (M := mX7_readFactor) (v := 93) dX7_readFactor_28 30 rfl (by decide) ?_
        have z72 : (93 : Int32).toInt = 93 := by decide
        refine pv_callv (M := mX7_readFactor) (as := [.int 93]) (st := []) (kc2 := 0) (ks2 := 0) dX7_readFactor_30 wd555 YX7_pass ⟨wd557, wd8⟩ (mk_get (tl86 hT)) rfl rfl (s_X7_pass g hT I67 R 93 (by decide) (by decide) (by first | omega | assumption | exact (iv_rng _).2 | exact (iv_rng _).1 | decide)) rfl rfl (Nat.le_of_ble_eq_true rfl) (by decide) rfl rfl 33 rfl (fun rv h1 q73 => ?_)
        obtain ⟨m74, n75, v78, rfl, rfl, I76, K77, pv78, qv78, rv78⟩ := q73
        replace rv78 : (m65 86 3).toInt ≤ (m74 86 3).toInt ∧ (m74 86 3).toInt ≤ (m74 86 2).toInt ∧ (m74 86 2).toInt = (m65 86 2).toInt := rv78
        have K77c := K77
        have K77 := K68.trans (K77.sub (fun _ _ q => q))
        show PV _ _ _ _ _ _ _ 33 [.ref 86, .int 4, pv_U] [.int v78] _
        refine pv_if_eq (M := mX7_readFactor) (tgt := 40) dX7_readFactor_33 36 rfl (by decide) (fun c79 => ?_) (fun c79 => ?_)
        · have c79 := iv_eq (X := v78.toInt) (Y := 0) c79 rfl (by decide)
          refine pv_iconst (M := mX7_readFactor) (v := 0) dX7_readFactor_40 41 rfl (by decide) ?_
          have z80 : (0 : Int32).toInt = 0 := by decide
          exact pv_iret (M := mX7_readFactor) dX7_readFactor_41 rfl rfl ⟨_, _, _, rfl, rfl, I76, K77, by decide, by decide, (by refine ⟨?_, ?_, ?_⟩ <;> omega)⟩
        · have c79 := iv_ne (X := v78.toInt) (Y := 0) c79 rfl (by decide)
          refine pv_iconst (M := mX7_readFactor) (v := 1) dX7_readFactor_36 37 rfl (by decide) ?_
          refine pv_goto (M := mX7_readFactor) (tgt := 41) dX7_readFactor_37 (by decide) ?_
          have z81 : (1 : Int32).toInt = 1 := by decide
          exact pv_iret (M := mX7_readFactor) dX7_readFactor_41 rfl rfl ⟨_, _, _, rfl, rfl, I76, K77, by decide, by decide, (by refine ⟨?_, ?_, ?_⟩ <;> omega)⟩

set_option maxHeartbeats 2000000 in
set_option maxRecDepth 20000 in
theorem s_X7_readTerm_v4 (g : pv_G) {T : List mv_T} {m : Nat → Nat → Int32} {n : Nat → Nat → Int64} {r : Nat → Value} {la lb : Nat} (hT : TX T) (I : IV BB m) (R : RX T r la lb) (hp0 : (m 86 3).toInt ≤ (m 86 2).toInt) : PM g mX7_readTerm yX7_readTerm (sqI T BB (wl [(77, 96, none)]) r m 0 1 (fun m' v => (m 86 3).toInt ≤ (m' 86 3).toInt ∧ (m' 86 3).toInt ≤ (m' 86 2).toInt ∧ (m' 86 2).toInt = (m 86 2).toInt)) 12 0 0 [.ref 86, .int 4] (mk T m n r) := by
  have Kp : fr (wl [(77, 96, none)]) m m := fr.rf
  have R0 := R
  have zR := R.2.2.2.2.1.1
  have zR2 := R.2.2.2.2.2.1
  have z60 : 0 ≤ (m 86 3).toInt ∧ (m 86 3).toInt ≤ 160 := I 86 3
  have z61 : 0 ≤ (m 86 2).toInt ∧ (m 86 2).toInt ≤ 160 := I 86 2
  refine PM.of 2 (lo := [.ref 86, .int 4, pv_U, pv_U]) rfl (by decide) rfl rfl (Nat.le_of_ble_eq_true rfl) ?_
  refine pv_aload_n (M := mX7_readTerm) 0 dX7_readTerm_0 1 rfl rfl rfl ?_
  refine pv_iload_n (M := mX7_readTerm) 1 dX7_readTerm_1 2 rfl rfl rfl ?_
  have z1 : (4 : Int32).toInt = 4 := by decide
  refine pv_callv (M := mX7_readTerm) (as := [.int 4]) (st := []) (kc2 := 0) (ks2 := 0) dX7_readTerm_2 wd547 YX7_readFactor ⟨wd549, wd6⟩ (mk_get (tl86 hT)) rfl rfl (s_X7_readFactor_v4 g hT I R (by first | omega | assumption | exact (iv_rng _).2 | exact (iv_rng _).1 | decide)) rfl rfl (Nat.le_of_ble_eq_true rfl) (by decide) rfl rfl 5 rfl (fun rv h1 q2 => ?_)
  obtain ⟨m3, n4, v7, rfl, rfl, I5, K6, pv7, qv7, rv7⟩ := q2
  replace rv7 : (m 86 3).toInt ≤ (m3 86 3).toInt ∧ (m3 86 3).toInt ≤ (m3 86 2).toInt ∧ (m3 86 2).toInt = (m 86 2).toInt := rv7
  have K6c := K6
  have K6 := Kp.trans (K6.sub (fun _ _ q => q))
  show PV _ _ _ _ _ _ _ 5 [.ref 86, .int 4, pv_U, pv_U] [.int v7] _
  refine pv_if_ne (M := mX7_readTerm) (tgt := 10) dX7_readTerm_5 8 rfl (by decide) (fun c8 => ?_) (fun c8 => ?_)
  · have c8 := iv_ne (X := v7.toInt) (Y := 0) c8 rfl (by decide)
    refine pv_iconst (M := mX7_readTerm) (v := 0) dX7_readTerm_10 11 rfl (by decide) ?_
    refine pv_istore_n (M := mX7_readTerm) 2 (lo2 := [.ref 86, .int 4, .int 0, pv_U]) dX7_readTerm_11 12 rfl rfl (by decide) rfl rfl ?_
    have lp15 : ∀ (fuel14 : Nat) (y9 : Int32) (m10 : Nat → Nat → Int32) (n11 : Nat → Nat → Int64), (0 ≤ y9.toInt) → (y9.toInt ≤ 160) → ((m 86 3).toInt ≤ (m10 86 3).toInt) → ((m10 86 3).toInt ≤ (m10 86 2).toInt) → ((m10 86 2).toInt = (m 86 2).toInt) → IV BB m10 → fr (wl [(77, 96, none)]) m m10 → ((160 - y9.toInt) : Int).toNat < fuel14 → PV none g mX7_readTerm (sqI T BB (wl [(77, 96, none)]) r m 0 1 (fun m' v => (m 86 3).toInt ≤ (m' 86 3).toInt ∧ (m' 86 3).toInt ≤ (m' 86 2).toInt ∧ (m' 86 2).toInt = (m 86 2).toInt)) 12 0 0 12 [.ref 86, .int 4, .int y9, pv_U] [] (mk T m10 n11 r) := by
      intro fuel14
      induction fuel14 with
      | zero => intro y9 m10 n11 b17 b18 b19 b20 b21 I12 K13 z22; omega
      | succ fuel14 ih16 =>
        intro y9 m10 n11 b17 b18 b19 b20 b21 I12 K13 z22
        have z23 : 0 ≤ (m10 86 3).toInt ∧ (m10 86 3).toInt ≤ 160 := I12 86 3
        have z24 : 0 ≤ (m10 86 2).toInt ∧ (m10 86 2).toInt ≤ 160 := I12 86 2
        refine pv_iload_n (M := mX7_readTerm) 2 dX7_readTerm_12 13 rfl rfl rfl ?_
        refine pv_sipush (M := mX7_readTerm) (v := 160) dX7_readTerm_13 16 rfl (by decide) ?_
        refine pv_icmp_ge (M := mX7_readTerm) (tgt := 66) dX7_readTerm_16 19 rfl (by decide) (fun c25 => ?_) (fun c25 => ?_)
        · have c25 := iv_le (X := 160) (Y := y9.toInt) c25 (by decide) rfl
          refine pv_iconst (M := mX7_readTerm) (v := 1) dX7_readTerm_66 67 rfl (by decide) ?_
          have z26 : (1 : Int32).toInt = 1 := by decide
          exact pv_iret (M := mX7_readTerm) dX7_readTerm_67 rfl rfl ⟨_, _, _, rfl, rfl, I12, K13, by decide, by decide, (by refine ⟨?_, ?_, ?_⟩ <;> omega)⟩
        · have c25 := iv_nle (X := 160) (Y := y9.toInt) c25 (by decide) rfl
          refine pv_aload_n (M := mX7_readTerm) 0 dX7_readTerm_19 20 rfl rfl rfl ?_
          refine pv_callv (M := mX7_readTerm) (as := []) (st := []) (kc2 := 0) (ks2 := 0) dX7_readTerm_20 wd654 YX7_timesAhead ⟨wd656, wd11⟩ (mk_get (tl86 hT)) rfl rfl (s_X7_timesAhead g hT I12 R) rfl rfl (Nat.le_of_ble_eq_true rfl) (by decide) rfl rfl 23 rfl (fun rv h1 q27 => ?_)
          obtain ⟨v28, rfl, rfl, pv28, qv28, rv28⟩ := q27
          replace rv28 : v28 = 0 ∨ (m10 86 3).toInt < (m10 86 2).toInt := rv28
          show PV _ _ _ _ _ _ _ 23 [.ref 86, .int 4, .int y9, pv_U] [.int v28] _
          refine pv_if_eq (M := mX7_readTerm) (tgt := 66) dX7_readTerm_23 26 rfl (by decide) (fun c29 => ?_) (fun c29 => ?_)
          · have c29 := iv_eq (X := v28.toInt) (Y := 0) c29 rfl (by decide)
            refine pv_iconst (M := mX7_readTerm) (v := 1) dX7_readTerm_66 67 rfl (by decide) ?_
            have z30 : (1 : Int32).toInt = 1 := by decide
            exact pv_iret (M := mX7_readTerm) dX7_readTerm_67 rfl rfl ⟨_, _, _, rfl, rfl, I12, K13, by decide, by decide, (by refine ⟨?_, ?_, ?_⟩ <;> omega)⟩
          · have pc29 := rv28.resolve_left c29
            have c29 := iv_ne (X := v28.toInt) (Y := 0) c29 rfl (by decide)
            refine pv_aload_n (M := mX7_readTerm) 0 dX7_readTerm_26 27 rfl rfl rfl ?_
            refine pv_callv (M := mX7_readTerm) (as := []) (st := []) (kc2 := 0) (ks2 := 0) dX7_readTerm_27 wd527 YX7_peek ⟨wd529, wd2⟩ (mk_get (tl86 hT)) rfl rfl (s_X7_peek g hT I12 R) rfl rfl (Nat.le_of_ble_eq_true rfl) (by decide) rfl rfl 30 rfl (fun rv h1 q31 => ?_)
            obtain ⟨v32, rfl, rfl, pv32, qv32, rv32⟩ := q31
            replace rv32 : v32.toInt = -1 ∨ (m10 86 3).toInt < (m10 86 2).toInt := rv32
            show PV _ _ _ _ _ _ _ 30 [.ref 86, .int 4, .int y9, pv_U] [.int v32] _
            refine pv_istore_n (M := mX7_readTerm) 3 (lo2 := [.ref 86, .int 4, .int y9, .int v32]) dX7_readTerm_30 31 rfl rfl (by decide) rfl rfl ?_
            refine pv_aload_n (M := mX7_readTerm) 0 dX7_readTerm_31 32 rfl rfl rfl ?_
            refine pv_dup (M := mX7_readTerm) dX7_readTerm_32 33 rfl rfl ?_
            refine iv_get (M := mX7_readTerm) (l1 := 0) (l2 := 160) dX7_readTerm_33 FX7 3 wd283 (by decide) (tl86 hT) rfl I12 rfl 36 rfl (fun v33 ev33 pv33 qv33 => ?_)
            have wv33 : v33.toInt = (m10 86 3).toInt := congrArg Int32.toInt ev33
            refine pv_iconst (M := mX7_readTerm) (v := 1) dX7_readTerm_36 37 rfl (by decide) ?_
            refine iv_iadd (M := mX7_readTerm) (X := v33.toInt) (Y := 1) dX7_readTerm_37 38 rfl rfl (by decide) (by omega) (by omega) (fun v34 ev34 => ?_)
            refine iv_put (M := mX7_readTerm) (l1 := 0) (l2 := 160) dX7_readTerm_38 FX7 3 wd283 (by decide) rfl (tl86 hT) rfl rfl rfl I12 rfl (by omega) (by omega) 41 rfl (fun m35 e38 I36 => ?_)
            have K37 := K13.set e38 (wl_r (by omega) (by omega))
            have w39 : (m35 86 3).toInt = v34.toInt := by rw [e38, up2_eq]
            have w40 : (m35 86 2).toInt = (m10 86 2).toInt := by rw [e38, up2_ne (by omega)]
            refine pv_aload_n (M := mX7_readTerm) 0 dX7_readTerm_41 42 rfl rfl rfl ?_
            refine pv_iload_n (M := mX7_readTerm) 1 dX7_readTerm_42 43 rfl rfl rfl ?_
            have z41 : (4 : Int32).toInt = 4 := by decide
            refine pv_callv (M := mX7_readTerm) (as := [.int 4]) (st := []) (kc2 := 0) (ks2 := 0) dX7_readTerm_43 wd547 YX7_readFactor ⟨wd549, wd6⟩ (mk_get (tl86 hT)) rfl rfl (s_X7_readFactor_v4 g hT I36 R (by first | omega | assumption | exact (iv_rng _).2 | exact (iv_rng _).1 | decide)) rfl rfl (Nat.le_of_ble_eq_true rfl) (by decide) rfl rfl 46 rfl (fun rv h1 q42 => ?_)
            obtain ⟨m43, n44, v47, rfl, rfl, I45, K46, pv47, qv47, rv47⟩ := q42
            replace rv47 : (m35 86 3).toInt ≤ (m43 86 3).toInt ∧ (m43 86 3).toInt ≤ (m43 86 2).toInt ∧ (m43 86 2).toInt = (m35 86 2).toInt := rv47
            have K46c := K46
            have K46 := K37.trans (K46.sub (fun _ _ q => q))
            show PV _ _ _ _ _ _ _ 46 [.ref 86, .int 4, .int y9, .int v32] [.int v47] _
            refine pv_if_ne (M := mX7_readTerm) (tgt := 51) dX7_readTerm_46 49 rfl (by decide) (fun c48 => ?_) (fun c48 => ?_)
            · have c48 := iv_ne (X := v47.toInt) (Y := 0) c48 rfl (by decide)
              refine pv_aload_n (M := mX7_readTerm) 0 dX7_readTerm_51 52 rfl rfl rfl ?_
              refine mv_get (M := mX7_readTerm) (v := .ref lb) dX7_readTerm_52 FX7 1 wd281 (by decide) (tl86 hT) rfl R.2.2.2.1 55 rfl ?_
              refine pv_iload_n (M := mX7_readTerm) 3 dX7_readTerm_55 56 rfl rfl rfl ?_
              refine pv_iconst (M := mX7_readTerm) (v := 0) dX7_readTerm_56 57 rfl (by decide) ?_
              refine pv_callv (M := mX7_readTerm) (as := [.int v32, .int 0]) (st := []) (kc2 := 0) (ks2 := 0) dX7_readTerm_57 wd567 YX6_emit ⟨wd568, wd569⟩ (mk_get R.2.2.2.2.2.2.1) rfl rfl (s_X6_emit g hT I45 lb R.2.2.2.2.2 v32 0 (by decide) (by decide)) rfl rfl (Nat.le_of_ble_eq_true rfl) (by decide) rfl rfl 60 rfl (fun rv h1 q49 => ?_)
              obtain ⟨m50, n51, rfl, rfl, I52, K53, rm50⟩ := q49
              have K53c := K53
              have w54 : (m50 86 3).toInt = (m43 86 3).toInt := congrArg Int32.toInt (K53 86 3 (wr_out (by omega)))
              have w55 : (m50 86 2).toInt = (m43 86 2).toInt := congrArg Int32.toInt (K53 86 2 (wr_out (by omega)))
              have K53 := K46.trans (K53.sub (wr_wr (by omega) (by omega)))
              show PV _ _ _ _ _ _ _ 60 [.ref 86, .int 4, .int y9, .int v32] [] _
              refine iv_inc (M := mX7_readTerm) (C := 1) dX7_readTerm_60 63 rfl rfl (by decide) rfl rfl (by decide) (by omega) (by omega) (fun v56 ev56 => ?_)
              show PV _ _ _ _ _ _ _ 63 [.ref 86, .int 4, .int v56, .int v32] [] _
              refine pv_goto (M := mX7_readTerm) (tgt := 12) dX7_readTerm_63 (by decide) ?_
              refine pv_fg (lo2 := [.ref 86, .int 4, .int v56, pv_U]) ⟨Or.inr rfl, ⟨Or.inr rfl, ⟨Or.inr rfl, ⟨Or.inl rfl, trivial⟩⟩⟩⟩ ?_
              exact ih16 v56 m50 n51 (by first | omega | assumption | exact (iv_rng _).2 | exact (iv_rng _).1 | decide) (by first | omega | assumption | exact (iv_rng _).2 | exact (iv_rng _).1 | decide) (by first | omega | assumption | (show (m 86 3).toInt ≤ (m50 86 3).toInt; omega) | decide) (by first | omega | assumption | (show (m50 86 3).toInt ≤ (m50 86 2).toInt; omega) | decide) (by first | omega | assumption | (show (m50 86 2).toInt = (m 86 2).toInt; omega) | decide) I52 K53 (by omega)
            · have c48 := iv_eq (X := v47.toInt) (Y := 0) c48 rfl (by decide)
              refine pv_iconst (M := mX7_readTerm) (v := 0) dX7_readTerm_49 50 rfl (by decide) ?_
              have z57 : (0 : Int32).toInt = 0 := by decide
              exact pv_iret (M := mX7_readTerm) dX7_readTerm_50 rfl rfl ⟨_, _, _, rfl, rfl, I45, K46, by decide, by decide, (by refine ⟨?_, ?_, ?_⟩ <;> omega)⟩
    have z58 : (0 : Int32).toInt = 0 := by decide
    exact lp15 (((160 - 0) : Int).toNat + 1) 0 m3 n4 (by first | omega | assumption | exact (iv_rng _).2 | exact (iv_rng _).1 | decide) (by first | omega | assumption | exact (iv_rng _).2 | exact (iv_rng _).1 | decide) (by first | omega | assumption | (show (m 86 3).toInt ≤ (m3 86 3).toInt; omega) | decide) (by first | omega | assumption | (show (m3 86 3).toInt ≤ (m3 86 2).toInt; omega) | decide) (by first | omega | assumption | (show (m3 86 2).toInt = (m 86 2).toInt; omega) | decide) I5 K6 (by omega)
  · have c8 := iv_eq (X := v7.toInt) (Y := 0) c8 rfl (by decide)
    refine pv_iconst (M := mX7_readTerm) (v := 0) dX7_readTerm_8 9 rfl (by decide) ?_
    have z59 : (0 : Int32).toInt = 0 := by decide
    exact pv_iret (M := mX7_readTerm) dX7_readTerm_9 rfl rfl ⟨_, _, _, rfl, rfl, I5, K6, by decide, by decide, (by refine ⟨?_, ?_, ?_⟩ <;> omega)⟩

set_option maxHeartbeats 2000000 in
set_option maxRecDepth 20000 in
theorem s_X7_readSum_v4 (g : pv_G) {T : List mv_T} {m : Nat → Nat → Int32} {n : Nat → Nat → Int64} {r : Nat → Value} {la lb : Nat} (hT : TX T) (I : IV BB m) (R : RX T r la lb) (hp0 : (m 86 3).toInt ≤ (m 86 2).toInt) : PM g mX7_readSum yX7_readSum (sqI T BB (wl [(77, 96, none)]) r m 0 1 (fun m' v => (m 86 3).toInt ≤ (m' 86 3).toInt ∧ (m' 86 3).toInt ≤ (m' 86 2).toInt ∧ (m' 86 2).toInt = (m 86 2).toInt)) 13 0 0 [.ref 86, .int 4] (mk T m n r) := by
  have Kp : fr (wl [(77, 96, none)]) m m := fr.rf
  have R0 := R
  have zR := R.2.2.2.2.1.1
  have zR2 := R.2.2.2.2.2.1
  have z90 : 0 ≤ (m 86 3).toInt ∧ (m 86 3).toInt ≤ 160 := I 86 3
  have z91 : 0 ≤ (m 86 2).toInt ∧ (m 86 2).toInt ≤ 160 := I 86 2
  refine PM.of 2 (lo := [.ref 86, .int 4, pv_U, pv_U]) rfl (by decide) rfl rfl (Nat.le_of_ble_eq_true rfl) ?_
  refine pv_aload_n (M := mX7_readSum) 0 dX7_readSum_0 1 rfl rfl rfl ?_
  refine pv_iload_n (M := mX7_readSum) 1 dX7_readSum_1 2 rfl rfl rfl ?_
  have z1 : (4 : Int32).toInt = 4 := by decide
  refine pv_callv (M := mX7_readSum) (as := [.int 4]) (st := []) (kc2 := 0) (ks2 := 0) dX7_readSum_2 wd543 YX7_readTerm ⟨wd545, wd5⟩ (mk_get (tl86 hT)) rfl rfl (s_X7_readTerm_v4 g hT I R (by first | omega | assumption | exact (iv_rng _).2 | exact (iv_rng _).1 | decide)) rfl rfl (Nat.le_of_ble_eq_true rfl) (by decide) rfl rfl 5 rfl (fun rv h1 q2 => ?_)
  obtain ⟨m3, n4, v7, rfl, rfl, I5, K6, pv7, qv7, rv7⟩ := q2
  replace rv7 : (m 86 3).toInt ≤ (m3 86 3).toInt ∧ (m3 86 3).toInt ≤ (m3 86 2).toInt ∧ (m3 86 2).toInt = (m 86 2).toInt := rv7
  have K6c := K6
  have K6 := Kp.trans (K6.sub (fun _ _ q => q))
  show PV _ _ _ _ _ _ _ 5 [.ref 86, .int 4, pv_U, pv_U] [.int v7] _
  refine pv_if_ne (M := mX7_readSum) (tgt := 10) dX7_readSum_5 8 rfl (by decide) (fun c8 => ?_) (fun c8 => ?_)
  · have c8 := iv_ne (X := v7.toInt) (Y := 0) c8 rfl (by decide)
    refine pv_iconst (M := mX7_readSum) (v := 0) dX7_readSum_10 11 rfl (by decide) ?_
    refine pv_istore_n (M := mX7_readSum) 2 (lo2 := [.ref 86, .int 4, .int 0, pv_U]) dX7_readSum_11 12 rfl rfl (by decide) rfl rfl ?_
    have lp15 : ∀ (fuel14 : Nat) (y9 : Int32) (m10 : Nat → Nat → Int32) (n11 : Nat → Nat → Int64), (0 ≤ y9.toInt) → (y9.toInt ≤ 160) → ((m 86 3).toInt ≤ (m10 86 3).toInt) → ((m10 86 3).toInt ≤ (m10 86 2).toInt) → ((m10 86 2).toInt = (m 86 2).toInt) → IV BB m10 → fr (wl [(77, 96, none)]) m m10 → ((160 - y9.toInt) : Int).toNat < fuel14 → PV none g mX7_readSum (sqI T BB (wl [(77, 96, none)]) r m 0 1 (fun m' v => (m 86 3).toInt ≤ (m' 86 3).toInt ∧ (m' 86 3).toInt ≤ (m' 86 2).toInt ∧ (m' 86 2).toInt = (m 86 2).toInt)) 13 0 0 12 [.ref 86, .int 4, .int y9, pv_U] [] (mk T m10 n11 r) := by
      intro fuel14
      induction fuel14 with
      | zero => intro y9 m10 n11 b17 b18 b19 b20 b21 I12 K13 z22; omega
      | succ fuel14 ih16 =>
        intro y9 m10 n11 b17 b18 b19 b20 b21 I12 K13 z22
        have z23 : 0 ≤ (m10 86 3).toInt ∧ (m10 86 3).toInt ≤ 160 := I12 86 3
        have z24 : 0 ≤ (m10 86 2).toInt ∧ (m10 86 2).toInt ≤ 160 := I12 86 2
        refine pv_iload_n (M := mX7_readSum) 2 dX7_readSum_12 13 rfl rfl rfl ?_
        refine pv_sipush (M := mX7_readSum) (v := 160) dX7_readSum_13 16 rfl (by decide) ?_
        refine pv_icmp_ge (M := mX7_readSum) (tgt := 77) dX7_readSum_16 19 rfl (by decide) (fun c25 => ?_) (fun c25 => ?_)
        · have c25 := iv_le (X := 160) (Y := y9.toInt) c25 (by decide) rfl
          refine pv_iconst (M := mX7_readSum) (v := 1) dX7_readSum_77 78 rfl (by decide) ?_
          have z26 : (1 : Int32).toInt = 1 := by decide
          exact pv_iret (M := mX7_readSum) dX7_readSum_78 rfl rfl ⟨_, _, _, rfl, rfl, I12, K13, by decide, by decide, (by refine ⟨?_, ?_, ?_⟩ <;> omega)⟩
        · have c25 := iv_nle (X := 160) (Y := y9.toInt) c25 (by decide) rfl
          refine pv_aload_n (M := mX7_readSum) 0 dX7_readSum_19 20 rfl rfl rfl ?_
          refine pv_callv (M := mX7_readSum) (as := []) (st := []) (kc2 := 0) (ks2 := 0) dX7_readSum_20 wd527 YX7_peek ⟨wd529, wd2⟩ (mk_get (tl86 hT)) rfl rfl (s_X7_peek g hT I12 R) rfl rfl (Nat.le_of_ble_eq_true rfl) (by decide) rfl rfl 23 rfl (fun rv h1 q27 => ?_)
          obtain ⟨v28, rfl, rfl, pv28, qv28, rv28⟩ := q27
          replace rv28 : v28.toInt = -1 ∨ (m10 86 3).toInt < (m10 86 2).toInt := rv28
          show PV _ _ _ _ _ _ _ 23 [.ref 86, .int 4, .int y9, pv_U] [.int v28] _
          refine pv_bipush (M := mX7_readSum) (v := 43) dX7_readSum_23 25 rfl (by decide) ?_
          refine pv_icmp_eq (M := mX7_readSum) (tgt := 37) dX7_readSum_25 28 rfl (by decide) (fun c29 => ?_) (fun c29 => ?_)
          · have c29 := iv_eq (X := v28.toInt) (Y := 43) c29 rfl (by decide)
            refine pv_aload_n (M := mX7_readSum) 0 dX7_readSum_37 38 rfl rfl rfl ?_
            refine pv_callv (M := mX7_readSum) (as := []) (st := []) (kc2 := 0) (ks2 := 0) dX7_readSum_38 wd527 YX7_peek ⟨wd529, wd2⟩ (mk_get (tl86 hT)) rfl rfl (s_X7_peek g hT I12 R) rfl rfl (Nat.le_of_ble_eq_true rfl) (by decide) rfl rfl 41 rfl (fun rv h1 q30 => ?_)
            obtain ⟨v31, rfl, rfl, pv31, qv31, rv31⟩ := q30
            replace rv31 : v31.toInt = -1 ∨ (m10 86 3).toInt < (m10 86 2).toInt := rv31
            show PV _ _ _ _ _ _ _ 41 [.ref 86, .int 4, .int y9, pv_U] [.int v31] _
            refine pv_istore_n (M := mX7_readSum) 3 (lo2 := [.ref 86, .int 4, .int y9, .int v31]) dX7_readSum_41 42 rfl rfl (by decide) rfl rfl ?_
            refine pv_aload_n (M := mX7_readSum) 0 dX7_readSum_42 43 rfl rfl rfl ?_
            refine pv_dup (M := mX7_readSum) dX7_readSum_43 44 rfl rfl ?_
            refine iv_get (M := mX7_readSum) (l1 := 0) (l2 := 160) dX7_readSum_44 FX7 3 wd283 (by decide) (tl86 hT) rfl I12 rfl 47 rfl (fun v32 ev32 pv32 qv32 => ?_)
            have wv32 : v32.toInt = (m10 86 3).toInt := congrArg Int32.toInt ev32
            refine pv_iconst (M := mX7_readSum) (v := 1) dX7_readSum_47 48 rfl (by decide) ?_
            refine iv_iadd (M := mX7_readSum) (X := v32.toInt) (Y := 1) dX7_readSum_48 49 rfl rfl (by decide) (by omega) (by omega) (fun v33 ev33 => ?_)
            refine iv_put (M := mX7_readSum) (l1 := 0) (l2 := 160) dX7_readSum_49 FX7 3 wd283 (by decide) rfl (tl86 hT) rfl rfl rfl I12 rfl (by omega) (by omega) 52 rfl (fun m34 e37 I35 => ?_)
            have K36 := K13.set e37 (wl_r (by omega) (by omega))
            have w38 : (m34 86 3).toInt = v33.toInt := by rw [e37, up2_eq]
            have w39 : (m34 86 2).toInt = (m10 86 2).toInt := by rw [e37, up2_ne (by omega)]
            refine pv_aload_n (M := mX7_readSum) 0 dX7_readSum_52 53 rfl rfl rfl ?_
            refine pv_iload_n (M := mX7_readSum) 1 dX7_readSum_53 54 rfl rfl rfl ?_
            have z40 : (4 : Int32).toInt = 4 := by decide
            refine pv_callv (M := mX7_readSum) (as := [.int 4]) (st := []) (kc2 := 0) (ks2 := 0) dX7_readSum_54 wd543 YX7_readTerm ⟨wd545, wd5⟩ (mk_get (tl86 hT)) rfl rfl (s_X7_readTerm_v4 g hT I35 R (by first | omega | assumption | exact (iv_rng _).2 | exact (iv_rng _).1 | decide)) rfl rfl (Nat.le_of_ble_eq_true rfl) (by decide) rfl rfl 57 rfl (fun rv h1 q41 => ?_)
            obtain ⟨m42, n43, v46, rfl, rfl, I44, K45, pv46, qv46, rv46⟩ := q41
            replace rv46 : (m34 86 3).toInt ≤ (m42 86 3).toInt ∧ (m42 86 3).toInt ≤ (m42 86 2).toInt ∧ (m42 86 2).toInt = (m34 86 2).toInt := rv46
            have K45c := K45
            have K45 := K36.trans (K45.sub (fun _ _ q => q))
            show PV _ _ _ _ _ _ _ 57 [.ref 86, .int 4, .int y9, .int v31] [.int v46] _
            refine pv_if_ne (M := mX7_readSum) (tgt := 62) dX7_readSum_57 60 rfl (by decide) (fun c47 => ?_) (fun c47 => ?_)
            · have c47 := iv_ne (X := v46.toInt) (Y := 0) c47 rfl (by decide)
              refine pv_aload_n (M := mX7_readSum) 0 dX7_readSum_62 63 rfl rfl rfl ?_
              refine mv_get (M := mX7_readSum) (v := .ref lb) dX7_readSum_63 FX7 1 wd281 (by decide) (tl86 hT) rfl R.2.2.2.1 66 rfl ?_
              refine pv_iload_n (M := mX7_readSum) 3 dX7_readSum_66 67 rfl rfl rfl ?_
              refine pv_iconst (M := mX7_readSum) (v := 0) dX7_readSum_67 68 rfl (by decide) ?_
              refine pv_callv (M := mX7_readSum) (as := [.int v31, .int 0]) (st := []) (kc2 := 0) (ks2 := 0) dX7_readSum_68 wd567 YX6_emit ⟨wd568, wd569⟩ (mk_get R.2.2.2.2.2.2.1) rfl rfl (s_X6_emit g hT I44 lb R.2.2.2.2.2 v31 0 (by decide) (by decide)) rfl rfl (Nat.le_of_ble_eq_true rfl) (by decide) rfl rfl 71 rfl (fun rv h1 q48 => ?_)
              obtain ⟨m49, n50, rfl, rfl, I51, K52, rm49⟩ := q48
              have K52c := K52
              have w53 : (m49 86 3).toInt = (m42 86 3).toInt := congrArg Int32.toInt (K52 86 3 (wr_out (by omega)))
              have w54 : (m49 86 2).toInt = (m42 86 2).toInt := congrArg Int32.toInt (K52 86 2 (wr_out (by omega)))
              have K52 := K45.trans (K52.sub (wr_wr (by omega) (by omega)))
              show PV _ _ _ _ _ _ _ 71 [.ref 86, .int 4, .int y9, .int v31] [] _
              refine iv_inc (M := mX7_readSum) (C := 1) dX7_readSum_71 74 rfl rfl (by decide) rfl rfl (by decide) (by omega) (by omega) (fun v55 ev55 => ?_)
              show PV _ _ _ _ _ _ _ 74 [.ref 86, .int 4, .int v55, .int v31] [] _
              refine pv_goto (M := mX7_readSum) (tgt := 12) dX7_readSum_74 (by decide) ?_
              refine pv_fg (lo2 := [.ref 86, .int 4, .int v55, pv_U]) ⟨Or.inr rfl, ⟨Or.inr rfl, ⟨Or.inr rfl, ⟨Or.inl rfl, trivial⟩⟩⟩⟩ ?_
              exact ih16 v55 m49 n50 (by first | omega | assumption | exact (iv_rng _).2 | exact (iv_rng _).1 | decide) (by first | omega | assumption | exact (iv_rng _).2 | exact (iv_rng _).1 | decide) (by first | omega | assumption | (show (m 86 3).toInt ≤ (m49 86 3).toInt; omega) | decide) (by first | omega | assumption | (show (m49 86 3).toInt ≤ (m49 86 2).toInt; omega) | decide) (by first | omega | assumption | (show (m49 86 2).toInt = (m 86 2).toInt; omega) | decide) I51 K52 (by omega)
            · have c47 := iv_eq (X := v46.toInt) (Y := 0) c47 rfl (by decide)
              refine pv_iconst (M := mX7_readSum) (v := 0) dX7_readSum_60 61 rfl (by decide) ?_
              have z56 : (0 : Int32).toInt = 0 := by decide
              exact pv_iret (M := mX7_readSum) dX7_readSum_61 rfl rfl ⟨_, _, _, rfl, rfl, I44, K45, by decide, by decide, (by refine ⟨?_, ?_, ?_⟩ <;> omega)⟩
          · have c29 := iv_ne (X := v28.toInt) (Y := 43) c29 rfl (by decide)
            refine pv_aload_n (M := mX7_readSum) 0 dX7_readSum_28 29 rfl rfl rfl ?_
            refine pv_callv (M := mX7_readSum) (as := []) (st := []) (kc2 := 0) (ks2 := 0) dX7_readSum_29 wd527 YX7_peek ⟨wd529, wd2⟩ (mk_get (tl86 hT)) rfl rfl (s_X7_peek g hT I12 R) rfl rfl (Nat.le_of_ble_eq_true rfl) (by decide) rfl rfl 32 rfl (fun rv h1 q57 => ?_)
            obtain ⟨v58, rfl, rfl, pv58, qv58, rv58⟩ := q57
            replace rv58 : v58.toInt = -1 ∨ (m10 86 3).toInt < (m10 86 2).toInt := rv58
            show PV _ _ _ _ _ _ _ 32 [.ref 86, .int 4, .int y9, pv_U] [.int v58] _
            refine pv_bipush (M := mX7_readSum) (v := 45) dX7_readSum_32 34 rfl (by decide) ?_
            refine pv_icmp_ne (M := mX7_readSum) (tgt := 77) dX7_readSum_34 37 rfl (by decide) (fun c59 => ?_) (fun c59 => ?_)
            · have c59 := iv_ne (X := v58.toInt) (Y := 45) c59 rfl (by decide)
              refine pv_iconst (M := mX7_readSum) (v := 1) dX7_readSum_77 78 rfl (by decide) ?_
              have z60 : (1 : Int32).toInt = 1 := by decide
              exact pv_iret (M := mX7_readSum) dX7_readSum_78 rfl rfl ⟨_, _, _, rfl, rfl, I12, K13, by decide, by decide, (by refine ⟨?_, ?_, ?_⟩ <;> omega)⟩
            · have c59 := iv_eq (X := v58.toInt) (Y := 45) c59 rfl (by decide)
              refine pv_aload_n (M := mX7_readSum) 0 dX7_readSum_37 38 rfl rfl rfl ?_
              refine pv_callv (M := mX7_readSum) (as := []) (st := []) (kc2 := 0) (ks2 := 0) dX7_readSum_38 wd527 YX7_peek ⟨wd529, wd2⟩ (mk_get (tl86 hT)) rfl rfl (s_X7_peek g hT I12 R) rfl rfl (Nat.le_of_ble_eq_true rfl) (by decide) rfl rfl 41 rfl (fun rv h1 q61 => ?_)
              obtain ⟨v62, rfl, rfl, pv62, qv62, rv62⟩ := q61
              replace rv62 : v62.toInt = -1 ∨ (m10 86 3).toInt < (m10 86 2).toInt := rv62
              show PV _ _ _ _ _ _ _ 41 [.ref 86, .int 4, .int y9, pv_U] [.int v62] _
              refine pv_istore_n (M := mX7_readSum) 3 (lo2 := [.ref 86, .int 4, .int y9, .int v62]) dX7_readSum_41 42 rfl rfl (by decide) rfl rfl ?_
              refine pv_aload_n (M := mX7_readSum) 0 dX7_readSum_42 43 rfl rfl rfl ?_
              refine pv_dup (M := mX7_readSum) dX7_readSum_43 44 rfl rfl ?_
              refine iv_get (M := mX7_readSum) (l1 := 0) (l2 := 160) dX7_readSum_44 FX7 3 wd283 (by decide) (tl86 hT) rfl I12 rfl 47 rfl (fun v63 ev63 pv63 qv63 => ?_)
              have wv63 : v63.toInt = (m10 86 3).toInt := congrArg Int32.toInt ev63
              refine pv_iconst (M := mX7_readSum) (v := 1) dX7_readSum_47 48 rfl (by decide) ?_
              refine iv_iadd (M := mX7_readSum) (X := v63.toInt) (Y := 1) dX7_readSum_48 49 rfl rfl (by decide) (by omega) (by omega) (fun v64 ev64 => ?_)
              refine iv_put (M := mX7_readSum) (l1 := 0) (l2 := 160) dX7_readSum_49 FX7 3 wd283 (by decide) rfl (tl86 hT) rfl rfl rfl I12 rfl (by omega) (by omega) 52 rfl (fun m65 e68 I66 => ?_)
              have K67 := K13.set e68 (wl_r (by omega) (by omega))
              have w69 : (m65 86 3).toInt = v64.toInt := by rw [e68, up2_eq]
              have w70 : (m65 86 2).toInt = (m10 86 2).toInt := by rw [e68, up2_ne (by omega)]
              refine pv_aload_n (M := mX7_readSum) 0 dX7_readSum_52 53 rfl rfl rfl ?_
              refine pv_iload_n (M := mX7_readSum) 1 dX7_readSum_53 54 rfl rfl rfl ?_
              have z71 : (4 : Int32).toInt = 4 := by decide
              refine pv_callv (M := mX7_readSum) (as := [.int 4]) (st := []) (kc2 := 0) (ks2 := 0) dX7_readSum_54 wd543 YX7_readTerm ⟨wd545, wd5⟩ (mk_get (tl86 hT)) rfl rfl (s_X7_readTerm_v4 g hT I66 R (by first | omega | assumption | exact (iv_rng _).2 | exact (iv_rng _).1 | decide)) rfl rfl (Nat.le_of_ble_eq_true rfl) (by decide) rfl rfl 57 rfl (fun rv h1 q72 => ?_)
              obtain ⟨m73, n74, v77, rfl, rfl, I75, K76, pv77, qv77, rv77⟩ := q72
              replace rv77 : (m65 86 3).toInt ≤ (m73 86 3).toInt ∧ (m73 86 3).toInt ≤ (m73 86 2).toInt ∧ (m73 86 2).toInt = (m65 86 2).toInt := rv77
              have K76c := K76
              have K76 := K67.trans (K76.sub (fun _ _ q => q))
              show PV _ _ _ _ _ _ _ 57 [.ref 86, .int 4, .int y9, .int v62] [.int v77] _
              refine pv_if_ne (M := mX7_readSum) (tgt := 62) dX7_readSum_57 60 rfl (by decide) (fun c78 => ?_) (fun c78 => ?_)
              · have c78 := iv_ne (X := v77.toInt) (Y := 0) c78 rfl (by decide)
                refine pv_aload_n (M := mX7_readSum) 0 dX7_readSum_62 63 rfl rfl rfl ?_
                refine mv_get (M := mX7_readSum) (v := .ref lb) dX7_readSum_63 FX7 1 wd281 (by decide) (tl86 hT) rfl R.2.2.2.1 66 rfl ?_
                refine pv_iload_n (M := mX7_readSum) 3 dX7_readSum_66 67 rfl rfl rfl ?_
                refine pv_iconst (M := mX7_readSum) (v := 0) dX7_readSum_67 68 rfl (by decide) ?_
                refine pv_callv (M := mX7_readSum) (as := [.int v62, .int 0]) (st := []) (kc2 := 0) (ks2 := 0) dX7_readSum_68 wd567 YX6_emit ⟨wd568, wd569⟩ (mk_get R.2.2.2.2.2.2.1) rfl rfl (s_X6_emit g hT I75 lb R.2.2.2.2.2 v62 0 (by decide) (by decide)) rfl rfl (Nat.le_of_ble_eq_true rfl) (by decide) rfl rfl 71 rfl (fun rv h1 q79 => ?_)
                obtain ⟨m80, n81, rfl, rfl, I82, K83, rm80⟩ := q79
                have K83c := K83
                have w84 : (m80 86 3).toInt = (m73 86 3).toInt := congrArg Int32.toInt (K83 86 3 (wr_out (by omega)))
                have w85 : (m80 86 2).toInt = (m73 86 2).toInt := congrArg Int32.toInt (K83 86 2 (wr_out (by omega)))
                have K83 := K76.trans (K83.sub (wr_wr (by omega) (by omega)))
                show PV _ _ _ _ _ _ _ 71 [.ref 86, .int 4, .int y9, .int v62] [] _
                refine iv_inc (M := mX7_readSum) (C := 1) dX7_readSum_71 74 rfl rfl (by decide) rfl rfl (by decide) (by omega) (by omega) (fun v86 ev86 => ?_)
                show PV _ _ _ _ _ _ _ 74 [.ref 86, .int 4, .int v86, .int v62] [] _
                refine pv_goto (M := mX7_readSum) (tgt := 12) dX7_readSum_74 (by decide) ?_
                refine pv_fg (lo2 := [.ref 86, .int 4, .int v86, pv_U]) ⟨Or.inr rfl, ⟨Or.inr rfl, ⟨Or.inr rfl, ⟨Or.inl rfl, trivial⟩⟩⟩⟩ ?_
                exact ih16 v86 m80 n81 (by first | omega | assumption | exact (iv_rng _).2 | exact (iv_rng _).1 | decide) (by first | omega | assumption | exact (iv_rng _).2 | exact (iv_rng _).1 | decide) (by first | omega | assumption | (show (m 86 3).toInt ≤ (m80 86 3).toInt; omega) | decide) (by first | omega | assumption | (show (m80 86 3).toInt ≤ (m80 86 2).toInt; omega) | decide) (by first | omega | assumption | (show (m80 86 2).toInt = (m 86 2).toInt; omega) | decide) I82 K83 (by omega)
              · have c78 := iv_eq (X := v77.toInt) (Y := 0) c78 rfl (by decide)
                refine pv_iconst (M := mX7_readSum) (v := 0) dX7_readSum_60 61 rfl (by decide) ?_
                have z87 : (0 : Int32).toInt = 0 := by decide
                exact pv_iret (M := mX7_readSum) dX7_readSum_61 rfl rfl ⟨_, _, _, rfl, rfl, I75, K76, by decide, by decide, (by refine ⟨?_, ?_, ?_⟩ <;> omega)⟩
    have z88 : (0 : Int32).toInt = 0 := by decide
    exact lp15 (((160 - 0) : Int).toNat + 1) 0 m3 n4 (by first | omega | assumption | exact (iv_rng _).2 | exact (iv_rng _).1 | decide) (by first | omega | assumption | exact (iv_rng _).2 | exact (iv_rng _).1 | decide) (by first | omega | assumption | (show (m 86 3).toInt ≤ (m3 86 3).toInt; omega) | decide) (by first | omega | assumption | (show (m3 86 3).toInt ≤ (m3 86 2).toInt; omega) | decide) (by first | omega | assumption | (show (m3 86 2).toInt = (m 86 2).toInt; omega) | decide) I5 K6 (by omega)
  · have c8 := iv_eq (X := v7.toInt) (Y := 0) c8 rfl (by decide)
    refine pv_iconst (M := mX7_readSum) (v := 0) dX7_readSum_8 9 rfl (by decide) ?_
    have z89 : (0 : Int32).toInt = 0 := by decide
    exact pv_iret (M := mX7_readSum) dX7_readSum_9 rfl rfl ⟨_, _, _, rfl, rfl, I5, K6, by decide, by decide, (by refine ⟨?_, ?_, ?_⟩ <;> omega)⟩

set_option maxHeartbeats 2000000 in
set_option maxRecDepth 20000 in
theorem s_X7_readPiece_v4 (g : pv_G) {T : List mv_T} {m : Nat → Nat → Int32} {n : Nat → Nat → Int64} {r : Nat → Value} {la lb : Nat} (hT : TX T) (I : IV BB m) (R : RX T r la lb) (hp0 : (m 86 3).toInt ≤ (m 86 2).toInt) : PM g mX7_readPiece yX7_readPiece (sqI T BB (wl [(77, 96, none)]) r m 0 1 (fun m' v => (m 86 3).toInt ≤ (m' 86 3).toInt ∧ (m' 86 3).toInt ≤ (m' 86 2).toInt ∧ (m' 86 2).toInt = (m 86 2).toInt)) 14 0 0 [.ref 86, .int 4] (mk T m n r) := by
  have Kp : fr (wl [(77, 96, none)]) m m := fr.rf
  have R0 := R
  have zR := R.2.2.2.2.1.1
  have zR2 := R.2.2.2.2.2.1
  have z159 : 0 ≤ (m 86 3).toInt ∧ (m 86 3).toInt ≤ 160 := I 86 3
  have z160 : 0 ≤ (m 86 2).toInt ∧ (m 86 2).toInt ≤ 160 := I 86 2
  refine PM.of 1 (lo := [.ref 86, .int 4, pv_U]) rfl (by decide) rfl rfl (Nat.le_of_ble_eq_true rfl) ?_
  refine pv_aload_n (M := mX7_readPiece) 0 dX7_readPiece_0 1 rfl rfl rfl ?_
  refine pv_callv (M := mX7_readPiece) (as := []) (st := []) (kc2 := 0) (ks2 := 0) dX7_readPiece_1 wd527 YX7_peek ⟨wd529, wd2⟩ (mk_get (tl86 hT)) rfl rfl (s_X7_peek g hT I R) rfl rfl (Nat.le_of_ble_eq_true rfl) (by decide) rfl rfl 4 rfl (fun rv h1 q1 => ?_)
  obtain ⟨v2, rfl, rfl, pv2, qv2, rv2⟩ := q1
  replace rv2 : v2.toInt = -1 ∨ (m 86 3).toInt < (m 86 2).toInt := rv2
  show PV _ _ _ _ _ _ _ 4 [.ref 86, .int 4, pv_U] [.int v2] _
  refine pv_bipush (M := mX7_readPiece) (v := 33) dX7_readPiece_4 6 rfl (by decide) ?_
  refine pv_icmp_ne (M := mX7_readPiece) (tgt := 41) dX7_readPiece_6 9 rfl (by decide) (fun c3 => ?_) (fun c3 => ?_)
  · have c3 := iv_ne (X := v2.toInt) (Y := 33) c3 rfl (by decide)
    refine pv_aload_n (M := mX7_readPiece) 0 dX7_readPiece_41 42 rfl rfl rfl ?_
    refine pv_callv (M := mX7_readPiece) (as := []) (st := []) (kc2 := 0) (ks2 := 0) dX7_readPiece_42 wd527 YX7_peek ⟨wd529, wd2⟩ (mk_get (tl86 hT)) rfl rfl (s_X7_peek g hT I R) rfl rfl (Nat.le_of_ble_eq_true rfl) (by decide) rfl rfl 45 rfl (fun rv h1 q4 => ?_)
    obtain ⟨v5, rfl, rfl, pv5, qv5, rv5⟩ := q4
    replace rv5 : v5.toInt = -1 ∨ (m 86 3).toInt < (m 86 2).toInt := rv5
    show PV _ _ _ _ _ _ _ 45 [.ref 86, .int 4, pv_U] [.int v5] _
    refine pv_bipush (M := mX7_readPiece) (v := 40) dX7_readPiece_45 47 rfl (by decide) ?_
    refine pv_icmp_ne (M := mX7_readPiece) (tgt := 83) dX7_readPiece_47 50 rfl (by decide) (fun c6 => ?_) (fun c6 => ?_)
    · have c6 := iv_ne (X := v5.toInt) (Y := 40) c6 rfl (by decide)
      refine pv_aload_n (M := mX7_readPiece) 0 dX7_readPiece_83 84 rfl rfl rfl ?_
      refine pv_iload_n (M := mX7_readPiece) 1 dX7_readPiece_84 85 rfl rfl rfl ?_
      have z7 : (4 : Int32).toInt = 4 := by decide
      refine pv_callv (M := mX7_readPiece) (as := [.int 4]) (st := []) (kc2 := 0) (ks2 := 0) dX7_readPiece_85 wd539 YX7_readSum ⟨wd541, wd4⟩ (mk_get (tl86 hT)) rfl rfl (s_X7_readSum_v4 g hT I R (by first | omega | assumption | exact (iv_rng _).2 | exact (iv_rng _).1 | decide)) rfl rfl (Nat.le_of_ble_eq_true rfl) (by decide) rfl rfl 88 rfl (fun rv h1 q8 => ?_)
      obtain ⟨m9, n10, v13, rfl, rfl, I11, K12, pv13, qv13, rv13⟩ := q8
      replace rv13 : (m 86 3).toInt ≤ (m9 86 3).toInt ∧ (m9 86 3).toInt ≤ (m9 86 2).toInt ∧ (m9 86 2).toInt = (m 86 2).toInt := rv13
      have K12c := K12
      have K12 := Kp.trans (K12.sub (fun _ _ q => q))
      show PV _ _ _ _ _ _ _ 88 [.ref 86, .int 4, pv_U] [.int v13] _
      refine pv_if_ne (M := mX7_readPiece) (tgt := 93) dX7_readPiece_88 91 rfl (by decide) (fun c14 => ?_) (fun c14 => ?_)
      · have c14 := iv_ne (X := v13.toInt) (Y := 0) c14 rfl (by decide)
        refine pv_aload_n (M := mX7_readPiece) 0 dX7_readPiece_93 94 rfl rfl rfl ?_
        refine pv_callv (M := mX7_readPiece) (as := []) (st := []) (kc2 := 0) (ks2 := 0) dX7_readPiece_94 wd527 YX7_peek ⟨wd529, wd2⟩ (mk_get (tl86 hT)) rfl rfl (s_X7_peek g hT I11 R) rfl rfl (Nat.le_of_ble_eq_true rfl) (by decide) rfl rfl 97 rfl (fun rv h1 q15 => ?_)
        obtain ⟨v16, rfl, rfl, pv16, qv16, rv16⟩ := q15
        replace rv16 : v16.toInt = -1 ∨ (m9 86 3).toInt < (m9 86 2).toInt := rv16
        show PV _ _ _ _ _ _ _ 97 [.ref 86, .int 4, pv_U] [.int v16] _
        refine pv_istore_n (M := mX7_readPiece) 2 (lo2 := [.ref 86, .int 4, .int v16]) dX7_readPiece_97 98 rfl rfl (by decide) rfl rfl ?_
        refine pv_iload_n (M := mX7_readPiece) 2 dX7_readPiece_98 99 rfl rfl rfl ?_
        refine pv_bipush (M := mX7_readPiece) (v := 60) dX7_readPiece_99 101 rfl (by decide) ?_
        refine pv_icmp_eq (M := mX7_readPiece) (tgt := 122) dX7_readPiece_101 104 rfl (by decide) (fun c17 => ?_) (fun c17 => ?_)
        · have c17 := iv_eq (X := v16.toInt) (Y := 60) c17 rfl (by decide)
          refine pv_aload_n (M := mX7_readPiece) 0 dX7_readPiece_122 123 rfl rfl rfl ?_
          refine pv_dup (M := mX7_readPiece) dX7_readPiece_123 124 rfl rfl ?_
          refine iv_get (M := mX7_readPiece) (l1 := 0) (l2 := 160) dX7_readPiece_124 FX7 3 wd283 (by decide) (tl86 hT) rfl I11 rfl 127 rfl (fun v18 ev18 pv18 qv18 => ?_)
          have wv18 : v18.toInt = (m9 86 3).toInt := congrArg Int32.toInt ev18
          refine pv_iconst (M := mX7_readPiece) (v := 1) dX7_readPiece_127 128 rfl (by decide) ?_
          refine iv_iadd (M := mX7_readPiece) (X := v18.toInt) (Y := 1) dX7_readPiece_128 129 rfl rfl (by decide) (by omega) (by omega) (fun v19 ev19 => ?_)
          refine iv_put (M := mX7_readPiece) (l1 := 0) (l2 := 160) dX7_readPiece_129 FX7 3 wd283 (by decide) rfl (tl86 hT) rfl rfl rfl I11 rfl (by omega) (by omega) 132 rfl (fun m20 e23 I21 => ?_)
          have K22 := K12.set e23 (wl_r (by omega) (by omega))
          have w24 : (m20 86 3).toInt = v19.toInt := by rw [e23, up2_eq]
          have w25 : (m20 86 2).toInt = (m9 86 2).toInt := by rw [e23, up2_ne (by omega)]
          refine pv_aload_n (M := mX7_readPiece) 0 dX7_readPiece_132 133 rfl rfl rfl ?_
          refine pv_iload_n (M := mX7_readPiece) 1 dX7_readPiece_133 134 rfl rfl rfl ?_
          have z26 : (4 : Int32).toInt = 4 := by decide
          refine pv_callv (M := mX7_readPiece) (as := [.int 4]) (st := []) (kc2 := 0) (ks2 := 0) dX7_readPiece_134 wd539 YX7_readSum ⟨wd541, wd4⟩ (mk_get (tl86 hT)) rfl rfl (s_X7_readSum_v4 g hT I21 R (by first | omega | assumption | exact (iv_rng _).2 | exact (iv_rng _).1 | decide)) rfl rfl (Nat.le_of_ble_eq_true rfl) (by decide) rfl rfl 137 rfl (fun rv h1 q27 => ?_)
          obtain ⟨m28, n29, v32, rfl, rfl, I30, K31, pv32, qv32, rv32⟩ := q27
          replace rv32 : (m20 86 3).toInt ≤ (m28 86 3).toInt ∧ (m28 86 3).toInt ≤ (m28 86 2).toInt ∧ (m28 86 2).toInt = (m20 86 2).toInt := rv32
          have K31c := K31
          have K31 := K22.trans (K31.sub (fun _ _ q => q))
          show PV _ _ _ _ _ _ _ 137 [.ref 86, .int 4, .int v16] [.int v32] _
          refine pv_if_ne (M := mX7_readPiece) (tgt := 142) dX7_readPiece_137 140 rfl (by decide) (fun c33 => ?_) (fun c33 => ?_)
          · have c33 := iv_ne (X := v32.toInt) (Y := 0) c33 rfl (by decide)
            refine pv_aload_n (M := mX7_readPiece) 0 dX7_readPiece_142 143 rfl rfl rfl ?_
            refine mv_get (M := mX7_readPiece) (v := .ref lb) dX7_readPiece_143 FX7 1 wd281 (by decide) (tl86 hT) rfl R.2.2.2.1 146 rfl ?_
            refine pv_iload_n (M := mX7_readPiece) 2 dX7_readPiece_146 147 rfl rfl rfl ?_
            refine pv_iconst (M := mX7_readPiece) (v := 0) dX7_readPiece_147 148 rfl (by decide) ?_
            refine pv_callv (M := mX7_readPiece) (as := [.int v16, .int 0]) (st := []) (kc2 := 0) (ks2 := 0) dX7_readPiece_148 wd567 YX6_emit ⟨wd568, wd569⟩ (mk_get R.2.2.2.2.2.2.1) rfl rfl (s_X6_emit g hT I30 lb R.2.2.2.2.2 v16 0 (by decide) (by decide)) rfl rfl (Nat.le_of_ble_eq_true rfl) (by decide) rfl rfl 151 rfl (fun rv h1 q34 => ?_)
            obtain ⟨m35, n36, rfl, rfl, I37, K38, rm35⟩ := q34
            have K38c := K38
            have w39 : (m35 86 3).toInt = (m28 86 3).toInt := congrArg Int32.toInt (K38 86 3 (wr_out (by omega)))
            have w40 : (m35 86 2).toInt = (m28 86 2).toInt := congrArg Int32.toInt (K38 86 2 (wr_out (by omega)))
            have K38 := K31.trans (K38.sub (wr_wr (by omega) (by omega)))
            show PV _ _ _ _ _ _ _ 151 [.ref 86, .int 4, .int v16] [] _
            refine pv_iconst (M := mX7_readPiece) (v := 1) dX7_readPiece_151 152 rfl (by decide) ?_
            have z41 : (1 : Int32).toInt = 1 := by decide
            exact pv_iret (M := mX7_readPiece) dX7_readPiece_152 rfl rfl ⟨_, _, _, rfl, rfl, I37, K38, by decide, by decide, (by refine ⟨?_, ?_, ?_⟩ <;> omega)⟩
          · have c33 := iv_eq (X := v32.toInt) (Y := 0) c33 rfl (by decide)
            refine pv_iconst (M := mX7_readPiece) (v := 0) dX7_readPiece_140 141 rfl (by decide) ?_
            have z42 : (0 : Int32).toInt = 0 := by decide
            exact pv_iret (M := mX7_readPiece) dX7_readPiece_141 rfl rfl ⟨_, _, _, rfl, rfl, I30, K31, by decide, by decide, (by refine ⟨?_, ?_, ?_⟩ <;> omega)⟩
        · have c17 := iv_ne (X := v16.toInt) (Y := 60) c17 rfl (by decide)
          refine pv_iload_n (M := mX7_readPiece) 2 dX7_readPiece_104 105 rfl rfl rfl ?_
          refine pv_bipush (M := mX7_readPiece) (v := 62) dX7_readPiece_105 107 rfl (by decide) ?_
          refine pv_icmp_eq (M := mX7_readPiece) (tgt := 122) dX7_readPiece_107 110 rfl (by decide) (fun c43 => ?_) (fun c43 => ?_)
          · have c43 := iv_eq (X := v16.toInt) (Y := 62) c43 rfl (by decide)
            refine pv_aload_n (M := mX7_readPiece) 0 dX7_readPiece_122 123 rfl rfl rfl ?_
            refine pv_dup (M := mX7_readPiece) dX7_readPiece_123 124 rfl rfl ?_
            refine iv_get (M := mX7_readPiece) (l1 := 0) (l2 := 160) dX7_readPiece_124 FX7 3 wd283 (by decide) (tl86 hT) rfl I11 rfl 127 rfl (fun v44 ev44 pv44 qv44 => ?_)
            have wv44 : v44.toInt = (m9 86 3).toInt := congrArg Int32.toInt ev44
            refine pv_iconst (M := mX7_readPiece) (v := 1) dX7_readPiece_127 128 rfl (by decide) ?_
            refine iv_iadd (M := mX7_readPiece) (X := v44.toInt) (Y := 1) dX7_readPiece_128 129 rfl rfl (by decide) (by omega) (by omega) (fun v45 ev45 => ?_)
            refine iv_put (M := mX7_readPiece) (l1 := 0) (l2 := 160) dX7_readPiece_129 FX7 3 wd283 (by decide) rfl (tl86 hT) rfl rfl rfl I11 rfl (by omega) (by omega) 132 rfl (fun m46 e49 I47 => ?_)
            have K48 := K12.set e49 (wl_r (by omega) (by omega))
            have w50 : (m46 86 3).toInt = v45.toInt := by rw [e49, up2_eq]
            have w51 : (m46 86 2).toInt = (m9 86 2).toInt := by rw [e49, up2_ne (by omega)]
            refine pv_aload_n (M := mX7_readPiece) 0 dX7_readPiece_132 133 rfl rfl rfl ?_
            refine pv_iload_n (M := mX7_readPiece) 1 dX7_readPiece_133 134 rfl rfl rfl ?_
            have z52 : (4 : Int32).toInt = 4 := by decide
            refine pv_callv (M := mX7_readPiece) (as := [.int 4]) (st := []) (kc2 := 0) (ks2 := 0) dX7_readPiece_134 wd539 YX7_readSum ⟨wd541, wd4⟩ (mk_get (tl86 hT)) rfl rfl (s_X7_readSum_v4 g hT I47 R (by first | omega | assumption | exact (iv_rng _).2 | exact (iv_rng _).1 | decide)) rfl rfl (Nat.le_of_ble_eq_true rfl) (by decide) rfl rfl 137 rfl (fun rv h1 q53 => ?_)
            obtain ⟨m54, n55, v58, rfl, rfl, I56, K57, pv58, qv58, rv58⟩ := q53
            replace rv58 : (m46 86 3).toInt ≤ (m54 86 3).toInt ∧ (m54 86 3).toInt ≤ (m54 86 2).toInt ∧ (m54 86 2).toInt = (m46 86 2).toInt := rv58
            have K57c := K57
            have K57 := K48.trans (K57.sub (fun _ _ q => q))
            show PV _ _ _ _ _ _ _ 137 [.ref 86, .int 4, .int v16] [.int v58] _
            refine pv_if_ne (M := mX7_readPiece) (tgt := 142) dX7_readPiece_137 140 rfl (by decide) (fun c59 => ?_) (fun c59 => ?_)
            · have c59 := iv_ne (X := v58.toInt) (Y := 0) c59 rfl (by decide)
              refine pv_aload_n (M := mX7_readPiece) 0 dX7_readPiece_142 143 rfl rfl rfl ?_
              refine mv_get (M := mX7_readPiece) (v := .ref lb) dX7_readPiece_143 FX7 1 wd281 (by decide) (tl86 hT) rfl R.2.2.2.1 146 rfl ?_
              refine pv_iload_n (M := mX7_readPiece) 2 dX7_readPiece_146 147 rfl rfl rfl ?_
              refine pv_iconst (M := mX7_readPiece) (v := 0) dX7_readPiece_147 148 rfl (by decide) ?_
              refine pv_callv (M := mX7_readPiece) (as := [.int v16, .int 0]) (st := []) (kc2 := 0) (ks2 := 0) dX7_readPiece_148 wd567 YX6_emit ⟨wd568, wd569⟩ (mk_get R.2.2.2.2.2.2.1) rfl rfl (s_X6_emit g hT I56 lb R.2.2.2.2.2 v16 0 (by decide) (by decide)) rfl rfl (Nat.le_of_ble_eq_true rfl) (by decide) rfl rfl 151 rfl (fun rv h1 q60 => ?_)
              obtain ⟨m61, n62, rfl, rfl, I63, K64, rm61⟩ := q60
              have K64c := K64
              have w65 : (m61 86 3).toInt = (m54 86 3).toInt := congrArg Int32.toInt (K64 86 3 (wr_out (by omega)))
              have w66 : (m61 86 2).toInt = (m54 86 2).toInt := congrArg Int32.toInt (K64 86 2 (wr_out (by omega)))
              have K64 := K57.trans (K64.sub (wr_wr (by omega) (by omega)))
              show PV _ _ _ _ _ _ _ 151 [.ref 86, .int 4, .int v16] [] _
              refine pv_iconst (M := mX7_readPiece) (v := 1) dX7_readPiece_151 152 rfl (by decide) ?_
              have z67 : (1 : Int32).toInt = 1 := by decide
              exact pv_iret (M := mX7_readPiece) dX7_readPiece_152 rfl rfl ⟨_, _, _, rfl, rfl, I63, K64, by decide, by decide, (by refine ⟨?_, ?_, ?_⟩ <;> omega)⟩
            · have c59 := iv_eq (X := v58.toInt) (Y := 0) c59 rfl (by decide)
              refine pv_iconst (M := mX7_readPiece) (v := 0) dX7_readPiece_140 141 rfl (by decide) ?_
              have z68 : (0 : Int32).toInt = 0 := by decide
              exact pv_iret (M := mX7_readPiece) dX7_readPiece_141 rfl rfl ⟨_, _, _, rfl, rfl, I56, K57, by decide, by decide, (by refine ⟨?_, ?_, ?_⟩ <;> omega)⟩
          · have c43 := iv_ne (X := v16.toInt) (Y := 62) c43 rfl (by decide)
            refine pv_iload_n (M := mX7_readPiece) 2 dX7_readPiece_110 111 rfl rfl rfl ?_
            refine pv_bipush (M := mX7_readPiece) (v := 61) dX7_readPiece_111 113 rfl (by decide) ?_
            refine pv_icmp_eq (M := mX7_readPiece) (tgt := 122) dX7_readPiece_113 116 rfl (by decide) (fun c69 => ?_) (fun c69 => ?_)
            · have c69 := iv_eq (X := v16.toInt) (Y := 61) c69 rfl (by decide)
              refine pv_aload_n (M := mX7_readPiece) 0 dX7_readPiece_122 123 rfl rfl rfl ?_
              refine pv_dup (M := mX7_readPiece) dX7_readPiece_123 124 rfl rfl ?_
              refine iv_get (M := mX7_readPiece) (l1 := 0) (l2 := 160) dX7_readPiece_124 FX7 3 wd283 (by decide) (tl86 hT) rfl I11 rfl 127 rfl (fun v70 ev70 pv70 qv70 => ?_)
              have wv70 : v70.toInt = (m9 86 3).toInt := congrArg Int32.toInt ev70
              refine pv_iconst (M := mX7_readPiece) (v := 1) dX7_readPiece_127 128 rfl (by decide) ?_
              refine iv_iadd (M := mX7_readPiece) (X := v70.toInt) (Y := 1) dX7_readPiece_128 129 rfl rfl (by decide) (by omega) (by omega) (fun v71 ev71 => ?_)
              refine iv_put (M := mX7_readPiece) (l1 := 0) (l2 := 160) dX7_readPiece_129 FX7 3 wd283 (by decide) rfl (tl86 hT) rfl rfl rfl I11 rfl (by omega) (by omega) 132 rfl (fun m72 e75 I73 => ?_)
              have K74 := K12.set e75 (wl_r (by omega) (by omega))
              have w76 : (m72 86 3).toInt = v71.toInt := by rw [e75, up2_eq]
              have w77 : (m72 86 2).toInt = (m9 86 2).toInt := by rw [e75, up2_ne (by omega)]
              refine pv_aload_n (M := mX7_readPiece) 0 dX7_readPiece_132 133 rfl rfl rfl ?_
              refine pv_iload_n (M := mX7_readPiece) 1 dX7_readPiece_133 134 rfl rfl rfl ?_
              have z78 : (4 : Int32).toInt = 4 := by decide
              refine pv_callv (M := mX7_readPiece) (as := [.int 4]) (st := []) (kc2 := 0) (ks2 := 0) dX7_readPiece_134 wd539 YX7_readSum ⟨wd541, wd4⟩ (mk_get (tl86 hT)) rfl rfl (s_X7_readSum_v4 g hT I73 R (by first | omega | assumption | exact (iv_rng _).2 | exact (iv_rng _).1 | decide)) rfl rfl (Nat.le_of_ble_eq_true rfl) (by decide) rfl rfl 137 rfl (fun rv h1 q79 => ?_)
              obtain ⟨m80, n81, v84, rfl, rfl, I82, K83, pv84, qv84, rv84⟩ := q79
              replace rv84 : (m72 86 3).toInt ≤ (m80 86 3).toInt ∧ (m80 86 3).toInt ≤ (m80 86 2).toInt ∧ (m80 86 2).toInt = (m72 86 2).toInt := rv84
              have K83c := K83
              have K83 := K74.trans (K83.sub (fun _ _ q => q))
              show PV _ _ _ _ _ _ _ 137 [.ref 86, .int 4, .int v16] [.int v84] _
              refine pv_if_ne (M := mX7_readPiece) (tgt := 142) dX7_readPiece_137 140 rfl (by decide) (fun c85 => ?_) (fun c85 => ?_)
              · have c85 := iv_ne (X := v84.toInt) (Y := 0) c85 rfl (by decide)
                refine pv_aload_n (M := mX7_readPiece) 0 dX7_readPiece_142 143 rfl rfl rfl ?_
                refine mv_get (M := mX7_readPiece) (v := .ref lb) dX7_readPiece_143 FX7 1 wd281 (by decide) (tl86 hT) rfl R.2.2.2.1 146 rfl ?_
                refine pv_iload_n (M := mX7_readPiece) 2 dX7_readPiece_146 147 rfl rfl rfl ?_
                refine pv_iconst (M := mX7_readPiece) (v := 0) dX7_readPiece_147 148 rfl (by decide) ?_
                refine pv_callv (M := mX7_readPiece) (as := [.int v16, .int 0]) (st := []) (kc2 := 0) (ks2 := 0) dX7_readPiece_148 wd567 YX6_emit ⟨wd568, wd569⟩ (mk_get R.2.2.2.2.2.2.1) rfl rfl (s_X6_emit g hT I82 lb R.2.2.2.2.2 v16 0 (by decide) (by decide)) rfl rfl (Nat.le_of_ble_eq_true rfl) (by decide) rfl rfl 151 rfl (fun rv h1 q86 => ?_)
                obtain ⟨m87, n88, rfl, rfl, I89, K90, rm87⟩ := q86
                have K90c := K90
                have w91 : (m87 86 3).toInt = (m80 86 3).toInt := congrArg Int32.toInt (K90 86 3 (wr_out (by omega)))
                have w92 : (m87 86 2).toInt = (m80 86 2).toInt := congrArg Int32.toInt (K90 86 2 (wr_out (by omega)))
                have K90 := K83.trans (K90.sub (wr_wr (by omega) (by omega)))
                show PV _ _ _ _ _ _ _ 151 [.ref 86, .int 4, .int v16] [] _
                refine pv_iconst (M := mX7_readPiece) (v := 1) dX7_readPiece_151 152 rfl (by decide) ?_
                have z93 : (1 : Int32).toInt = 1 := by decide
                exact pv_iret (M := mX7_readPiece) dX7_readPiece_152 rfl rfl ⟨_, _, _, rfl, rfl, I89, K90, by decide, by decide, (by refine ⟨?_, ?_, ?_⟩ <;> omega)⟩
              · have c85 := iv_eq (X := v84.toInt) (Y := 0) c85 rfl (by decide)
                refine pv_iconst (M := mX7_readPiece) (v := 0) dX7_readPiece_140 141 rfl (by decide) ?_
                have z94 : (0 : Int32).toInt = 0 := by decide
                exact pv_iret (M := mX7_readPiece) dX7_readPiece_141 rfl rfl ⟨_, _, _, rfl, rfl, I82, K83, by decide, by decide, (by refine ⟨?_, ?_, ?_⟩ <;> omega)⟩
            · have c69 := iv_ne (X := v16.toInt) (Y := 61) c69 rfl (by decide)
              refine pv_aload_n (M := mX7_readPiece) 0 dX7_readPiece_116 117 rfl rfl rfl ?_
              refine pv_iconst (M := mX7_readPiece) (v := 1) dX7_readPiece_117 118 rfl (by decide) ?_
              have z95 : (1 : Int32).toInt = 1 := by decide
              refine pv_callv (M := mX7_readPiece) (as := [.int 1]) (st := []) (kc2 := 0) (ks2 := 0) dX7_readPiece_118 wd531 YX7_fail ⟨wd533, wd3⟩ (mk_get (tl86 hT)) rfl rfl (s_X7_fail g hT I11 R 1 (by first | omega | assumption | exact (iv_rng _).2 | exact (iv_rng _).1 | decide)) rfl rfl (Nat.le_of_ble_eq_true rfl) (by decide) rfl rfl 121 rfl (fun rv h1 q96 => ?_)
              obtain ⟨m97, n98, v101, rfl, rfl, I99, K100, pv101, qv101, rv101⟩ := q96
              replace rv101 : v101.toInt = 0 ∧ (m9 86 3).toInt ≤ (m97 86 3).toInt ∧ (m97 86 3).toInt ≤ (m97 86 2).toInt ∧ (m97 86 2).toInt = (m9 86 2).toInt := rv101
              have K100c := K100
              have K100 := K12.trans (K100.sub (fun _ _ q => q))
              show PV _ _ _ _ _ _ _ 121 [.ref 86, .int 4, .int v16] [.int v101] _
              exact pv_iret (M := mX7_readPiece) dX7_readPiece_121 rfl (iv_nz (by omega) (by omega)) ⟨_, _, _, rfl, rfl, I99, K100, by omega, by omega, (by refine ⟨?_, ?_, ?_⟩ <;> omega)⟩
      · have c14 := iv_eq (X := v13.toInt) (Y := 0) c14 rfl (by decide)
        refine pv_iconst (M := mX7_readPiece) (v := 0) dX7_readPiece_91 92 rfl (by decide) ?_
        have z102 : (0 : Int32).toInt = 0 := by decide
        exact pv_iret (M := mX7_readPiece) dX7_readPiece_92 rfl rfl ⟨_, _, _, rfl, rfl, I11, K12, by decide, by decide, (by refine ⟨?_, ?_, ?_⟩ <;> omega)⟩
    · have c6 := iv_eq (X := v5.toInt) (Y := 40) c6 rfl (by decide)
      refine pv_aload_n (M := mX7_readPiece) 0 dX7_readPiece_50 51 rfl rfl rfl ?_
      refine pv_iload_n (M := mX7_readPiece) 1 dX7_readPiece_51 52 rfl rfl rfl ?_
      have z103 : (4 : Int32).toInt = 4 := by decide
      refine pv_callv (M := mX7_readPiece) (as := [.int 4]) (st := []) (kc2 := 0) (ks2 := 0) dX7_readPiece_52 wd551 YX7_open ⟨wd553, wd7⟩ (mk_get (tl86 hT)) rfl rfl (s_X7_open g hT I R 4 (by first | omega | assumption | exact (iv_rng _).2 | exact (iv_rng _).1 | decide)) rfl rfl (Nat.le_of_ble_eq_true rfl) (by decide) rfl rfl 55 rfl (fun rv h1 q104 => ?_)
      obtain ⟨m105, n106, v109, rfl, rfl, I107, K108, pv109, qv109, rv109⟩ := q104
      replace rv109 : (v109 = 0 ∨ (4 : Int) ≤ 5) ∧ (m 86 3).toInt ≤ (m105 86 3).toInt ∧ (m105 86 3).toInt ≤ (m105 86 2).toInt ∧ (m105 86 2).toInt = (m 86 2).toInt := by have q_ := rv109; (try rw [z103] at q_); exact q_
      have K108c := K108
      have K108 := Kp.trans (K108.sub (fun _ _ q => q))
      show PV _ _ _ _ _ _ _ 55 [.ref 86, .int 4, pv_U] [.int v109] _
      refine pv_if_eq (M := mX7_readPiece) (tgt := 81) dX7_readPiece_55 58 rfl (by decide) (fun c110 => ?_) (fun c110 => ?_)
      · have c110 := iv_eq (X := v109.toInt) (Y := 0) c110 rfl (by decide)
        refine pv_iconst (M := mX7_readPiece) (v := 0) dX7_readPiece_81 82 rfl (by decide) ?_
        have z111 : (0 : Int32).toInt = 0 := by decide
        exact pv_iret (M := mX7_readPiece) dX7_readPiece_82 rfl rfl ⟨_, _, _, rfl, rfl, I107, K108, by decide, by decide, (by refine ⟨?_, ?_, ?_⟩ <;> omega)⟩
      · have pc110 := rv109.1.resolve_left c110
        have c110 := iv_ne (X := v109.toInt) (Y := 0) c110 rfl (by decide)
        refine pv_aload_n (M := mX7_readPiece) 0 dX7_readPiece_58 59 rfl rfl rfl ?_
        refine pv_iload_n (M := mX7_readPiece) 1 dX7_readPiece_59 60 rfl rfl rfl ?_
        refine pv_iconst (M := mX7_readPiece) (v := 1) dX7_readPiece_60 61 rfl (by decide) ?_
        refine pv_iadd (M := mX7_readPiece) (v := 5) dX7_readPiece_61 62 rfl (by decide) ?_
        have z113 : (5 : Int32).toInt = 5 := by decide
        refine pv_callv (M := mX7_readPiece) (as := [.int 5]) (st := []) (kc2 := 0) (ks2 := 0) dX7_readPiece_62 wd662 YX7_readCondition ⟨wd664, wd12⟩ (mk_get (tl86 hT)) rfl rfl (s_X7_readCondition_v5 g hT I107 R (by first | omega | assumption | exact (iv_rng _).2 | exact (iv_rng _).1 | decide)) rfl rfl (Nat.le_of_ble_eq_true rfl) (by decide) rfl rfl 65 rfl (fun rv h1 q114 => ?_)
        obtain ⟨m115, n116, v119, rfl, rfl, I117, K118, pv119, qv119, rv119⟩ := q114
        replace rv119 : (m105 86 3).toInt ≤ (m115 86 3).toInt ∧ (m115 86 3).toInt ≤ (m115 86 2).toInt ∧ (m115 86 2).toInt = (m105 86 2).toInt := rv119
        have K118c := K118
        have K118 := K108.trans (K118.sub (fun _ _ q => q))
        show PV _ _ _ _ _ _ _ 65 [.ref 86, .int 4, pv_U] [.int v119] _
        refine pv_if_eq (M := mX7_readPiece) (tgt := 81) dX7_readPiece_65 68 rfl (by decide) (fun c120 => ?_) (fun c120 => ?_)
        · have c120 := iv_eq (X := v119.toInt) (Y := 0) c120 rfl (by decide)
          refine pv_iconst (M := mX7_readPiece) (v := 0) dX7_readPiece_81 82 rfl (by decide) ?_
          have z121 : (0 : Int32).toInt = 0 := by decide
          exact pv_iret (M := mX7_readPiece) dX7_readPiece_82 rfl rfl ⟨_, _, _, rfl, rfl, I117, K118, by decide, by decide, (by refine ⟨?_, ?_, ?_⟩ <;> omega)⟩
        · have c120 := iv_ne (X := v119.toInt) (Y := 0) c120 rfl (by decide)
          refine pv_aload_n (M := mX7_readPiece) 0 dX7_readPiece_68 69 rfl rfl rfl ?_
          refine pv_bipush (M := mX7_readPiece) (v := 41) dX7_readPiece_69 71 rfl (by decide) ?_
          have z122 : (41 : Int32).toInt = 41 := by decide
          refine pv_callv (M := mX7_readPiece) (as := [.int 41]) (st := []) (kc2 := 0) (ks2 := 0) dX7_readPiece_71 wd555 YX7_pass ⟨wd557, wd8⟩ (mk_get (tl86 hT)) rfl rfl (s_X7_pass g hT I117 R 41 (by decide) (by decide) (by first | omega | assumption | exact (iv_rng _).2 | exact (iv_rng _).1 | decide)) rfl rfl (Nat.le_of_ble_eq_true rfl) (by decide) rfl rfl 74 rfl (fun rv h1 q123 => ?_)
          obtain ⟨m124, n125, v128, rfl, rfl, I126, K127, pv128, qv128, rv128⟩ := q123
          replace rv128 : (m115 86 3).toInt ≤ (m124 86 3).toInt ∧ (m124 86 3).toInt ≤ (m124 86 2).toInt ∧ (m124 86 2).toInt = (m115 86 2).toInt := rv128
          have K127c := K127
          have K127 := K118.trans (K127.sub (fun _ _ q => q))
          show PV _ _ _ _ _ _ _ 74 [.ref 86, .int 4, pv_U] [.int v128] _
          refine pv_if_eq (M := mX7_readPiece) (tgt := 81) dX7_readPiece_74 77 rfl (by decide) (fun c129 => ?_) (fun c129 => ?_)
          · have c129 := iv_eq (X := v128.toInt) (Y := 0) c129 rfl (by decide)
            refine pv_iconst (M := mX7_readPiece) (v := 0) dX7_readPiece_81 82 rfl (by decide) ?_
            have z130 : (0 : Int32).toInt = 0 := by decide
            exact pv_iret (M := mX7_readPiece) dX7_readPiece_82 rfl rfl ⟨_, _, _, rfl, rfl, I126, K127, by decide, by decide, (by refine ⟨?_, ?_, ?_⟩ <;> omega)⟩
          · have c129 := iv_ne (X := v128.toInt) (Y := 0) c129 rfl (by decide)
            refine pv_iconst (M := mX7_readPiece) (v := 1) dX7_readPiece_77 78 rfl (by decide) ?_
            refine pv_goto (M := mX7_readPiece) (tgt := 82) dX7_readPiece_78 (by decide) ?_
            have z131 : (1 : Int32).toInt = 1 := by decide
            exact pv_iret (M := mX7_readPiece) dX7_readPiece_82 rfl rfl ⟨_, _, _, rfl, rfl, I126, K127, by decide, by decide, (by refine ⟨?_, ?_, ?_⟩ <;> omega)⟩
  · have c3 := iv_eq (X := v2.toInt) (Y := 33) c3 rfl (by decide)
    refine pv_aload_n (M := mX7_readPiece) 0 dX7_readPiece_9 10 rfl rfl rfl ?_
    refine pv_iload_n (M := mX7_readPiece) 1 dX7_readPiece_10 11 rfl rfl rfl ?_
    have z132 : (4 : Int32).toInt = 4 := by decide
    refine pv_callv (M := mX7_readPiece) (as := [.int 4]) (st := []) (kc2 := 0) (ks2 := 0) dX7_readPiece_11 wd551 YX7_open ⟨wd553, wd7⟩ (mk_get (tl86 hT)) rfl rfl (s_X7_open g hT I R 4 (by first | omega | assumption | exact (iv_rng _).2 | exact (iv_rng _).1 | decide)) rfl rfl (Nat.le_of_ble_eq_true rfl) (by decide) rfl rfl 14 rfl (fun rv h1 q133 => ?_)
    obtain ⟨m134, n135, v138, rfl, rfl, I136, K137, pv138, qv138, rv138⟩ := q133
    replace rv138 : (v138 = 0 ∨ (4 : Int) ≤ 5) ∧ (m 86 3).toInt ≤ (m134 86 3).toInt ∧ (m134 86 3).toInt ≤ (m134 86 2).toInt ∧ (m134 86 2).toInt = (m 86 2).toInt := by have q_ := rv138; (try rw [z132] at q_); exact q_
    have K137c := K137
    have K137 := Kp.trans (K137.sub (fun _ _ q => q))
    show PV _ _ _ _ _ _ _ 14 [.ref 86, .int 4, pv_U] [.int v138] _
    refine pv_if_eq (M := mX7_readPiece) (tgt := 27) dX7_readPiece_14 17 rfl (by decide) (fun c139 => ?_) (fun c139 => ?_)
    · have c139 := iv_eq (X := v138.toInt) (Y := 0) c139 rfl (by decide)
      refine pv_iconst (M := mX7_readPiece) (v := 0) dX7_readPiece_27 28 rfl (by decide) ?_
      have z140 : (0 : Int32).toInt = 0 := by decide
      exact pv_iret (M := mX7_readPiece) dX7_readPiece_28 rfl rfl ⟨_, _, _, rfl, rfl, I136, K137, by decide, by decide, (by refine ⟨?_, ?_, ?_⟩ <;> omega)⟩
    · have pc139 := rv138.1.resolve_left c139
      have c139 := iv_ne (X := v138.toInt) (Y := 0) c139 rfl (by decide)
      refine pv_aload_n (M := mX7_readPiece) 0 dX7_readPiece_17 18 rfl rfl rfl ?_
      refine pv_iload_n (M := mX7_readPiece) 1 dX7_readPiece_18 19 rfl rfl rfl ?_
      refine pv_iconst (M := mX7_readPiece) (v := 1) dX7_readPiece_19 20 rfl (by decide) ?_
      refine pv_iadd (M := mX7_readPiece) (v := 5) dX7_readPiece_20 21 rfl (by decide) ?_
      have z142 : (5 : Int32).toInt = 5 := by decide
      refine pv_callv (M := mX7_readPiece) (as := [.int 5]) (st := []) (kc2 := 0) (ks2 := 0) dX7_readPiece_21 wd674 YX7_readPiece ⟨wd676, wd14⟩ (mk_get (tl86 hT)) rfl rfl (s_X7_readPiece_v5 g hT I136 R (by first | omega | assumption | exact (iv_rng _).2 | exact (iv_rng _).1 | decide)) rfl rfl (Nat.le_of_ble_eq_true rfl) (by decide) rfl rfl 24 rfl (fun rv h1 q143 => ?_)
      obtain ⟨m144, n145, v148, rfl, rfl, I146, K147, pv148, qv148, rv148⟩ := q143
      replace rv148 : (m134 86 3).toInt ≤ (m144 86 3).toInt ∧ (m144 86 3).toInt ≤ (m144 86 2).toInt ∧ (m144 86 2).toInt = (m134 86 2).toInt := rv148
      have K147c := K147
      have K147 := K137.trans (K147.sub (fun _ _ q => q))
      show PV _ _ _ _ _ _ _ 24 [.ref 86, .int 4, pv_U] [.int v148] _
      refine pv_if_ne (M := mX7_readPiece) (tgt := 29) dX7_readPiece_24 27 rfl (by decide) (fun c149 => ?_) (fun c149 => ?_)
      · have c149 := iv_ne (X := v148.toInt) (Y := 0) c149 rfl (by decide)
        refine pv_aload_n (M := mX7_readPiece) 0 dX7_readPiece_29 30 rfl rfl rfl ?_
        refine mv_get (M := mX7_readPiece) (v := .ref lb) dX7_readPiece_30 FX7 1 wd281 (by decide) (tl86 hT) rfl R.2.2.2.1 33 rfl ?_
        refine pv_bipush (M := mX7_readPiece) (v := 33) dX7_readPiece_33 35 rfl (by decide) ?_
        refine pv_iconst (M := mX7_readPiece) (v := 0) dX7_readPiece_35 36 rfl (by decide) ?_
        refine pv_callv (M := mX7_readPiece) (as := [.int 33, .int 0]) (st := []) (kc2 := 0) (ks2 := 0) dX7_readPiece_36 wd567 YX6_emit ⟨wd568, wd569⟩ (mk_get R.2.2.2.2.2.2.1) rfl rfl (s_X6_emit g hT I146 lb R.2.2.2.2.2 33 0 (by decide) (by decide)) rfl rfl (Nat.le_of_ble_eq_true rfl) (by decide) rfl rfl 39 rfl (fun rv h1 q150 => ?_)
        obtain ⟨m151, n152, rfl, rfl, I153, K154, rm151⟩ := q150
        have K154c := K154
        have w155 : (m151 86 3).toInt = (m144 86 3).toInt := congrArg Int32.toInt (K154 86 3 (wr_out (by omega)))
        have w156 : (m151 86 2).toInt = (m144 86 2).toInt := congrArg Int32.toInt (K154 86 2 (wr_out (by omega)))
        have K154 := K147.trans (K154.sub (wr_wr (by omega) (by omega)))
        show PV _ _ _ _ _ _ _ 39 [.ref 86, .int 4, pv_U] [] _
        refine pv_iconst (M := mX7_readPiece) (v := 1) dX7_readPiece_39 40 rfl (by decide) ?_
        have z157 : (1 : Int32).toInt = 1 := by decide
        exact pv_iret (M := mX7_readPiece) dX7_readPiece_40 rfl rfl ⟨_, _, _, rfl, rfl, I153, K154, by decide, by decide, (by refine ⟨?_, ?_, ?_⟩ <;> omega)⟩
      · have c149 := iv_eq (X := v148.toInt) (Y := 0) c149 rfl (by decide)
        refine pv_iconst (M := mX7_readPiece) (v := 0) dX7_readPiece_27 28 rfl (by decide) ?_
        have z158 : (0 : Int32).toInt = 0 := by decide
        exact pv_iret (M := mX7_readPiece) dX7_readPiece_28 rfl rfl ⟨_, _, _, rfl, rfl, I146, K147, by decide, by decide, (by refine ⟨?_, ?_, ?_⟩ <;> omega)⟩

set_option maxHeartbeats 2000000 in
set_option maxRecDepth 20000 in
theorem s_X7_readPart_v4 (g : pv_G) {T : List mv_T} {m : Nat → Nat → Int32} {n : Nat → Nat → Int64} {r : Nat → Value} {la lb : Nat} (hT : TX T) (I : IV BB m) (R : RX T r la lb) (hp0 : (m 86 3).toInt ≤ (m 86 2).toInt) : PM g mX7_readPart yX7_readPart (sqI T BB (wl [(77, 96, none)]) r m 0 1 (fun m' v => (m 86 3).toInt ≤ (m' 86 3).toInt ∧ (m' 86 3).toInt ≤ (m' 86 2).toInt ∧ (m' 86 2).toInt = (m 86 2).toInt)) 15 0 0 [.ref 86, .int 4] (mk T m n r) := by
  have Kp : fr (wl [(77, 96, none)]) m m := fr.rf
  have R0 := R
  have zR := R.2.2.2.2.1.1
  have zR2 := R.2.2.2.2.2.1
  have z65 : 0 ≤ (m 86 3).toInt ∧ (m 86 3).toInt ≤ 160 := I 86 3
  have z66 : 0 ≤ (m 86 2).toInt ∧ (m 86 2).toInt ≤ 160 := I 86 2
  refine PM.of 2 (lo := [.ref 86, .int 4, pv_U, pv_U]) rfl (by decide) rfl rfl (Nat.le_of_ble_eq_true rfl) ?_
  refine pv_aload_n (M := mX7_readPart) 0 dX7_readPart_0 1 rfl rfl rfl ?_
  refine mv_get (M := mX7_readPart) (v := .ref lb) dX7_readPart_1 FX7 1 wd281 (by decide) (tl86 hT) rfl R.2.2.2.1 4 rfl ?_
  refine pv_callv (M := mX7_readPart) (as := []) (st := []) (kc2 := 0) (ks2 := 0) dX7_readPart_4 wd666 YX6_steps ⟨wd667, wd668⟩ (mk_get R.2.2.2.2.2.2.1) rfl rfl (s_X6_steps g hT I lb R.2.2.2.2.2) rfl rfl (Nat.le_of_ble_eq_true rfl) (by decide) rfl rfl 7 rfl (fun rv h1 q1 => ?_)
  obtain ⟨v2, rfl, rfl, pv2, qv2, rv2⟩ := q1
  show PV _ _ _ _ _ _ _ 7 [.ref 86, .int 4, pv_U, pv_U] [.int v2] _
  refine pv_istore_n (M := mX7_readPart) 2 (lo2 := [.ref 86, .int 4, .int v2, pv_U]) dX7_readPart_7 8 rfl rfl (by decide) rfl rfl ?_
  refine pv_iconst (M := mX7_readPart) (v := 0) dX7_readPart_8 9 rfl (by decide) ?_
  refine pv_istore_n (M := mX7_readPart) 3 (lo2 := [.ref 86, .int 4, .int v2, .int 0]) dX7_readPart_9 10 rfl rfl (by decide) rfl rfl ?_
  have lp9 : ∀ (fuel8 : Nat) (y3 : Int32) (m4 : Nat → Nat → Int32) (n5 : Nat → Nat → Int64), (0 ≤ y3.toInt) → (y3.toInt ≤ 160) → ((m 86 3).toInt ≤ (m4 86 3).toInt) → ((m4 86 3).toInt ≤ (m4 86 2).toInt) → ((m4 86 2).toInt = (m 86 2).toInt) → IV BB m4 → fr (wl [(77, 96, none)]) m m4 → ((160 - y3.toInt) : Int).toNat < fuel8 → PV none g mX7_readPart (sqI T BB (wl [(77, 96, none)]) r m 0 1 (fun m' v => (m 86 3).toInt ≤ (m' 86 3).toInt ∧ (m' 86 3).toInt ≤ (m' 86 2).toInt ∧ (m' 86 2).toInt = (m 86 2).toInt)) 15 0 0 10 [.ref 86, .int 4, .int v2, .int y3] [] (mk T m4 n5 r) := by
    intro fuel8
    induction fuel8 with
    | zero => intro y3 m4 n5 b11 b12 b13 b14 b15 I6 K7 z16; omega
    | succ fuel8 ih10 =>
      intro y3 m4 n5 b11 b12 b13 b14 b15 I6 K7 z16
      have z17 : 0 ≤ (m4 86 3).toInt ∧ (m4 86 3).toInt ≤ 160 := I6 86 3
      have z18 : 0 ≤ (m4 86 2).toInt ∧ (m4 86 2).toInt ≤ 160 := I6 86 2
      refine pv_iload_n (M := mX7_readPart) 3 dX7_readPart_10 11 rfl rfl rfl ?_
      refine pv_sipush (M := mX7_readPart) (v := 160) dX7_readPart_11 14 rfl (by decide) ?_
      refine pv_icmp_ge (M := mX7_readPart) (tgt := 65) dX7_readPart_14 17 rfl (by decide) (fun c19 => ?_) (fun c19 => ?_)
      · have c19 := iv_le (X := 160) (Y := y3.toInt) c19 (by decide) rfl
        refine pv_aload_n (M := mX7_readPart) 0 dX7_readPart_65 66 rfl rfl rfl ?_
        refine mv_get (M := mX7_readPart) (v := .ref lb) dX7_readPart_66 FX7 1 wd281 (by decide) (tl86 hT) rfl R.2.2.2.1 69 rfl ?_
        refine pv_bipush (M := mX7_readPart) (v := 38) dX7_readPart_69 71 rfl (by decide) ?_
        refine pv_iload_n (M := mX7_readPart) 2 dX7_readPart_71 72 rfl rfl rfl ?_
        refine pv_callv (M := mX7_readPart) (as := [.int 38, .int v2]) (st := []) (kc2 := 0) (ks2 := 0) dX7_readPart_72 wd678 YX6_aimLeaps ⟨wd679, wd680⟩ (mk_get R.2.2.2.2.2.2.1) rfl rfl (s_X6_aimLeaps g hT I6 lb R.2.2.2.2.2 38 v2) rfl rfl (Nat.le_of_ble_eq_true rfl) (by decide) rfl rfl 75 rfl (fun rv h1 q20 => ?_)
        obtain ⟨m21, n22, rfl, rfl, I23, K24, rm21⟩ := q20
        have K24c := K24
        have w25 : (m21 86 3).toInt = (m4 86 3).toInt := congrArg Int32.toInt (K24 86 3 (wr_out (by omega)))
        have w26 : (m21 86 2).toInt = (m4 86 2).toInt := congrArg Int32.toInt (K24 86 2 (wr_out (by omega)))
        have K24 := K7.trans (K24.sub (wr_wr (by omega) (by omega)))
        show PV _ _ _ _ _ _ _ 75 [.ref 86, .int 4, .int v2, .int y3] [] _
        refine pv_iconst (M := mX7_readPart) (v := 1) dX7_readPart_75 76 rfl (by decide) ?_
        have z27 : (1 : Int32).toInt = 1 := by decide
        exact pv_iret (M := mX7_readPart) dX7_readPart_76 rfl rfl ⟨_, _, _, rfl, rfl, I23, K24, by decide, by decide, (by refine ⟨?_, ?_, ?_⟩ <;> omega)⟩
      · have c19 := iv_nle (X := 160) (Y := y3.toInt) c19 (by decide) rfl
        refine pv_aload_n (M := mX7_readPart) 0 dX7_readPart_17 18 rfl rfl rfl ?_
        refine pv_iload_n (M := mX7_readPart) 1 dX7_readPart_18 19 rfl rfl rfl ?_
        have z28 : (4 : Int32).toInt = 4 := by decide
        refine pv_callv (M := mX7_readPart) (as := [.int 4]) (st := []) (kc2 := 0) (ks2 := 0) dX7_readPart_19 wd674 YX7_readPiece ⟨wd676, wd14⟩ (mk_get (tl86 hT)) rfl rfl (s_X7_readPiece_v4 g hT I6 R (by first | omega | assumption | exact (iv_rng _).2 | exact (iv_rng _).1 | decide)) rfl rfl (Nat.le_of_ble_eq_true rfl) (by decide) rfl rfl 22 rfl (fun rv h1 q29 => ?_)
        obtain ⟨m30, n31, v34, rfl, rfl, I32, K33, pv34, qv34, rv34⟩ := q29
        replace rv34 : (m4 86 3).toInt ≤ (m30 86 3).toInt ∧ (m30 86 3).toInt ≤ (m30 86 2).toInt ∧ (m30 86 2).toInt = (m4 86 2).toInt := rv34
        have K33c := K33
        have K33 := K7.trans (K33.sub (fun _ _ q => q))
        show PV _ _ _ _ _ _ _ 22 [.ref 86, .int 4, .int v2, .int y3] [.int v34] _
        refine pv_if_ne (M := mX7_readPart) (tgt := 27) dX7_readPart_22 25 rfl (by decide) (fun c35 => ?_) (fun c35 => ?_)
        · have c35 := iv_ne (X := v34.toInt) (Y := 0) c35 rfl (by decide)
          refine pv_aload_n (M := mX7_readPart) 0 dX7_readPart_27 28 rfl rfl rfl ?_
          refine pv_callv (M := mX7_readPart) (as := []) (st := []) (kc2 := 0) (ks2 := 0) dX7_readPart_28 wd527 YX7_peek ⟨wd529, wd2⟩ (mk_get (tl86 hT)) rfl rfl (s_X7_peek g hT I32 R) rfl rfl (Nat.le_of_ble_eq_true rfl) (by decide) rfl rfl 31 rfl (fun rv h1 q36 => ?_)
          obtain ⟨v37, rfl, rfl, pv37, qv37, rv37⟩ := q36
          replace rv37 : v37.toInt = -1 ∨ (m30 86 3).toInt < (m30 86 2).toInt := rv37
          show PV _ _ _ _ _ _ _ 31 [.ref 86, .int 4, .int v2, .int y3] [.int v37] _
          refine pv_bipush (M := mX7_readPart) (v := 38) dX7_readPart_31 33 rfl (by decide) ?_
          refine pv_icmp_eq (M := mX7_readPart) (tgt := 39) dX7_readPart_33 36 rfl (by decide) (fun c38 => ?_) (fun c38 => ?_)
          · have c38 := iv_eq (X := v37.toInt) (Y := 38) c38 rfl (by decide)
            refine pv_aload_n (M := mX7_readPart) 0 dX7_readPart_39 40 rfl rfl rfl ?_
            refine mv_get (M := mX7_readPart) (v := .ref lb) dX7_readPart_40 FX7 1 wd281 (by decide) (tl86 hT) rfl R.2.2.2.1 43 rfl ?_
            refine pv_bipush (M := mX7_readPart) (v := 38) dX7_readPart_43 45 rfl (by decide) ?_
            refine pv_iconst (M := mX7_readPart) (v := (-1)) dX7_readPart_45 46 rfl (by decide) ?_
            refine pv_callv (M := mX7_readPart) (as := [.int 38, .int (-1)]) (st := []) (kc2 := 0) (ks2 := 0) dX7_readPart_46 wd567 YX6_emit ⟨wd568, wd569⟩ (mk_get R.2.2.2.2.2.2.1) rfl rfl (s_X6_emit g hT I32 lb R.2.2.2.2.2 38 (-1) (by decide) (by decide)) rfl rfl (Nat.le_of_ble_eq_true rfl) (by decide) rfl rfl 49 rfl (fun rv h1 q39 => ?_)
            obtain ⟨m40, n41, rfl, rfl, I42, K43, rm40⟩ := q39
            have K43c := K43
            have w44 : (m40 86 3).toInt = (m30 86 3).toInt := congrArg Int32.toInt (K43 86 3 (wr_out (by omega)))
            have w45 : (m40 86 2).toInt = (m30 86 2).toInt := congrArg Int32.toInt (K43 86 2 (wr_out (by omega)))
            have K43 := K33.trans (K43.sub (wr_wr (by omega) (by omega)))
            show PV _ _ _ _ _ _ _ 49 [.ref 86, .int 4, .int v2, .int y3] [] _
            refine pv_aload_n (M := mX7_readPart) 0 dX7_readPart_49 50 rfl rfl rfl ?_
            refine pv_dup (M := mX7_readPart) dX7_readPart_50 51 rfl rfl ?_
            refine iv_get (M := mX7_readPart) (l1 := 0) (l2 := 160) dX7_readPart_51 FX7 3 wd283 (by decide) (tl86 hT) rfl I42 rfl 54 rfl (fun v46 ev46 pv46 qv46 => ?_)
            have wv46 : v46.toInt = (m40 86 3).toInt := congrArg Int32.toInt ev46
            refine pv_iconst (M := mX7_readPart) (v := 1) dX7_readPart_54 55 rfl (by decide) ?_
            refine iv_iadd (M := mX7_readPart) (X := v46.toInt) (Y := 1) dX7_readPart_55 56 rfl rfl (by decide) (by omega) (by omega) (fun v47 ev47 => ?_)
            refine iv_put (M := mX7_readPart) (l1 := 0) (l2 := 160) dX7_readPart_56 FX7 3 wd283 (by decide) rfl (tl86 hT) rfl rfl rfl I42 rfl (by omega) (by omega) 59 rfl (fun m48 e51 I49 => ?_)
            have K50 := K43.set e51 (wl_r (by omega) (by omega))
            have w52 : (m48 86 3).toInt = v47.toInt := by rw [e51, up2_eq]
            have w53 : (m48 86 2).toInt = (m40 86 2).toInt := by rw [e51, up2_ne (by omega)]
            refine iv_inc (M := mX7_readPart) (C := 1) dX7_readPart_59 62 rfl rfl (by decide) rfl rfl (by decide) (by omega) (by omega) (fun v54 ev54 => ?_)
            show PV _ _ _ _ _ _ _ 62 [.ref 86, .int 4, .int v2, .int v54] [] _
            refine pv_goto (M := mX7_readPart) (tgt := 10) dX7_readPart_62 (by decide) ?_
            exact ih10 v54 m48 n41 (by first | omega | assumption | exact (iv_rng _).2 | exact (iv_rng _).1 | decide) (by first | omega | assumption | exact (iv_rng _).2 | exact (iv_rng _).1 | decide) (by first | omega | assumption | (show (m 86 3).toInt ≤ (m48 86 3).toInt; omega) | decide) (by first | omega | assumption | (show (m48 86 3).toInt ≤ (m48 86 2).toInt; omega) | decide) (by first | omega | assumption | (show (m48 86 2).toInt = (m 86 2).toInt; omega) | decide) I49 K50 (by omega)
          · have c38 := iv_ne (X := v37.toInt) (Y := 38) c38 rfl (by decide)
            refine pv_goto (M := mX7_readPart) (tgt := 65) dX7_readPart_36 (by decide) ?_
            refine pv_aload_n (M := mX7_readPart) 0 dX7_readPart_65 66 rfl rfl rfl ?_
            refine mv_get (M := mX7_readPart) (v := .ref lb) dX7_readPart_66 FX7 1 wd281 (by decide) (tl86 hT) rfl R.2.2.2.1 69 rfl ?_
            refine pv_bipush (M := mX7_readPart) (v := 38) dX7_readPart_69 71 rfl (by decide) ?_
            refine pv_iload_n (M := mX7_readPart) 2 dX7_readPart_71 72 rfl rfl rfl ?_
            refine pv_callv (M := mX7_readPart) (as := [.int 38, .int v2]) (st := []) (kc2 := 0) (ks2 := 0) dX7_readPart_72 wd678 YX6_aimLeaps ⟨wd679, wd680⟩ (mk_get R.2.2.2.2.2.2.1) rfl rfl (s_X6_aimLeaps g hT I32 lb R.2.2.2.2.2 38 v2) rfl rfl (Nat.le_of_ble_eq_true rfl) (by decide) rfl rfl 75 rfl (fun rv h1 q55 => ?_)
            obtain ⟨m56, n57, rfl, rfl, I58, K59, rm56⟩ := q55
            have K59c := K59
            have w60 : (m56 86 3).toInt = (m30 86 3).toInt := congrArg Int32.toInt (K59 86 3 (wr_out (by omega)))
            have w61 : (m56 86 2).toInt = (m30 86 2).toInt := congrArg Int32.toInt (K59 86 2 (wr_out (by omega)))
            have K59 := K33.trans (K59.sub (wr_wr (by omega) (by omega)))
            show PV _ _ _ _ _ _ _ 75 [.ref 86, .int 4, .int v2, .int y3] [] _
            refine pv_iconst (M := mX7_readPart) (v := 1) dX7_readPart_75 76 rfl (by decide) ?_
            have z62 : (1 : Int32).toInt = 1 := by decide
            exact pv_iret (M := mX7_readPart) dX7_readPart_76 rfl rfl ⟨_, _, _, rfl, rfl, I58, K59, by decide, by decide, (by refine ⟨?_, ?_, ?_⟩ <;> omega)⟩
        · have c35 := iv_eq (X := v34.toInt) (Y := 0) c35 rfl (by decide)
          refine pv_iconst (M := mX7_readPart) (v := 0) dX7_readPart_25 26 rfl (by decide) ?_
          have z63 : (0 : Int32).toInt = 0 := by decide
          exact pv_iret (M := mX7_readPart) dX7_readPart_26 rfl rfl ⟨_, _, _, rfl, rfl, I32, K33, by decide, by decide, (by refine ⟨?_, ?_, ?_⟩ <;> omega)⟩
  have z64 : (0 : Int32).toInt = 0 := by decide
  exact lp9 (((160 - 0) : Int).toNat + 1) 0 m n (by first | omega | assumption | exact (iv_rng _).2 | exact (iv_rng _).1 | decide) (by first | omega | assumption | exact (iv_rng _).2 | exact (iv_rng _).1 | decide) (by first | omega | assumption | (show (m 86 3).toInt ≤ (m 86 3).toInt; omega) | decide) (by first | omega | assumption | (show (m 86 3).toInt ≤ (m 86 2).toInt; omega) | decide) (by first | omega | assumption | (show (m 86 2).toInt = (m 86 2).toInt; omega) | decide) I Kp (by omega)

set_option maxHeartbeats 2000000 in
set_option maxRecDepth 20000 in
theorem s_X7_readCondition_v4 (g : pv_G) {T : List mv_T} {m : Nat → Nat → Int32} {n : Nat → Nat → Int64} {r : Nat → Value} {la lb : Nat} (hT : TX T) (I : IV BB m) (R : RX T r la lb) (hp0 : (m 86 3).toInt ≤ (m 86 2).toInt) : PM g mX7_readCondition yX7_readCondition (sqI T BB (wl [(77, 96, none)]) r m 0 1 (fun m' v => (m 86 3).toInt ≤ (m' 86 3).toInt ∧ (m' 86 3).toInt ≤ (m' 86 2).toInt ∧ (m' 86 2).toInt = (m 86 2).toInt)) 16 0 0 [.ref 86, .int 4] (mk T m n r) := by
  have Kp : fr (wl [(77, 96, none)]) m m := fr.rf
  have R0 := R
  have zR := R.2.2.2.2.1.1
  have zR2 := R.2.2.2.2.2.1
  have z65 : 0 ≤ (m 86 3).toInt ∧ (m 86 3).toInt ≤ 160 := I 86 3
  have z66 : 0 ≤ (m 86 2).toInt ∧ (m 86 2).toInt ≤ 160 := I 86 2
  refine PM.of 2 (lo := [.ref 86, .int 4, pv_U, pv_U]) rfl (by decide) rfl rfl (Nat.le_of_ble_eq_true rfl) ?_
  refine pv_aload_n (M := mX7_readCondition) 0 dX7_readCondition_0 1 rfl rfl rfl ?_
  refine mv_get (M := mX7_readCondition) (v := .ref lb) dX7_readCondition_1 FX7 1 wd281 (by decide) (tl86 hT) rfl R.2.2.2.1 4 rfl ?_
  refine pv_callv (M := mX7_readCondition) (as := []) (st := []) (kc2 := 0) (ks2 := 0) dX7_readCondition_4 wd666 YX6_steps ⟨wd667, wd668⟩ (mk_get R.2.2.2.2.2.2.1) rfl rfl (s_X6_steps g hT I lb R.2.2.2.2.2) rfl rfl (Nat.le_of_ble_eq_true rfl) (by decide) rfl rfl 7 rfl (fun rv h1 q1 => ?_)
  obtain ⟨v2, rfl, rfl, pv2, qv2, rv2⟩ := q1
  show PV _ _ _ _ _ _ _ 7 [.ref 86, .int 4, pv_U, pv_U] [.int v2] _
  refine pv_istore_n (M := mX7_readCondition) 2 (lo2 := [.ref 86, .int 4, .int v2, pv_U]) dX7_readCondition_7 8 rfl rfl (by decide) rfl rfl ?_
  refine pv_iconst (M := mX7_readCondition) (v := 0) dX7_readCondition_8 9 rfl (by decide) ?_
  refine pv_istore_n (M := mX7_readCondition) 3 (lo2 := [.ref 86, .int 4, .int v2, .int 0]) dX7_readCondition_9 10 rfl rfl (by decide) rfl rfl ?_
  have lp9 : ∀ (fuel8 : Nat) (y3 : Int32) (m4 : Nat → Nat → Int32) (n5 : Nat → Nat → Int64), (0 ≤ y3.toInt) → (y3.toInt ≤ 160) → ((m 86 3).toInt ≤ (m4 86 3).toInt) → ((m4 86 3).toInt ≤ (m4 86 2).toInt) → ((m4 86 2).toInt = (m 86 2).toInt) → IV BB m4 → fr (wl [(77, 96, none)]) m m4 → ((160 - y3.toInt) : Int).toNat < fuel8 → PV none g mX7_readCondition (sqI T BB (wl [(77, 96, none)]) r m 0 1 (fun m' v => (m 86 3).toInt ≤ (m' 86 3).toInt ∧ (m' 86 3).toInt ≤ (m' 86 2).toInt ∧ (m' 86 2).toInt = (m 86 2).toInt)) 16 0 0 10 [.ref 86, .int 4, .int v2, .int y3] [] (mk T m4 n5 r) := by
    intro fuel8
    induction fuel8 with
    | zero => intro y3 m4 n5 b11 b12 b13 b14 b15 I6 K7 z16; omega
    | succ fuel8 ih10 =>
      intro y3 m4 n5 b11 b12 b13 b14 b15 I6 K7 z16
      have z17 : 0 ≤ (m4 86 3).toInt ∧ (m4 86 3).toInt ≤ 160 := I6 86 3
      have z18 : 0 ≤ (m4 86 2).toInt ∧ (m4 86 2).toInt ≤ 160 := I6 86 2
      refine pv_iload_n (M := mX7_readCondition) 3 dX7_readCondition_10 11 rfl rfl rfl ?_
      refine pv_sipush (M := mX7_readCondition) (v := 160) dX7_readCondition_11 14 rfl (by decide) ?_
      refine pv_icmp_ge (M := mX7_readCondition) (tgt := 65) dX7_readCondition_14 17 rfl (by decide) (fun c19 => ?_) (fun c19 => ?_)
      · have c19 := iv_le (X := 160) (Y := y3.toInt) c19 (by decide) rfl
        refine pv_aload_n (M := mX7_readCondition) 0 dX7_readCondition_65 66 rfl rfl rfl ?_
        refine mv_get (M := mX7_readCondition) (v := .ref lb) dX7_readCondition_66 FX7 1 wd281 (by decide) (tl86 hT) rfl R.2.2.2.1 69 rfl ?_
        refine pv_bipush (M := mX7_readCondition) (v := 124) dX7_readCondition_69 71 rfl (by decide) ?_
        refine pv_iload_n (M := mX7_readCondition) 2 dX7_readCondition_71 72 rfl rfl rfl ?_
        refine pv_callv (M := mX7_readCondition) (as := [.int 124, .int v2]) (st := []) (kc2 := 0) (ks2 := 0) dX7_readCondition_72 wd678 YX6_aimLeaps ⟨wd679, wd680⟩ (mk_get R.2.2.2.2.2.2.1) rfl rfl (s_X6_aimLeaps g hT I6 lb R.2.2.2.2.2 124 v2) rfl rfl (Nat.le_of_ble_eq_true rfl) (by decide) rfl rfl 75 rfl (fun rv h1 q20 => ?_)
        obtain ⟨m21, n22, rfl, rfl, I23, K24, rm21⟩ := q20
        have K24c := K24
        have w25 : (m21 86 3).toInt = (m4 86 3).toInt := congrArg Int32.toInt (K24 86 3 (wr_out (by omega)))
        have w26 : (m21 86 2).toInt = (m4 86 2).toInt := congrArg Int32.toInt (K24 86 2 (wr_out (by omega)))
        have K24 := K7.trans (K24.sub (wr_wr (by omega) (by omega)))
        show PV _ _ _ _ _ _ _ 75 [.ref 86, .int 4, .int v2, .int y3] [] _
        refine pv_iconst (M := mX7_readCondition) (v := 1) dX7_readCondition_75 76 rfl (by decide) ?_
        have z27 : (1 : Int32).toInt = 1 := by decide
        exact pv_iret (M := mX7_readCondition) dX7_readCondition_76 rfl rfl ⟨_, _, _, rfl, rfl, I23, K24, by decide, by decide, (by refine ⟨?_, ?_, ?_⟩ <;> omega)⟩
      · have c19 := iv_nle (X := 160) (Y := y3.toInt) c19 (by decide) rfl
        refine pv_aload_n (M := mX7_readCondition) 0 dX7_readCondition_17 18 rfl rfl rfl ?_
        refine pv_iload_n (M := mX7_readCondition) 1 dX7_readCondition_18 19 rfl rfl rfl ?_
        have z28 : (4 : Int32).toInt = 4 := by decide
        refine pv_callv (M := mX7_readCondition) (as := [.int 4]) (st := []) (kc2 := 0) (ks2 := 0) dX7_readCondition_19 wd670 YX7_readPart ⟨wd672, wd13⟩ (mk_get (tl86 hT)) rfl rfl (s_X7_readPart_v4 g hT I6 R (by first | omega | assumption | exact (iv_rng _).2 | exact (iv_rng _).1 | decide)) rfl rfl (Nat.le_of_ble_eq_true rfl) (by decide) rfl rfl 22 rfl (fun rv h1 q29 => ?_)
        obtain ⟨m30, n31, v34, rfl, rfl, I32, K33, pv34, qv34, rv34⟩ := q29
        replace rv34 : (m4 86 3).toInt ≤ (m30 86 3).toInt ∧ (m30 86 3).toInt ≤ (m30 86 2).toInt ∧ (m30 86 2).toInt = (m4 86 2).toInt := rv34
        have K33c := K33
        have K33 := K7.trans (K33.sub (fun _ _ q => q))
        show PV _ _ _ _ _ _ _ 22 [.ref 86, .int 4, .int v2, .int y3] [.int v34] _
        refine pv_if_ne (M := mX7_readCondition) (tgt := 27) dX7_readCondition_22 25 rfl (by decide) (fun c35 => ?_) (fun c35 => ?_)
        · have c35 := iv_ne (X := v34.toInt) (Y := 0) c35 rfl (by decide)
          refine pv_aload_n (M := mX7_readCondition) 0 dX7_readCondition_27 28 rfl rfl rfl ?_
          refine pv_callv (M := mX7_readCondition) (as := []) (st := []) (kc2 := 0) (ks2 := 0) dX7_readCondition_28 wd527 YX7_peek ⟨wd529, wd2⟩ (mk_get (tl86 hT)) rfl rfl (s_X7_peek g hT I32 R) rfl rfl (Nat.le_of_ble_eq_true rfl) (by decide) rfl rfl 31 rfl (fun rv h1 q36 => ?_)
          obtain ⟨v37, rfl, rfl, pv37, qv37, rv37⟩ := q36
          replace rv37 : v37.toInt = -1 ∨ (m30 86 3).toInt < (m30 86 2).toInt := rv37
          show PV _ _ _ _ _ _ _ 31 [.ref 86, .int 4, .int v2, .int y3] [.int v37] _
          refine pv_bipush (M := mX7_readCondition) (v := 124) dX7_readCondition_31 33 rfl (by decide) ?_
          refine pv_icmp_eq (M := mX7_readCondition) (tgt := 39) dX7_readCondition_33 36 rfl (by decide) (fun c38 => ?_) (fun c38 => ?_)
          · have c38 := iv_eq (X := v37.toInt) (Y := 124) c38 rfl (by decide)
            refine pv_aload_n (M := mX7_readCondition) 0 dX7_readCondition_39 40 rfl rfl rfl ?_
            refine mv_get (M := mX7_readCondition) (v := .ref lb) dX7_readCondition_40 FX7 1 wd281 (by decide) (tl86 hT) rfl R.2.2.2.1 43 rfl ?_
            refine pv_bipush (M := mX7_readCondition) (v := 124) dX7_readCondition_43 45 rfl (by decide) ?_
            refine pv_iconst (M := mX7_readCondition) (v := (-1)) dX7_readCondition_45 46 rfl (by decide) ?_
            refine pv_callv (M := mX7_readCondition) (as := [.int 124, .int (-1)]) (st := []) (kc2 := 0) (ks2 := 0) dX7_readCondition_46 wd567 YX6_emit ⟨wd568, wd569⟩ (mk_get R.2.2.2.2.2.2.1) rfl rfl (s_X6_emit g hT I32 lb R.2.2.2.2.2 124 (-1) (by decide) (by decide)) rfl rfl (Nat.le_of_ble_eq_true rfl) (by decide) rfl rfl 49 rfl (fun rv h1 q39 => ?_)
            obtain ⟨m40, n41, rfl, rfl, I42, K43, rm40⟩ := q39
            have K43c := K43
            have w44 : (m40 86 3).toInt = (m30 86 3).toInt := congrArg Int32.toInt (K43 86 3 (wr_out (by omega)))
            have w45 : (m40 86 2).toInt = (m30 86 2).toInt := congrArg Int32.toInt (K43 86 2 (wr_out (by omega)))
            have K43 := K33.trans (K43.sub (wr_wr (by omega) (by omega)))
            show PV _ _ _ _ _ _ _ 49 [.ref 86, .int 4, .int v2, .int y3] [] _
            refine pv_aload_n (M := mX7_readCondition) 0 dX7_readCondition_49 50 rfl rfl rfl ?_
            refine pv_dup (M := mX7_readCondition) dX7_readCondition_50 51 rfl rfl ?_
            refine iv_get (M := mX7_readCondition) (l1 := 0) (l2 := 160) dX7_readCondition_51 FX7 3 wd283 (by decide) (tl86 hT) rfl I42 rfl 54 rfl (fun v46 ev46 pv46 qv46 => ?_)
            have wv46 : v46.toInt = (m40 86 3).toInt := congrArg Int32.toInt ev46
            refine pv_iconst (M := mX7_readCondition) (v := 1) dX7_readCondition_54 55 rfl (by decide) ?_
            refine iv_iadd (M := mX7_readCondition) (X := v46.toInt) (Y := 1) dX7_readCondition_55 56 rfl rfl (by decide) (by omega) (by omega) (fun v47 ev47 => ?_)
            refine iv_put (M := mX7_readCondition) (l1 := 0) (l2 := 160) dX7_readCondition_56 FX7 3 wd283 (by decide) rfl (tl86 hT) rfl rfl rfl I42 rfl (by omega) (by omega) 59 rfl (fun m48 e51 I49 => ?_)
            have K50 := K43.set e51 (wl_r (by omega) (by omega))
            have w52 : (m48 86 3).toInt = v47.toInt := by rw [e51, up2_eq]
            have w53 : (m48 86 2).toInt = (m40 86 2).toInt := by rw [e51, up2_ne (by omega)]
            refine iv_inc (M := mX7_readCondition) (C := 1) dX7_readCondition_59 62 rfl rfl (by decide) rfl rfl (by decide) (by omega) (by omega) (fun v54 ev54 => ?_)
            show PV _ _ _ _ _ _ _ 62 [.ref 86, .int 4, .int v2, .int v54] [] _
            refine pv_goto (M := mX7_readCondition) (tgt := 10) dX7_readCondition_62 (by decide) ?_
            exact ih10 v54 m48 n41 (by first | omega | assumption | exact (iv_rng _).2 | exact (iv_rng _).1 | decide) (by first | omega | assumption | exact (iv_rng _).2 | exact (iv_rng _).1 | decide) (by first | omega | assumption | (show (m 86 3).toInt ≤ (m48 86 3).toInt; omega) | decide) (by first | omega | assumption | (show (m48 86 3).toInt ≤ (m48 86 2).toInt; omega) | decide) (by first | omega | assumption | (show (m48 86 2).toInt = (m 86 2).toInt; omega) | decide) I49 K50 (by omega)
          · have c38 := iv_ne (X := v37.toInt) (Y := 124) c38 rfl (by decide)
            refine pv_goto (M := mX7_readCondition) (tgt := 65) dX7_readCondition_36 (by decide) ?_
            refine pv_aload_n (M := mX7_readCondition) 0 dX7_readCondition_65 66 rfl rfl rfl ?_
            refine mv_get (M := mX7_readCondition) (v := .ref lb) dX7_readCondition_66 FX7 1 wd281 (by decide) (tl86 hT) rfl R.2.2.2.1 69 rfl ?_
            refine pv_bipush (M := mX7_readCondition) (v := 124) dX7_readCondition_69 71 rfl (by decide) ?_
            refine pv_iload_n (M := mX7_readCondition) 2 dX7_readCondition_71 72 rfl rfl rfl ?_
            refine pv_callv (M := mX7_readCondition) (as := [.int 124, .int v2]) (st := []) (kc2 := 0) (ks2 := 0) dX7_readCondition_72 wd678 YX6_aimLeaps ⟨wd679, wd680⟩ (mk_get R.2.2.2.2.2.2.1) rfl rfl (s_X6_aimLeaps g hT I32 lb R.2.2.2.2.2 124 v2) rfl rfl (Nat.le_of_ble_eq_true rfl) (by decide) rfl rfl 75 rfl (fun rv h1 q55 => ?_)
            obtain ⟨m56, n57, rfl, rfl, I58, K59, rm56⟩ := q55
            have K59c := K59
            have w60 : (m56 86 3).toInt = (m30 86 3).toInt := congrArg Int32.toInt (K59 86 3 (wr_out (by omega)))
            have w61 : (m56 86 2).toInt = (m30 86 2).toInt := congrArg Int32.toInt (K59 86 2 (wr_out (by omega)))
            have K59 := K33.trans (K59.sub (wr_wr (by omega) (by omega)))
            show PV _ _ _ _ _ _ _ 75 [.ref 86, .int 4, .int v2, .int y3] [] _
            refine pv_iconst (M := mX7_readCondition) (v := 1) dX7_readCondition_75 76 rfl (by decide) ?_
            have z62 : (1 : Int32).toInt = 1 := by decide
            exact pv_iret (M := mX7_readCondition) dX7_readCondition_76 rfl rfl ⟨_, _, _, rfl, rfl, I58, K59, by decide, by decide, (by refine ⟨?_, ?_, ?_⟩ <;> omega)⟩
        · have c35 := iv_eq (X := v34.toInt) (Y := 0) c35 rfl (by decide)
          refine pv_iconst (M := mX7_readCondition) (v := 0) dX7_readCondition_25 26 rfl (by decide) ?_
          have z63 : (0 : Int32).toInt = 0 := by decide
          exact pv_iret (M := mX7_readCondition) dX7_readCondition_26 rfl rfl ⟨_, _, _, rfl, rfl, I32, K33, by decide, by decide, (by refine ⟨?_, ?_, ?_⟩ <;> omega)⟩
  have z64 : (0 : Int32).toInt = 0 := by decide
  exact lp9 (((160 - 0) : Int).toNat + 1) 0 m n (by first | omega | assumption | exact (iv_rng _).2 | exact (iv_rng _).1 | decide) (by first | omega | assumption | exact (iv_rng _).2 | exact (iv_rng _).1 | decide) (by first | omega | assumption | (show (m 86 3).toInt ≤ (m 86 3).toInt; omega) | decide) (by first | omega | assumption | (show (m 86 3).toInt ≤ (m 86 2).toInt; omega) | decide) (by first | omega | assumption | (show (m 86 2).toInt = (m 86 2).toInt; omega) | decide) I Kp (by omega)

set_option maxHeartbeats 2000000 in
set_option maxRecDepth 20000 in
theorem s_X7_readFactor_v3 (g : pv_G) {T : List mv_T} {m : Nat → Nat → Int32} {n : Nat → Nat → Int64} {r : Nat → Value} {la lb : Nat} (hT : TX T) (I : IV BB m) (R : RX T r la lb) (hp0 : (m 86 3).toInt ≤ (m 86 2).toInt) : PM g mX7_readFactor yX7_readFactor (sqI T BB (wl [(77, 96, none)]) r m 0 1 (fun m' v => (m 86 3).toInt ≤ (m' 86 3).toInt ∧ (m' 86 3).toInt ≤ (m' 86 2).toInt ∧ (m' 86 2).toInt = (m 86 2).toInt)) 14 0 0 [.ref 86, .int 3] (mk T m n r) := by
  have Kp : fr (wl [(77, 96, none)]) m m := fr.rf
  have R0 := R
  have zR := R.2.2.2.2.1.1
  have zR2 := R.2.2.2.2.2.1
  have z82 : 0 ≤ (m 86 3).toInt ∧ (m 86 3).toInt ≤ 160 := I 86 3
  have z83 : 0 ≤ (m 86 2).toInt ∧ (m 86 2).toInt ≤ 160 := I 86 2
  refine PM.of 1 (lo := [.ref 86, .int 3, pv_U]) rfl (by decide) rfl rfl (Nat.le_of_ble_eq_true rfl) ?_
  refine pv_aload_n (M := mX7_readFactor) 0 dX7_readFactor_0 1 rfl rfl rfl ?_
  refine pv_callv (M := mX7_readFactor) (as := []) (st := []) (kc2 := 0) (ks2 := 0) dX7_readFactor_1 wd527 YX7_peek ⟨wd529, wd2⟩ (mk_get (tl86 hT)) rfl rfl (s_X7_peek g hT I R) rfl rfl (Nat.le_of_ble_eq_true rfl) (by decide) rfl rfl 4 rfl (fun rv h1 q1 => ?_)
  obtain ⟨v2, rfl, rfl, pv2, qv2, rv2⟩ := q1
  replace rv2 : v2.toInt = -1 ∨ (m 86 3).toInt < (m 86 2).toInt := rv2
  show PV _ _ _ _ _ _ _ 4 [.ref 86, .int 3, pv_U] [.int v2] _
  refine pv_bipush (M := mX7_readFactor) (v := 91) dX7_readFactor_4 6 rfl (by decide) ?_
  refine pv_icmp_ne (M := mX7_readFactor) (tgt := 42) dX7_readFactor_6 9 rfl (by decide) (fun c3 => ?_) (fun c3 => ?_)
  · have c3 := iv_ne (X := v2.toInt) (Y := 91) c3 rfl (by decide)
    refine pv_aload_n (M := mX7_readFactor) 0 dX7_readFactor_42 43 rfl rfl rfl ?_
    refine pv_callv (M := mX7_readFactor) (as := []) (st := []) (kc2 := 0) (ks2 := 0) dX7_readFactor_43 wd559 YX7_digitAhead ⟨wd561, wd9⟩ (mk_get (tl86 hT)) rfl rfl (s_X7_digitAhead g hT I R) rfl rfl (Nat.le_of_ble_eq_true rfl) (by decide) rfl rfl 46 rfl (fun rv h1 q4 => ?_)
    obtain ⟨v5, rfl, rfl, pv5, qv5, rv5⟩ := q4
    replace rv5 : v5 = 0 ∨ ((m 86 3).toInt < (m 86 2).toInt ∧ 48 ≤ (m 87 (m 86 3).toInt.toNat).toInt ∧ (m 87 (m 86 3).toInt.toNat).toInt ≤ 57) := rv5
    show PV _ _ _ _ _ _ _ 46 [.ref 86, .int 3, pv_U] [.int v5] _
    refine pv_if_eq (M := mX7_readFactor) (tgt := 54) dX7_readFactor_46 49 rfl (by decide) (fun c6 => ?_) (fun c6 => ?_)
    · have c6 := iv_eq (X := v5.toInt) (Y := 0) c6 rfl (by decide)
      refine pv_aload_n (M := mX7_readFactor) 0 dX7_readFactor_54 55 rfl rfl rfl ?_
      refine pv_callv (M := mX7_readFactor) (as := []) (st := []) (kc2 := 0) (ks2 := 0) dX7_readFactor_55 wd527 YX7_peek ⟨wd529, wd2⟩ (mk_get (tl86 hT)) rfl rfl (s_X7_peek g hT I R) rfl rfl (Nat.le_of_ble_eq_true rfl) (by decide) rfl rfl 58 rfl (fun rv h1 q7 => ?_)
      obtain ⟨v8, rfl, rfl, pv8, qv8, rv8⟩ := q7
      replace rv8 : v8.toInt = -1 ∨ (m 86 3).toInt < (m 86 2).toInt := rv8
      show PV _ _ _ _ _ _ _ 58 [.ref 86, .int 3, pv_U] [.int v8] _
      refine pv_iconst (M := mX7_readFactor) (v := (-1)) dX7_readFactor_58 59 rfl (by decide) ?_
      refine pv_icmp_ne (M := mX7_readFactor) (tgt := 66) dX7_readFactor_59 62 rfl (by decide) (fun c9 => ?_) (fun c9 => ?_)
      · have c9 := iv_ne (X := v8.toInt) (Y := (-1)) c9 rfl (by decide)
        refine pv_ldcS (M := mX7_readFactor) dX7_readFactor_66 rfl 68 rfl ?_
        refine pv_aload_n (M := mX7_readFactor) 0 dX7_readFactor_68 69 rfl rfl rfl ?_
        refine pv_callv (M := mX7_readFactor) (as := []) (st := [.retAddr (g.2.2.1 6 + 1)]) (kc2 := 0) (ks2 := 0) dX7_readFactor_69 wd527 YX7_peek ⟨wd529, wd2⟩ (mk_get (tl86 hT)) rfl rfl (s_X7_peek g hT I R) rfl rfl (Nat.le_of_ble_eq_true rfl) (by decide) rfl rfl 72 rfl (fun rv h1 q10 => ?_)
        obtain ⟨v11, rfl, rfl, pv11, qv11, rv11⟩ := q10
        replace rv11 : v11.toInt = -1 ∨ (m 86 3).toInt < (m 86 2).toInt := rv11
        show PV _ _ _ _ _ _ _ 72 [.ref 86, .int 3, pv_U] [.int v11, .retAddr (g.2.2.1 6 + 1)] _
        refine iv_i2cU (M := mX7_readFactor) dX7_readFactor_72 73 rfl (fun v12 ev12 => ?_)
        refine pv_callvS (M := mX7_readFactor) (as := [.int v12]) (st := []) (kc2 := 0) (ks2 := 0) dX7_readFactor_73 wd572 YJ0_indexOf_0f7a4 ⟨wd573, wd574⟩ rfl (s_J0_indexOf_0f7a4 g hT I v12) rfl rfl (Nat.le_of_ble_eq_true rfl) (by decide) rfl rfl 76 rfl (fun rv h1 q13 => ?_)
        obtain ⟨v14, rfl, rfl, pv14, qv14, rv14⟩ := q13
        show PV _ _ _ _ _ _ _ 76 [.ref 86, .int 3, pv_U] [.int v14] _
        refine pv_istore_n (M := mX7_readFactor) 2 (lo2 := [.ref 86, .int 3, .int v14]) dX7_readFactor_76 77 rfl rfl (by decide) rfl rfl ?_
        refine pv_iload_n (M := mX7_readFactor) 2 dX7_readFactor_77 78 rfl rfl rfl ?_
        refine pv_if_ge (M := mX7_readFactor) (tgt := 87) dX7_readFactor_78 81 rfl (by decide) (fun c15 => ?_) (fun c15 => ?_)
        · have c15 := iv_le (X := 0) (Y := v14.toInt) c15 (by decide) rfl
          refine pv_aload_n (M := mX7_readFactor) 0 dX7_readFactor_87 88 rfl rfl rfl ?_
          refine mv_get (M := mX7_readFactor) (v := .ref lb) dX7_readFactor_88 FX7 1 wd281 (by decide) (tl86 hT) rfl R.2.2.2.1 91 rfl ?_
          refine pv_bipush (M := mX7_readFactor) (v := 36) dX7_readFactor_91 93 rfl (by decide) ?_
          refine pv_iload_n (M := mX7_readFactor) 2 dX7_readFactor_93 94 rfl rfl rfl ?_
          refine pv_callv (M := mX7_readFactor) (as := [.int 36, .int v14]) (st := []) (kc2 := 0) (ks2 := 0) dX7_readFactor_94 wd567 YX6_emit ⟨wd568, wd569⟩ (mk_get R.2.2.2.2.2.2.1) rfl rfl (s_X6_emit g hT I lb R.2.2.2.2.2 36 v14 (by omega) (by omega)) rfl rfl (Nat.le_of_ble_eq_true rfl) (by decide) rfl rfl 97 rfl (fun rv h1 q16 => ?_)
          obtain ⟨m17, n18, rfl, rfl, I19, K20, rm17⟩ := q16
          have K20c := K20
          have w21 : (m17 86 3).toInt = (m 86 3).toInt := congrArg Int32.toInt (K20 86 3 (wr_out (by omega)))
          have w22 : (m17 86 2).toInt = (m 86 2).toInt := congrArg Int32.toInt (K20 86 2 (wr_out (by omega)))
          have K20 := Kp.trans (K20.sub (wr_wr (by omega) (by omega)))
          show PV _ _ _ _ _ _ _ 97 [.ref 86, .int 3, .int v14] [] _
          refine pv_aload_n (M := mX7_readFactor) 0 dX7_readFactor_97 98 rfl rfl rfl ?_
          refine pv_dup (M := mX7_readFactor) dX7_readFactor_98 99 rfl rfl ?_
          refine iv_get (M := mX7_readFactor) (l1 := 0) (l2 := 160) dX7_readFactor_99 FX7 3 wd283 (by decide) (tl86 hT) rfl I19 rfl 102 rfl (fun v23 ev23 pv23 qv23 => ?_)
          have wv23 : v23.toInt = (m17 86 3).toInt := congrArg Int32.toInt ev23
          refine pv_iconst (M := mX7_readFactor) (v := 1) dX7_readFactor_102 103 rfl (by decide) ?_
          refine iv_iadd (M := mX7_readFactor) (X := v23.toInt) (Y := 1) dX7_readFactor_103 104 rfl rfl (by decide) (by omega) (by omega) (fun v24 ev24 => ?_)
          refine iv_put (M := mX7_readFactor) (l1 := 0) (l2 := 160) dX7_readFactor_104 FX7 3 wd283 (by decide) rfl (tl86 hT) rfl rfl rfl I19 rfl (by omega) (by omega) 107 rfl (fun m25 e28 I26 => ?_)
          have K27 := K20.set e28 (wl_r (by omega) (by omega))
          have w29 : (m25 86 3).toInt = v24.toInt := by rw [e28, up2_eq]
          have w30 : (m25 86 2).toInt = (m17 86 2).toInt := by rw [e28, up2_ne (by omega)]
          refine pv_iconst (M := mX7_readFactor) (v := 1) dX7_readFactor_107 108 rfl (by decide) ?_
          have z31 : (1 : Int32).toInt = 1 := by decide
          exact pv_iret (M := mX7_readFactor) dX7_readFactor_108 rfl rfl ⟨_, _, _, rfl, rfl, I26, K27, by decide, by decide, (by refine ⟨?_, ?_, ?_⟩ <;> omega)⟩
        · have c15 := iv_nle (X := 0) (Y := v14.toInt) c15 (by decide) rfl
          refine pv_aload_n (M := mX7_readFactor) 0 dX7_readFactor_81 82 rfl rfl rfl ?_
          refine pv_iconst (M := mX7_readFactor) (v := 1) dX7_readFactor_82 83 rfl (by decide) ?_
          have z32 : (1 : Int32).toInt = 1 := by decide
          refine pv_callv (M := mX7_readFactor) (as := [.int 1]) (st := []) (kc2 := 0) (ks2 := 0) dX7_readFactor_83 wd531 YX7_fail ⟨wd533, wd3⟩ (mk_get (tl86 hT)) rfl rfl (s_X7_fail g hT I R 1 (by first | omega | assumption | exact (iv_rng _).2 | exact (iv_rng _).1 | decide)) rfl rfl (Nat.le_of_ble_eq_true rfl) (by decide) rfl rfl 86 rfl (fun rv h1 q33 => ?_)
          obtain ⟨m34, n35, v38, rfl, rfl, I36, K37, pv38, qv38, rv38⟩ := q33
          replace rv38 : v38.toInt = 0 ∧ (m 86 3).toInt ≤ (m34 86 3).toInt ∧ (m34 86 3).toInt ≤ (m34 86 2).toInt ∧ (m34 86 2).toInt = (m 86 2).toInt := rv38
          have K37c := K37
          have K37 := Kp.trans (K37.sub (fun _ _ q => q))
          show PV _ _ _ _ _ _ _ 86 [.ref 86, .int 3, .int v14] [.int v38] _
          exact pv_iret (M := mX7_readFactor) dX7_readFactor_86 rfl (iv_nz (by omega) (by omega)) ⟨_, _, _, rfl, rfl, I36, K37, by omega, by omega, (by refine ⟨?_, ?_, ?_⟩ <;> omega)⟩
      · have c9 := iv_eq (X := v8.toInt) (Y := (-1)) c9 rfl (by decide)
        refine pv_iconst (M := mX7_readFactor) (v := (-1)) dX7_readFactor_62 63 rfl (by decide) ?_
        refine pv_goto (M := mX7_readFactor) (tgt := 76) dX7_readFactor_63 (by decide) ?_
        refine pv_istore_n (M := mX7_readFactor) 2 (lo2 := [.ref 86, .int 3, .int (-1)]) dX7_readFactor_76 77 rfl rfl (by decide) rfl rfl ?_
        refine pv_iload_n (M := mX7_readFactor) 2 dX7_readFactor_77 78 rfl rfl rfl ?_
        refine pv_if_ge (M := mX7_readFactor) (tgt := 87) dX7_readFactor_78 81 rfl (by decide) (fun q => absurd q (by decide)) (fun _ => ?_)
        refine pv_aload_n (M := mX7_readFactor) 0 dX7_readFactor_81 82 rfl rfl rfl ?_
        refine pv_iconst (M := mX7_readFactor) (v := 1) dX7_readFactor_82 83 rfl (by decide) ?_
        have z40 : (1 : Int32).toInt = 1 := by decide
        refine pv_callv (M := mX7_readFactor) (as := [.int 1]) (st := []) (kc2 := 0) (ks2 := 0) dX7_readFactor_83 wd531 YX7_fail ⟨wd533, wd3⟩ (mk_get (tl86 hT)) rfl rfl (s_X7_fail g hT I R 1 (by first | omega | assumption | exact (iv_rng _).2 | exact (iv_rng _).1 | decide)) rfl rfl (Nat.le_of_ble_eq_true rfl) (by decide) rfl rfl 86 rfl (fun rv h1 q41 => ?_)
        obtain ⟨m42, n43, v46, rfl, rfl, I44, K45, pv46, qv46, rv46⟩ := q41
        replace rv46 : v46.toInt = 0 ∧ (m 86 3).toInt ≤ (m42 86 3).toInt ∧ (m42 86 3).toInt ≤ (m42 86 2).toInt ∧ (m42 86 2).toInt = (m 86 2).toInt := rv46
        have K45c := K45
        have K45 := Kp.trans (K45.sub (fun _ _ q => q))
        show PV _ _ _ _ _ _ _ 86 [.ref 86, .int 3, .int (-1)] [.int v46] _
        exact pv_iret (M := mX7_readFactor) dX7_readFactor_86 rfl (iv_nz (by omega) (by omega)) ⟨_, _, _, rfl, rfl, I44, K45, by omega, by omega, (by refine ⟨?_, ?_, ?_⟩ <;> omega)⟩
    · have pc6 := rv5.resolve_left c6
      have c6 := iv_ne (X := v5.toInt) (Y := 0) c6 rfl (by decide)
      refine pv_aload_n (M := mX7_readFactor) 0 dX7_readFactor_49 50 rfl rfl rfl ?_
      refine pv_callv (M := mX7_readFactor) (as := []) (st := []) (kc2 := 0) (ks2 := 0) dX7_readFactor_50 wd563 YX7_readNumber ⟨wd565, wd10⟩ (mk_get (tl86 hT)) rfl rfl (s_X7_readNumber g hT I R (by first | omega | assumption | exact (iv_rng _).2 | exact (iv_rng _).1 | decide)) rfl rfl (Nat.le_of_ble_eq_true rfl) (by decide) rfl rfl 53 rfl (fun rv h1 q47 => ?_)
      obtain ⟨m48, n49, v52, rfl, rfl, I50, K51, pv52, qv52, rv52⟩ := q47
      replace rv52 : (m 86 3).toInt ≤ (m48 86 3).toInt ∧ (m48 86 3).toInt ≤ (m48 86 2).toInt ∧ (m48 86 2).toInt = (m 86 2).toInt := rv52
      have K51c := K51
      have K51 := Kp.trans (K51.sub (fun _ _ q => q))
      show PV _ _ _ _ _ _ _ 53 [.ref 86, .int 3, pv_U] [.int v52] _
      exact pv_iret (M := mX7_readFactor) dX7_readFactor_53 rfl (iv_nz (by omega) (by omega)) ⟨_, _, _, rfl, rfl, I50, K51, by omega, by omega, (by refine ⟨?_, ?_, ?_⟩ <;> omega)⟩
  · have c3 := iv_eq (X := v2.toInt) (Y := 91) c3 rfl (by decide)
    refine pv_aload_n (M := mX7_readFactor) 0 dX7_readFactor_9 10 rfl rfl rfl ?_
    refine pv_iload_n (M := mX7_readFactor) 1 dX7_readFactor_10 11 rfl rfl rfl ?_
    have z53 : (3 : Int32).toInt = 3 := by decide
    refine pv_callv (M := mX7_readFactor) (as := [.int 3]) (st := []) (kc2 := 0) (ks2 := 0) dX7_readFactor_11 wd551 YX7_open ⟨wd553, wd7⟩ (mk_get (tl86 hT)) rfl rfl (s_X7_open g hT I R 3 (by first | omega | assumption | exact (iv_rng _).2 | exact (iv_rng _).1 | decide)) rfl rfl (Nat.le_of_ble_eq_true rfl) (by decide) rfl rfl 14 rfl (fun rv h1 q54 => ?_)
    obtain ⟨m55, n56, v59, rfl, rfl, I57, K58, pv59, qv59, rv59⟩ := q54
    replace rv59 : (v59 = 0 ∨ (3 : Int) ≤ 5) ∧ (m 86 3).toInt ≤ (m55 86 3).toInt ∧ (m55 86 3).toInt ≤ (m55 86 2).toInt ∧ (m55 86 2).toInt = (m 86 2).toInt := by have q_ := rv59; (try rw [z53] at q_); exact q_
    have K58c := K58
    have K58 := Kp.trans (K58.sub (fun _ _ q => q))
    show PV _ _ _ _ _ _ _ 14 [.ref 86, .int 3, pv_U] [.int v59] _
    refine pv_if_eq (M := mX7_readFactor) (tgt := 40) dX7_readFactor_14 17 rfl (by decide) (fun c60 => ?_) (fun c60 => ?_)
    · have c60 := iv_eq (X := v59.toInt) (Y := 0) c60 rfl (by decide)
      refine pv_iconst (M := mX7_readFactor) (v := 0) dX7_readFactor_40 41 rfl (by decide) ?_
      have z61 : (0 : Int32).toInt = 0 := by decide
      exact pv_iret (M := mX7_readFactor) dX7_readFactor_41 rfl rfl ⟨_, _, _, rfl, rfl, I57, K58, by decide, by decide, (by refine ⟨?_, ?_, ?_⟩ <;> omega)⟩
    · have pc60 := rv59.1.resolve_left c60
      have c60 := iv_ne (X := v59.toInt) (Y := 0) c60 rfl (by decide)
      refine pv_aload_n (M := mX7_readFactor) 0 dX7_readFactor_17 18 rfl rfl rfl ?_
      refine pv_iload_n (M := mX7_readFactor) 1 dX7_readFactor_18 19 rfl rfl rfl ?_
      refine pv_iconst (M := mX7_readFactor) (v := 1) dX7_readFactor_19 20 rfl (by decide) ?_
      refine pv_iadd (M := mX7_readFactor) (v := 4) dX7_readFactor_20 21 rfl (by decide) ?_
      have z63 : (4 : Int32).toInt = 4 := by decide
      refine pv_callv (M := mX7_readFactor) (as := [.int 4]) (st := []) (kc2 := 0) (ks2 := 0) dX7_readFactor_21 wd539 YX7_readSum ⟨wd541, wd4⟩ (mk_get (tl86 hT)) rfl rfl (s_X7_readSum_v4 g hT I57 R (by first | omega | assumption | exact (iv_rng _).2 | exact (iv_rng _).1 | decide)) rfl rfl (Nat.le_of_ble_eq_true rfl) (by decide) rfl rfl 24 rfl (fun rv h1 q64 => ?_)
      obtain ⟨m65, n66, v69, rfl, rfl, I67, K68, pv69, qv69, rv69⟩ := q64
      replace rv69 : (m55 86 3).toInt ≤ (m65 86 3).toInt ∧ (m65 86 3).toInt ≤ (m65 86 2).toInt ∧ (m65 86 2).toInt = (m55 86 2).toInt := rv69
      have K68c := K68
      have K68 := K58.trans (K68.sub (fun _ _ q => q))
      show PV _ _ _ _ _ _ _ 24 [.ref 86, .int 3, pv_U] [.int v69] _
      refine pv_if_eq (M := mX7_readFactor) (tgt := 40) dX7_readFactor_24 27 rfl (by decide) (fun c70 => ?_) (fun c70 => ?_)
      · have c70 := iv_eq (X := v69.toInt) (Y := 0) c70 rfl (by decide)
        refine pv_iconst (M := mX7_readFactor) (v := 0) dX7_readFactor_40 41 rfl (by decide) ?_
        have z71 : (0 : Int32).toInt = 0 := by decide
        exact pv_iret (M := mX7_readFactor) dX7_readFactor_41 rfl rfl ⟨_, _, _, rfl, rfl, I67, K68, by decide, by decide, (by refine ⟨?_, ?_, ?_⟩ <;> omega)⟩
      · have c70 := iv_ne (X := v69.toInt) (Y := 0) c70 rfl (by decide)
        refine pv_aload_n (M := mX7_readFactor) 0 dX7_readFactor_27 28 rfl rfl rfl ?_
        refine pv_bipush (M := mX7_readFactor) (v := 93) dX7_readFactor_28 30 rfl (by decide) ?_
        have z72 : (93 : Int32).toInt = 93 := by decide
        refine pv_callv (M := mX7_readFactor) (as := [.int 93]) (st := []) (kc2 := 0) (ks2 := 0) dX7_readFactor_30 wd555 YX7_pass ⟨wd557, wd8⟩ (mk_get (tl86 hT)) rfl rfl (s_X7_pass g hT I67 R 93 (by decide) (by decide) (by first | omega | assumption | exact (iv_rng _).2 | exact (iv_rng _).1 | decide)) rfl rfl (Nat.le_of_ble_eq_true rfl) (by decide) rfl rfl 33 rfl (fun rv h1 q73 => ?_)
        obtain ⟨m74, n75, v78, rfl, rfl, I76, K77, pv78, qv78, rv78⟩ := q73
        replace rv78 : (m65 86 3).toInt ≤ (m74 86 3).toInt ∧ (m74 86 3).toInt ≤ (m74 86 2).toInt ∧ (m74 86 2).toInt = (m65 86 2).toInt := rv78
        have K77c := K77
        have K77 := K68.trans (K77.sub (fun _ _ q => q))
        show PV _ _ _ _ _ _ _ 33 [.ref 86, .int 3, pv_U] [.int v78] _
        refine pv_if_eq (M := mX7_readFactor) (tgt := 40) dX7_readFactor_33 36 rfl (by decide) (fun c79 => ?_) (fun c79 => ?_)
        · have c79 := iv_eq (X := v78.toInt) (Y := 0) c79 rfl (by decide)
          refine pv_iconst (M := mX7_readFactor) (v := 0) dX7_readFactor_40 41 rfl (by decide) ?_
          have z80 : (0 : Int32).toInt = 0 := by decide
          exact pv_iret (M := mX7_readFactor) dX7_readFactor_41 rfl rfl ⟨_, _, _, rfl, rfl, I76, K77, by decide, by decide, (by refine ⟨?_, ?_, ?_⟩ <;> omega)⟩
        · have c79 := iv_ne (X := v78.toInt) (Y := 0) c79 rfl (by decide)
          refine pv_iconst (M := mX7_readFactor) (v := 1) dX7_readFactor_36 37 rfl (by decide) ?_
          refine pv_goto (M := mX7_readFactor) (tgt := 41) dX7_readFactor_37 (by decide) ?_
          have z81 : (1 : Int32).toInt = 1 := by decide
          exact pv_iret (M := mX7_readFactor) dX7_readFactor_41 rfl rfl ⟨_, _, _, rfl, rfl, I76, K77, by decide, by decide, (by refine ⟨?_, ?_, ?_⟩ <;> omega)⟩

set_option maxHeartbeats 2000000 in
set_option maxRecDepth 20000 in
theorem s_X7_readTerm_v3 (g : pv_G) {T : List mv_T} {m : Nat → Nat → Int32} {n : Nat → Nat → Int64} {r : Nat → Value} {la lb : Nat} (hT : TX T) (I : IV BB m) (R : RX T r la lb) (hp0 : (m 86 3).toInt ≤ (m 86 2).toInt) : PM g mX7_readTerm yX7_readTerm (sqI T BB (wl [(77, 96, none)]) r m 0 1 (fun m' v => (m 86 3).toInt ≤ (m' 86 3).toInt ∧ (m' 86 3).toInt ≤ (m' 86 2).toInt ∧ (m' 86 2).toInt = (m 86 2).toInt)) 15 0 0 [.ref 86, .int 3] (mk T m n r) := by
  have Kp : fr (wl [(77, 96, none)]) m m := fr.rf
  have R0 := R
  have zR := R.2.2.2.2.1.1
  have zR2 := R.2.2.2.2.2.1
  have z60 : 0 ≤ (m 86 3).toInt ∧ (m 86 3).toInt ≤ 160 := I 86 3
  have z61 : 0 ≤ (m 86 2).toInt ∧ (m 86 2).toInt ≤ 160 := I 86 2
  refine PM.of 2 (lo := [.ref 86, .int 3, pv_U, pv_U]) rfl (by decide) rfl rfl (Nat.le_of_ble_eq_true rfl) ?_
  refine pv_aload_n (M := mX7_readTerm) 0 dX7_readTerm_0 1 rfl rfl rfl ?_
  refine pv_iload_n (M := mX7_readTerm) 1 dX7_readTerm_1 2 rfl rfl rfl ?_
  have z1 : (3 : Int32).toInt = 3 := by decide
  refine pv_callv (M := mX7_readTerm) (as := [.int 3]) (st := []) (kc2 := 0) (ks2 := 0) dX7_readTerm_2 wd547 YX7_readFactor ⟨wd549, wd6⟩ (mk_get (tl86 hT)) rfl rfl (s_X7_readFactor_v3 g hT I R (by first | omega | assumption | exact (iv_rng _).2 | exact (iv_rng _).1 | decide)) rfl rfl (Nat.le_of_ble_eq_true rfl) (by decide) rfl rfl 5 rfl (fun rv h1 q2 => ?_)
  obtain ⟨m3, n4, v7, rfl, rfl, I5, K6, pv7, qv7, rv7⟩ := q2
  replace rv7 : (m 86 3).toInt ≤ (m3 86 3).toInt ∧ (m3 86 3).toInt ≤ (m3 86 2).toInt ∧ (m3 86 2).toInt = (m 86 2).toInt := rv7
  have K6c := K6
  have K6 := Kp.trans (K6.sub (fun _ _ q => q))
  show PV _ _ _ _ _ _ _ 5 [.ref 86, .int 3, pv_U, pv_U] [.int v7] _
  refine pv_if_ne (M := mX7_readTerm) (tgt := 10) dX7_readTerm_5 8 rfl (by decide) (fun c8 => ?_) (fun c8 => ?_)
  · have c8 := iv_ne (X := v7.toInt) (Y := 0) c8 rfl (by decide)
    refine pv_iconst (M := mX7_readTerm) (v := 0) dX7_readTerm_10 11 rfl (by decide) ?_
    refine pv_istore_n (M := mX7_readTerm) 2 (lo2 := [.ref 86, .int 3, .int 0, pv_U]) dX7_readTerm_11 12 rfl rfl (by decide) rfl rfl ?_
    have lp15 : ∀ (fuel14 : Nat) (y9 : Int32) (m10 : Nat → Nat → Int32) (n11 : Nat → Nat → Int64), (0 ≤ y9.toInt) → (y9.toInt ≤ 160) → ((m 86 3).toInt ≤ (m10 86 3).toInt) → ((m10 86 3).toInt ≤ (m10 86 2).toInt) → ((m10 86 2).toInt = (m 86 2).toInt) → IV BB m10 → fr (wl [(77, 96, none)]) m m10 → ((160 - y9.toInt) : Int).toNat < fuel14 → PV none g mX7_readTerm (sqI T BB (wl [(77, 96, none)]) r m 0 1 (fun m' v => (m 86 3).toInt ≤ (m' 86 3).toInt ∧ (m' 86 3).toInt ≤ (m' 86 2).toInt ∧ (m' 86 2).toInt = (m 86 2).toInt)) 15 0 0 12 [.ref 86, .int 3, .int y9, pv_U] [] (mk T m10 n11 r) := by
      intro fuel14
      induction fuel14 with
      | zero => intro y9 m10 n11 b17 b18 b19 b20 b21 I12 K13 z22; omega
      | succ fuel14 ih16 =>
        intro y9 m10 n11 b17 b18 b19 b20 b21 I12 K13 z22
        have z23 : 0 ≤ (m10 86 3).toInt ∧ (m10 86 3).toInt ≤ 160 := I12 86 3
        have z24 : 0 ≤ (m10 86 2).toInt ∧ (m10 86 2).toInt ≤ 160 := I12 86 2
        refine pv_iload_n (M := mX7_readTerm) 2 dX7_readTerm_12 13 rfl rfl rfl ?_
        refine pv_sipush (M := mX7_readTerm) (v := 160) dX7_readTerm_13 16 rfl (by decide) ?_
        refine pv_icmp_ge (M := mX7_readTerm) (tgt := 66) dX7_readTerm_16 19 rfl (by decide) (fun c25 => ?_) (fun c25 => ?_)
        · have c25 := iv_le (X := 160) (Y := y9.toInt) c25 (by decide) rfl
          refine pv_iconst (M := mX7_readTerm) (v := 1) dX7_readTerm_66 67 rfl (by decide) ?_
          have z26 : (1 : Int32).toInt = 1 := by decide
          exact pv_iret (M := mX7_readTerm) dX7_readTerm_67 rfl rfl ⟨_, _, _, rfl, rfl, I12, K13, by decide, by decide, (by refine ⟨?_, ?_, ?_⟩ <;> omega)⟩
        · have c25 := iv_nle (X := 160) (Y := y9.toInt) c25 (by decide) rfl
          refine pv_aload_n (M := mX7_readTerm) 0 dX7_readTerm_19 20 rfl rfl rfl ?_
          refine pv_callv (M := mX7_readTerm) (as := []) (st := []) (kc2 := 0) (ks2 := 0) dX7_readTerm_20 wd654 YX7_timesAhead ⟨wd656, wd11⟩ (mk_get (tl86 hT)) rfl rfl (s_X7_timesAhead g hT I12 R) rfl rfl (Nat.le_of_ble_eq_true rfl) (by decide) rfl rfl 23 rfl (fun rv h1 q27 => ?_)
          obtain ⟨v28, rfl, rfl, pv28, qv28, rv28⟩ := q27
          replace rv28 : v28 = 0 ∨ (m10 86 3).toInt < (m10 86 2).toInt := rv28
          show PV _ _ _ _ _ _ _ 23 [.ref 86, .int 3, .int y9, pv_U] [.int v28] _
          refine pv_if_eq (M := mX7_readTerm) (tgt := 66) dX7_readTerm_23 26 rfl (by decide) (fun c29 => ?_) (fun c29 => ?_)
          · have c29 := iv_eq (X := v28.toInt) (Y := 0) c29 rfl (by decide)
            refine pv_iconst (M := mX7_readTerm) (v := 1) dX7_readTerm_66 67 rfl (by decide) ?_
            have z30 : (1 : Int32).toInt = 1 := by decide
            exact pv_iret (M := mX7_readTerm) dX7_readTerm_67 rfl rfl ⟨_, _, _, rfl, rfl, I12, K13, by decide, by decide, (by refine ⟨?_, ?_, ?_⟩ <;> omega)⟩
          · have pc29 := rv28.resolve_left c29
            have c29 := iv_ne (X := v28.toInt) (Y := 0) c29 rfl (by decide)
            refine pv_aload_n (M := mX7_readTerm) 0 dX7_readTerm_26 27 rfl rfl rfl ?_
            refine pv_callv (M := mX7_readTerm) (as := []) (st := []) (kc2 := 0) (ks2 := 0) dX7_readTerm_27 wd527 YX7_peek ⟨wd529, wd2⟩ (mk_get (tl86 hT)) rfl rfl (s_X7_peek g hT I12 R) rfl rfl (Nat.le_of_ble_eq_true rfl) (by decide) rfl rfl 30 rfl (fun rv h1 q31 => ?_)
            obtain ⟨v32, rfl, rfl, pv32, qv32, rv32⟩ := q31
            replace rv32 : v32.toInt = -1 ∨ (m10 86 3).toInt < (m10 86 2).toInt := rv32
            show PV _ _ _ _ _ _ _ 30 [.ref 86, .int 3, .int y9, pv_U] [.int v32] _
            refine pv_istore_n (M := mX7_readTerm) 3 (lo2 := [.ref 86, .int 3, .int y9, .int v32]) dX7_readTerm_30 31 rfl rfl (by decide) rfl rfl ?_
            refine pv_aload_n (M := mX7_readTerm) 0 dX7_readTerm_31 32 rfl rfl rfl ?_
            refine pv_dup (M := mX7_readTerm) dX7_readTerm_32 33 rfl rfl ?_
            refine iv_get (M := mX7_readTerm) (l1 := 0) (l2 := 160) dX7_readTerm_33 FX7 3 wd283 (by decide) (tl86 hT) rfl I12 rfl 36 rfl (fun v33 ev33 pv33 qv33 => ?_)
            have wv33 : v33.toInt = (m10 86 3).toInt := congrArg Int32.toInt ev33
            refine pv_iconst (M := mX7_readTerm) (v := 1) dX7_readTerm_36 37 rfl (by decide) ?_
            refine iv_iadd (M := mX7_readTerm) (X := v33.toInt) (Y := 1) dX7_readTerm_37 38 rfl rfl (by decide) (by omega) (by omega) (fun v34 ev34 => ?_)
            refine iv_put (M := mX7_readTerm) (l1 := 0) (l2 := 160) dX7_readTerm_38 FX7 3 wd283 (by decide) rfl (tl86 hT) rfl rfl rfl I12 rfl (by omega) (by omega) 41 rfl (fun m35 e38 I36 => ?_)
            have K37 := K13.set e38 (wl_r (by omega) (by omega))
            have w39 : (m35 86 3).toInt = v34.toInt := by rw [e38, up2_eq]
            have w40 : (m35 86 2).toInt = (m10 86 2).toInt := by rw [e38, up2_ne (by omega)]
            refine pv_aload_n (M := mX7_readTerm) 0 dX7_readTerm_41 42 rfl rfl rfl ?_
            refine pv_iload_n (M := mX7_readTerm) 1 dX7_readTerm_42 43 rfl rfl rfl ?_
            have z41 : (3 : Int32).toInt = 3 := by decide
            refine pv_callv (M := mX7_readTerm) (as := [.int 3]) (st := []) (kc2 := 0) (ks2 := 0) dX7_readTerm_43 wd547 YX7_readFactor ⟨wd549, wd6⟩ (mk_get (tl86 hT)) rfl rfl (s_X7_readFactor_v3 g hT I36 R (by first | omega | assumption | exact (iv_rng _).2 | exact (iv_rng _).1 | decide)) rfl rfl (Nat.le_of_ble_eq_true rfl) (by decide) rfl rfl 46 rfl (fun rv h1 q42 => ?_)
            obtain ⟨m43, n44, v47, rfl, rfl, I45, K46, pv47, qv47, rv47⟩ := q42
            replace rv47 : (m35 86 3).toInt ≤ (m43 86 3).toInt ∧ (m43 86 3).toInt ≤ (m43 86 2).toInt ∧ (m43 86 2).toInt = (m35 86 2).toInt := rv47
            have K46c := K46
            have K46 := K37.trans (K46.sub (fun _ _ q => q))
            show PV _ _ _ _ _ _ _ 46 [.ref 86, .int 3, .int y9, .int v32] [.int v47] _
            refine pv_if_ne (M := mX7_readTerm) (tgt := 51) dX7_readTerm_46 49 rfl (by decide) (fun c48 => ?_) (fun c48 => ?_)
            · have c48 := iv_ne (X := v47.toInt) (Y := 0) c48 rfl (by decide)
              refine pv_aload_n (M := mX7_readTerm) 0 dX7_readTerm_51 52 rfl rfl rfl ?_
              refine mv_get (M := mX7_readTerm) (v := .ref lb) dX7_readTerm_52 FX7 1 wd281 (by decide) (tl86 hT) rfl R.2.2.2.1 55 rfl ?_
              refine pv_iload_n (M := mX7_readTerm) 3 dX7_readTerm_55 56 rfl rfl rfl ?_
              refine pv_iconst (M := mX7_readTerm) (v := 0) dX7_readTerm_56 57 rfl (by decide) ?_
              refine pv_callv (M := mX7_readTerm) (as := [.int v32, .int 0]) (st := []) (kc2 := 0) (ks2 := 0) dX7_readTerm_57 wd567 YX6_emit ⟨wd568, wd569⟩ (mk_get R.2.2.2.2.2.2.1) rfl rfl (s_X6_emit g hT I45 lb R.2.2.2.2.2 v32 0 (by decide) (by decide)) rfl rfl (Nat.le_of_ble_eq_true rfl) (by decide) rfl rfl 60 rfl (fun rv h1 q49 => ?_)
              obtain ⟨m50, n51, rfl, rfl, I52, K53, rm50⟩ := q49
              have K53c := K53
              have w54 : (m50 86 3).toInt = (m43 86 3).toInt := congrArg Int32.toInt (K53 86 3 (wr_out (by omega)))
              have w55 : (m50 86 2).toInt = (m43 86 2).toInt := congrArg Int32.toInt (K53 86 2 (wr_out (by omega)))
              have K53 := K46.trans (K53.sub (wr_wr (by omega) (by omega)))
              show PV _ _ _ _ _ _ _ 60 [.ref 86, .int 3, .int y9, .int v32] [] _
              refine iv_inc (M := mX7_readTerm) (C := 1) dX7_readTerm_60 63 rfl rfl (by decide) rfl rfl (by decide) (by omega) (by omega) (fun v56 ev56 => ?_)
              show PV _ _ _ _ _ _ _ 63 [.ref 86, .int 3, .int v56, .int v32] [] _
              refine pv_goto (M := mX7_readTerm) (tgt := 12) dX7_readTerm_63 (by decide) ?_
              refine pv_fg (lo2 := [.ref 86, .int 3, .int v56, pv_U]) ⟨Or.inr rfl, ⟨Or.inr rfl, ⟨Or.inr rfl, ⟨Or.inl rfl, trivial⟩⟩⟩⟩ ?_
              exact ih16 v56 m50 n51 (by first | omega | assumption | exact (iv_rng _).2 | exact (iv_rng _).1 | decide) (by first | omega | assumption | exact (iv_rng _).2 | exact (iv_rng _).1 | decide) (by first | omega | assumption | (show (m 86 3).toInt ≤ (m50 86 3).toInt; omega) | decide) (by first | omega | assumption | (show (m50 86 3).toInt ≤ (m50 86 2).toInt; omega) | decide) (by first | omega | assumption | (show (m50 86 2).toInt = (m 86 2).toInt; omega) | decide) I52 K53 (by omega)
            · have c48 := iv_eq (X := v47.toInt) (Y := 0) c48 rfl (by decide)
              refine pv_iconst (M := mX7_readTerm) (v := 0) dX7_readTerm_49 50 rfl (by decide) ?_
              have z57 : (0 : Int32).toInt = 0 := by decide
              exact pv_iret (M := mX7_readTerm) dX7_readTerm_50 rfl rfl ⟨_, _, _, rfl, rfl, I45, K46, by decide, by decide, (by refine ⟨?_, ?_, ?_⟩ <;> omega)⟩
    have z58 : (0 : Int32).toInt = 0 := by decide
    exact lp15 (((160 - 0) : Int).toNat + 1) 0 m3 n4 (by first | omega | assumption | exact (iv_rng _).2 | exact (iv_rng _).1 | decide) (by first | omega | assumption | exact (iv_rng _).2 | exact (iv_rng _).1 | decide) (by first | omega | assumption | (show (m 86 3).toInt ≤ (m3 86 3).toInt; omega) | decide) (by first | omega | assumption | (show (m3 86 3).toInt ≤ (m3 86 2).toInt; omega) | decide) (by first | omega | assumption | (show (m3 86 2).toInt = (m 86 2).toInt; omega) | decide) I5 K6 (by omega)
  · have c8 := iv_eq (X := v7.toInt) (Y := 0) c8 rfl (by decide)
    refine pv_iconst (M := mX7_readTerm) (v := 0) dX7_readTerm_8 9 rfl (by decide) ?_
    have z59 : (0 : Int32).toInt = 0 := by decide
    exact pv_iret (M := mX7_readTerm) dX7_readTerm_9 rfl rfl ⟨_, _, _, rfl, rfl, I5, K6, by decide, by decide, (by refine ⟨?_, ?_, ?_⟩ <;> omega)⟩

set_option maxHeartbeats 2000000 in
set_option maxRecDepth 20000 in
theorem s_X7_readSum_v3 (g : pv_G) {T : List mv_T} {m : Nat → Nat → Int32} {n : Nat → Nat → Int64} {r : Nat → Value} {la lb : Nat} (hT : TX T) (I : IV BB m) (R : RX T r la lb) (hp0 : (m 86 3).toInt ≤ (m 86 2).toInt) : PM g mX7_readSum yX7_readSum (sqI T BB (wl [(77, 96, none)]) r m 0 1 (fun m' v => (m 86 3).toInt ≤ (m' 86 3).toInt ∧ (m' 86 3).toInt ≤ (m' 86 2).toInt ∧ (m' 86 2).toInt = (m 86 2).toInt)) 16 0 0 [.ref 86, .int 3] (mk T m n r) := by
  have Kp : fr (wl [(77, 96, none)]) m m := fr.rf
  have R0 := R
  have zR := R.2.2.2.2.1.1
  have zR2 := R.2.2.2.2.2.1
  have z90 : 0 ≤ (m 86 3).toInt ∧ (m 86 3).toInt ≤ 160 := I 86 3
  have z91 : 0 ≤ (m 86 2).toInt ∧ (m 86 2).toInt ≤ 160 := I 86 2
  refine PM.of 2 (lo := [.ref 86, .int 3, pv_U, pv_U]) rfl (by decide) rfl rfl (Nat.le_of_ble_eq_true rfl) ?_
  refine pv_aload_n (M := mX7_readSum) 0 dX7_readSum_0 1 rfl rfl rfl ?_
  refine pv_iload_n (M := mX7_readSum) 1 dX7_readSum_1 2 rfl rfl rfl ?_
  have z1 : (3 : Int32).toInt = 3 := by decide
  refine pv_callv (M := mX7_readSum) (as := [.int 3]) (st := []) (kc2 := 0) (ks2 := 0) dX7_readSum_2 wd543 YX7_readTerm ⟨wd545, wd5⟩ (mk_get (tl86 hT)) rfl rfl (s_X7_readTerm_v3 g hT I R (by first | omega | assumption | exact (iv_rng _).2 | exact (iv_rng _).1 | decide)) rfl rfl (Nat.le_of_ble_eq_true rfl) (by decide) rfl rfl 5 rfl (fun rv h1 q2 => ?_)
  obtain ⟨m3, n4, v7, rfl, rfl, I5, K6, pv7, qv7, rv7⟩ := q2
  replace rv7 : (m 86 3).toInt ≤ (m3 86 3).toInt ∧ (m3 86 3).toInt ≤ (m3 86 2).toInt ∧ (m3 86 2).toInt = (m 86 2).toInt := rv7
  have K6c := K6
  have K6 := Kp.trans (K6.sub (fun _ _ q => q))
  show PV _ _ _ _ _ _ _ 5 [.ref 86, .int 3, pv_U, pv_U] [.int v7] _
  refine pv_if_ne (M := mX7_readSum) (tgt := 10) dX7_readSum_5 8 rfl (by decide) (fun c8 => ?_) (fun c8 => ?_)
  · have c8 := iv_ne (X := v7.toInt) (Y := 0) c8 rfl (by decide)
    refine pv_iconst (M := mX7_readSum) (v := 0) dX7_readSum_10 11 rfl (by decide) ?_
    refine pv_istore_n (M := mX7_readSum) 2 (lo2 := [.ref 86, .int 3, .int 0, pv_U]) dX7_readSum_11 12 rfl rfl (by decide) rfl rfl ?_
    have lp15 : ∀ (fuel14 : Nat) (y9 : Int32) (m10 : Nat → Nat → Int32) (n11 : Nat → Nat → Int64), (0 ≤ y9.toInt) → (y9.toInt ≤ 160) → ((m 86 3).toInt ≤ (m10 86 3).toInt) → ((m10 86 3).toInt ≤ (m10 86 2).toInt) → ((m10 86 2).toInt = (m 86 2).toInt) → IV BB m10 → fr (wl [(77, 96, none)]) m m10 → ((160 - y9.toInt) : Int).toNat < fuel14 → PV none g mX7_readSum (sqI T BB (wl [(77, 96, none)]) r m 0 1 (fun m' v => (m 86 3).toInt ≤ (m' 86 3).toInt ∧ (m' 86 3).toInt ≤ (m' 86 2).toInt ∧ (m' 86 2).toInt = (m 86 2).toInt)) 16 0 0 12 [.ref 86, .int 3, .int y9, pv_U] [] (mk T m10 n11 r) := by
      intro fuel14
      induction fuel14 with
      | zero => intro y9 m10 n11 b17 b18 b19 b20 b21 I12 K13 z22; omega
      | succ fuel14 ih16 =>
        intro y9 m10 n11 b17 b18 b19 b20 b21 I12 K13 z22
        have z23 : 0 ≤ (m10 86 3).toInt ∧ (m10 86 3).toInt ≤ 160 := I12 86 3
        have z24 : 0 ≤ (m10 86 2).toInt ∧ (m10 86 2).toInt ≤ 160 := I12 86 2
        refine pv_iload_n (M := mX7_readSum) 2 dX7_readSum_12 13 rfl rfl rfl ?_
        refine pv_sipush (M := mX7_readSum) (v := 160) dX7_readSum_13 16 rfl (by decide) ?_
        refine pv_icmp_ge (M := mX7_readSum) (tgt := 77) dX7_readSum_16 19 rfl (by decide) (fun c25 => ?_) (fun c25 => ?_)
        · have c25 := iv_le (X := 160) (Y := y9.toInt) c25 (by decide) rfl
          refine pv_iconst (M := mX7_readSum) (v := 1) dX7_readSum_77 78 rfl (by decide) ?_
          have z26 : (1 : Int32).toInt = 1 := by decide
          exact pv_iret (M := mX7_readSum) dX7_readSum_78 rfl rfl ⟨_, _, _, rfl, rfl, I12, K13, by decide, by decide, (by refine ⟨?_, ?_, ?_⟩ <;> omega)⟩
        · have c25 := iv_nle (X := 160) (Y := y9.toInt) c25 (by decide) rfl
          refine pv_aload_n (M := mX7_readSum) 0 dX7_readSum_19 20 rfl rfl rfl ?_
          refine pv_callv (M := mX7_readSum) (as := []) (st := []) (kc2 := 0) (ks2 := 0) dX7_readSum_20 wd527 YX7_peek ⟨wd529, wd2⟩ (mk_get (tl86 hT)) rfl rfl (s_X7_peek g hT I12 R) rfl rfl (Nat.le_of_ble_eq_true rfl) (by decide) rfl rfl 23 rfl (fun rv h1 q27 => ?_)
          obtain ⟨v28, rfl, rfl, pv28, qv28, rv28⟩ := q27
          replace rv28 : v28.toInt = -1 ∨ (m10 86 3).toInt < (m10 86 2).toInt := rv28
          show PV _ _ _ _ _ _ _ 23 [.ref 86, .int 3, .int y9, pv_U] [.int v28] _
          refine pv_bipush (M := mX7_readSum) (v := 43) dX7_readSum_23 25 rfl (by decide) ?_
          refine pv_icmp_eq (M := mX7_readSum) (tgt := 37) dX7_readSum_25 28 rfl (by decide) (fun c29 => ?_) (fun c29 => ?_)
          · have c29 := iv_eq (X := v28.toInt) (Y := 43) c29 rfl (by decide)
            refine pv_aload_n (M := mX7_readSum) 0 dX7_readSum_37 38 rfl rfl rfl ?_
            refine pv_callv (M := mX7_readSum) (as := []) (st := []) (kc2 := 0) (ks2 := 0) dX7_readSum_38 wd527 YX7_peek ⟨wd529, wd2⟩ (mk_get (tl86 hT)) rfl rfl (s_X7_peek g hT I12 R) rfl rfl (Nat.le_of_ble_eq_true rfl) (by decide) rfl rfl 41 rfl (fun rv h1 q30 => ?_)
            obtain ⟨v31, rfl, rfl, pv31, qv31, rv31⟩ := q30
            replace rv31 : v31.toInt = -1 ∨ (m10 86 3).toInt < (m10 86 2).toInt := rv31
            show PV _ _ _ _ _ _ _ 41 [.ref 86, .int 3, .int y9, pv_U] [.int v31] _
            refine pv_istore_n (M := mX7_readSum) 3 (lo2 := [.ref 86, .int 3, .int y9, .int v31]) dX7_readSum_41 42 rfl rfl (by decide) rfl rfl ?_
            refine pv_aload_n (M := mX7_readSum) 0 dX7_readSum_42 43 rfl rfl rfl ?_
            refine pv_dup (M := mX7_readSum) dX7_readSum_43 44 rfl rfl ?_
            refine iv_get (M := mX7_readSum) (l1 := 0) (l2 := 160) dX7_readSum_44 FX7 3 wd283 (by decide) (tl86 hT) rfl I12 rfl 47 rfl (fun v32 ev32 pv32 qv32 => ?_)
            have wv32 : v32.toInt = (m10 86 3).toInt := congrArg Int32.toInt ev32
            refine pv_iconst (M := mX7_readSum) (v := 1) dX7_readSum_47 48 rfl (by decide) ?_
            refine iv_iadd (M := mX7_readSum) (X := v32.toInt) (Y := 1) dX7_readSum_48 49 rfl rfl (by decide) (by omega) (by omega) (fun v33 ev33 => ?_)
            refine iv_put (M := mX7_readSum) (l1 := 0) (l2 := 160) dX7_readSum_49 FX7 3 wd283 (by decide) rfl (tl86 hT) rfl rfl rfl I12 rfl (by omega) (by omega) 52 rfl (fun m34 e37 I35 => ?_)
            have K36 := K13.set e37 (wl_r (by omega) (by omega))
            have w38 : (m34 86 3).toInt = v33.toInt := by rw [e37, up2_eq]
            have w39 : (m34 86 2).toInt = (m10 86 2).toInt := by rw [e37, up2_ne (by omega)]
            refine pv_aload_n (M := mX7_readSum) 0 dX7_readSum_52 53 rfl rfl rfl ?_
            refine pv_iload_n (M := mX7_readSum) 1 dX7_readSum_53 54 rfl rfl rfl ?_
            have z40 : (3 : Int32).toInt = 3 := by decide
            refine pv_callv (M := mX7_readSum) (as := [.int 3]) (st := []) (kc2 := 0) (ks2 := 0) dX7_readSum_54 wd543 YX7_readTerm ⟨wd545, wd5⟩ (mk_get (tl86 hT)) rfl rfl (s_X7_readTerm_v3 g hT I35 R (by first | omega | assumption | exact (iv_rng _).2 | exact (iv_rng _).1 | decide)) rfl rfl (Nat.le_of_ble_eq_true rfl) (by decide) rfl rfl 57 rfl (fun rv h1 q41 => ?_)
            obtain ⟨m42, n43, v46, rfl, rfl, I44, K45, pv46, qv46, rv46⟩ := q41
            replace rv46 : (m34 86 3).toInt ≤ (m42 86 3).toInt ∧ (m42 86 3).toInt ≤ (m42 86 2).toInt ∧ (m42 86 2).toInt = (m34 86 2).toInt := rv46
            have K45c := K45
            have K45 := K36.trans (K45.sub (fun _ _ q => q))
            show PV _ _ _ _ _ _ _ 57 [.ref 86, .int 3, .int y9, .int v31] [.int v46] _
            refine pv_if_ne (M := mX7_readSum) (tgt := 62) dX7_readSum_57 60 rfl (by decide) (fun c47 => ?_) (fun c47 => ?_)
            · have c47 := iv_ne (X := v46.toInt) (Y := 0) c47 rfl (by decide)
              refine pv_aload_n (M := mX7_readSum) 0 dX7_readSum_62 63 rfl rfl rfl ?_
              refine mv_get (M := mX7_readSum) (v := .ref lb) dX7_readSum_63 FX7 1 wd281 (by decide) (tl86 hT) rfl R.2.2.2.1 66 rfl ?_
              refine pv_iload_n (M := mX7_readSum) 3 dX7_readSum_66 67 rfl rfl rfl ?_
              refine pv_iconst (M := mX7_readSum) (v := 0) dX7_readSum_67 68 rfl (by decide) ?_
              refine pv_callv (M := mX7_readSum) (as := [.int v31, .int 0]) (st := []) (kc2 := 0) (ks2 := 0) dX7_readSum_68 wd567 YX6_emit ⟨wd568, wd569⟩ (mk_get R.2.2.2.2.2.2.1) rfl rfl (s_X6_emit g hT I44 lb R.2.2.2.2.2 v31 0 (by decide) (by decide)) rfl rfl (Nat.le_of_ble_eq_true rfl) (by decide) rfl rfl 71 rfl (fun rv h1 q48 => ?_)
              obtain ⟨m49, n50, rfl, rfl, I51, K52, rm49⟩ := q48
              have K52c := K52
              have w53 : (m49 86 3).toInt = (m42 86 3).toInt := congrArg Int32.toInt (K52 86 3 (wr_out (by omega)))
              have w54 : (m49 86 2).toInt = (m42 86 2).toInt := congrArg Int32.toInt (K52 86 2 (wr_out (by omega)))
              have K52 := K45.trans (K52.sub (wr_wr (by omega) (by omega)))
              show PV _ _ _ _ _ _ _ 71 [.ref 86, .int 3, .int y9, .int v31] [] _
              refine iv_inc (M := mX7_readSum) (C := 1) dX7_readSum_71 74 rfl rfl (by decide) rfl rfl (by decide) (by omega) (by omega) (fun v55 ev55 => ?_)
              show PV _ _ _ _ _ _ _ 74 [.ref 86, .int 3, .int v55, .int v31] [] _
              refine pv_goto (M := mX7_readSum) (tgt := 12) dX7_readSum_74 (by decide) ?_
              refine pv_fg (lo2 := [.ref 86, .int 3, .int v55, pv_U]) ⟨Or.inr rfl, ⟨Or.inr rfl, ⟨Or.inr rfl, ⟨Or.inl rfl, trivial⟩⟩⟩⟩ ?_
              exact ih16 v55 m49 n50 (by first | omega | assumption | exact (iv_rng _).2 | exact (iv_rng _).1 | decide) (by first | omega | assumption | exact (iv_rng _).2 | exact (iv_rng _).1 | decide) (by first | omega | assumption | (show (m 86 3).toInt ≤ (m49 86 3).toInt; omega) | decide) (by first | omega | assumption | (show (m49 86 3).toInt ≤ (m49 86 2).toInt; omega) | decide) (by first | omega | assumption | (show (m49 86 2).toInt = (m 86 2).toInt; omega) | decide) I51 K52 (by omega)
            · have c47 := iv_eq (X := v46.toInt) (Y := 0) c47 rfl (by decide)
              refine pv_iconst (M := mX7_readSum) (v := 0) dX7_readSum_60 61 rfl (by decide) ?_
              have z56 : (0 : Int32).toInt = 0 := by decide
              exact pv_iret (M := mX7_readSum) dX7_readSum_61 rfl rfl ⟨_, _, _, rfl, rfl, I44, K45, by decide, by decide, (by refine ⟨?_, ?_, ?_⟩ <;> omega)⟩
          · have c29 := iv_ne (X := v28.toInt) (Y := 43) c29 rfl (by decide)
            refine pv_aload_n (M := mX7_readSum) 0 dX7_readSum_28 29 rfl rfl rfl ?_
            refine pv_callv (M := mX7_readSum) (as := []) (st := []) (kc2 := 0) (ks2 := 0) dX7_readSum_29 wd527 YX7_peek ⟨wd529, wd2⟩ (mk_get (tl86 hT)) rfl rfl (s_X7_peek g hT I12 R) rfl rfl (Nat.le_of_ble_eq_true rfl) (by decide) rfl rfl 32 rfl (fun rv h1 q57 => ?_)
            obtain ⟨v58, rfl, rfl, pv58, qv58, rv58⟩ := q57
            replace rv58 : v58.toInt = -1 ∨ (m10 86 3).toInt < (m10 86 2).toInt := rv58
            show PV _ _ _ _ _ _ _ 32 [.ref 86, .int 3, .int y9, pv_U] [.int v58] _
            refine pv_bipush (M := mX7_readSum) (v := 45) dX7_readSum_32 34 rfl (by decide) ?_
            refine pv_icmp_ne (M := mX7_readSum) (tgt := 77) dX7_readSum_34 37 rfl (by decide) (fun c59 => ?_) (fun c59 => ?_)
            · have c59 := iv_ne (X := v58.toInt) (Y := 45) c59 rfl (by decide)
              refine pv_iconst (M := mX7_readSum) (v := 1) dX7_readSum_77 78 rfl (by decide) ?_
              have z60 : (1 : Int32).toInt = 1 := by decide
              exact pv_iret (M := mX7_readSum) dX7_readSum_78 rfl rfl ⟨_, _, _, rfl, rfl, I12, K13, by decide, by decide, (by refine ⟨?_, ?_, ?_⟩ <;> omega)⟩
            · have c59 := iv_eq (X := v58.toInt) (Y := 45) c59 rfl (by decide)
              refine pv_aload_n (M := mX7_readSum) 0 dX7_readSum_37 38 rfl rfl rfl ?_
              refine pv_callv (M := mX7_readSum) (as := []) (st := []) (kc2 := 0) (ks2 := 0) dX7_readSum_38 wd527 YX7_peek ⟨wd529, wd2⟩ (mk_get (tl86 hT)) rfl rfl (s_X7_peek g hT I12 R) rfl rfl (Nat.le_of_ble_eq_true rfl) (by decide) rfl rfl 41 rfl (fun rv h1 q61 => ?_)
              obtain ⟨v62, rfl, rfl, pv62, qv62, rv62⟩ := q61
              replace rv62 : v62.toInt = -1 ∨ (m10 86 3).toInt < (m10 86 2).toInt := rv62
              show PV _ _ _ _ _ _ _ 41 [.ref 86, .int 3, .int y9, pv_U] [.int v62] _
              refine pv_istore_n (M := mX7_readSum) 3 (lo2 := [.ref 86, .int 3, .int y9, .int v62]) dX7_readSum_41 42 rfl rfl (by decide) rfl rfl ?_
              refine pv_aload_n (M := mX7_readSum) 0 dX7_readSum_42 43 rfl rfl rfl ?_
              refine pv_dup (M := mX7_readSum) dX7_readSum_43 44 rfl rfl ?_
              refine iv_get (M := mX7_readSum) (l1 := 0) (l2 := 160) dX7_readSum_44 FX7 3 wd283 (by decide) (tl86 hT) rfl I12 rfl 47 rfl (fun v63 ev63 pv63 qv63 => ?_)
              have wv63 : v63.toInt = (m10 86 3).toInt := congrArg Int32.toInt ev63
              refine pv_iconst (M := mX7_readSum) (v := 1) dX7_readSum_47 48 rfl (by decide) ?_
              refine iv_iadd (M := mX7_readSum) (X := v63.toInt) (Y := 1) dX7_readSum_48 49 rfl rfl (by decide) (by omega) (by omega) (fun v64 ev64 => ?_)
              refine iv_put (M := mX7_readSum) (l1 := 0) (l2 := 160) dX7_readSum_49 FX7 3 wd283 (by decide) rfl (tl86 hT) rfl rfl rfl I12 rfl (by omega) (by omega) 52 rfl (fun m65 e68 I66 => ?_)
              have K67 := K13.set e68 (wl_r (by omega) (by omega))
              have w69 : (m65 86 3).toInt = v64.toInt := by rw [e68, up2_eq]
              have w70 : (m65 86 2).toInt = (m10 86 2).toInt := by rw [e68, up2_ne (by omega)]
              refine pv_aload_n (M := mX7_readSum) 0 dX7_readSum_52 53 rfl rfl rfl ?_
              refine pv_iload_n (M := mX7_readSum) 1 dX7_readSum_53 54 rfl rfl rfl ?_
              have z71 : (3 : Int32).toInt = 3 := by decide
              refine pv_callv (M := mX7_readSum) (as := [.int 3]) (st := []) (kc2 := 0) (ks2 := 0) dX7_readSum_54 wd543 YX7_readTerm ⟨wd545, wd5⟩ (mk_get (tl86 hT)) rfl rfl (s_X7_readTerm_v3 g hT I66 R (by first | omega | assumption | exact (iv_rng _).2 | exact (iv_rng _).1 | decide)) rfl rfl (Nat.le_of_ble_eq_true rfl) (by decide) rfl rfl 57 rfl (fun rv h1 q72 => ?_)
              obtain ⟨m73, n74, v77, rfl, rfl, I75, K76, pv77, qv77, rv77⟩ := q72
              replace rv77 : (m65 86 3).toInt ≤ (m73 86 3).toInt ∧ (m73 86 3).toInt ≤ (m73 86 2).toInt ∧ (m73 86 2).toInt = (m65 86 2).toInt := rv77
              have K76c := K76
              have K76 := K67.trans (K76.sub (fun _ _ q => q))
              show PV _ _ _ _ _ _ _ 57 [.ref 86, .int 3, .int y9, .int v62] [.int v77] _
              refine pv_if_ne (M := mX7_readSum) (tgt := 62) dX7_readSum_57 60 rfl (by decide) (fun c78 => ?_) (fun c78 => ?_)
              · have c78 := iv_ne (X := v77.toInt) (Y := 0) c78 rfl (by decide)
                refine pv_aload_n (M := mX7_readSum) 0 dX7_readSum_62 63 rfl rfl rfl ?_
                refine mv_get (M := mX7_readSum) (v := .ref lb) dX7_readSum_63 FX7 1 wd281 (by decide) (tl86 hT) rfl R.2.2.2.1 66 rfl ?_
                refine pv_iload_n (M := mX7_readSum) 3 dX7_readSum_66 67 rfl rfl rfl ?_
                refine pv_iconst (M := mX7_readSum) (v := 0) dX7_readSum_67 68 rfl (by decide) ?_
                refine pv_callv (M := mX7_readSum) (as := [.int v62, .int 0]) (st := []) (kc2 := 0) (ks2 := 0) dX7_readSum_68 wd567 YX6_emit ⟨wd568, wd569⟩ (mk_get R.2.2.2.2.2.2.1) rfl rfl (s_X6_emit g hT I75 lb R.2.2.2.2.2 v62 0 (by decide) (by decide)) rfl rfl (Nat.le_of_ble_eq_true rfl) (by decide) rfl rfl 71 rfl (fun rv h1 q79 => ?_)
                obtain ⟨m80, n81, rfl, rfl, I82, K83, rm80⟩ := q79
                have K83c := K83
                have w84 : (m80 86 3).toInt = (m73 86 3).toInt := congrArg Int32.toInt (K83 86 3 (wr_out (by omega)))
                have w85 : (m80 86 2).toInt = (m73 86 2).toInt := congrArg Int32.toInt (K83 86 2 (wr_out (by omega)))
                have K83 := K76.trans (K83.sub (wr_wr (by omega) (by omega)))
                show PV _ _ _ _ _ _ _ 71 [.ref 86, .int 3, .int y9, .int v62] [] _
                refine iv_inc (M := mX7_readSum) (C := 1) dX7_readSum_71 74 rfl rfl (by decide) rfl rfl (by decide) (by omega) (by omega) (fun v86 ev86 => ?_)
                show PV _ _ _ _ _ _ _ 74 [.ref 86, .int 3, .int v86, .int v62] [] _
                refine pv_goto (M := mX7_readSum) (tgt := 12) dX7_readSum_74 (by decide) ?_
                refine pv_fg (lo2 := [.ref 86, .int 3, .int v86, pv_U]) ⟨Or.inr rfl, ⟨Or.inr rfl, ⟨Or.inr rfl, ⟨Or.inl rfl, trivial⟩⟩⟩⟩ ?_
                exact ih16 v86 m80 n81 (by first | omega | assumption | exact (iv_rng _).2 | exact (iv_rng _).1 | decide) (by first | omega | assumption | exact (iv_rng _).2 | exact (iv_rng _).1 | decide) (by first | omega | assumption | (show (m 86 3).toInt ≤ (m80 86 3).toInt; omega) | decide) (by first | omega | assumption | (show (m80 86 3).toInt ≤ (m80 86 2).toInt; omega) | decide) (by first | omega | assumption | (show (m80 86 2).toInt = (m 86 2).toInt; omega) | decide) I82 K83 (by omega)
              · have c78 := iv_eq (X := v77.toInt) (Y := 0) c78 rfl (by decide)
                refine pv_iconst (M := mX7_readSum) (v := 0) dX7_readSum_60 61 rfl (by decide) ?_
                have z87 : (0 : Int32).toInt = 0 := by decide
                exact pv_iret (M := mX7_readSum) dX7_readSum_61 rfl rfl ⟨_, _, _, rfl, rfl, I75, K76, by decide, by decide, (by refine ⟨?_, ?_, ?_⟩ <;> omega)⟩
    have z88 : (0 : Int32).toInt = 0 := by decide
    exact lp15 (((160 - 0) : Int).toNat + 1) 0 m3 n4 (by first | omega | assumption | exact (iv_rng _).2 | exact (iv_rng _).1 | decide) (by first | omega | assumption | exact (iv_rng _).2 | exact (iv_rng _).1 | decide) (by first | omega | assumption | (show (m 86 3).toInt ≤ (m3 86 3).toInt; omega) | decide) (by first | omega | assumption | (show (m3 86 3).toInt ≤ (m3 86 2).toInt; omega) | decide) (by first | omega | assumption | (show (m3 86 2).toInt = (m 86 2).toInt; omega) | decide) I5 K6 (by omega)
  · have c8 := iv_eq (X := v7.toInt) (Y := 0) c8 rfl (by decide)
    refine pv_iconst (M := mX7_readSum) (v := 0) dX7_readSum_8 9 rfl (by decide) ?_
    have z89 : (0 : Int32).toInt = 0 := by decide
    exact pv_iret (M := mX7_readSum) dX7_readSum_9 rfl rfl ⟨_, _, _, rfl, rfl, I5, K6, by decide, by decide, (by refine ⟨?_, ?_, ?_⟩ <;> omega)⟩

set_option maxHeartbeats 2000000 in
set_option maxRecDepth 20000 in
theorem s_X7_readPiece_v3 (g : pv_G) {T : List mv_T} {m : Nat → Nat → Int32} {n : Nat → Nat → Int64} {r : Nat → Value} {la lb : Nat} (hT : TX T) (I : IV BB m) (R : RX T r la lb) (hp0 : (m 86 3).toInt ≤ (m 86 2).toInt) : PM g mX7_readPiece yX7_readPiece (sqI T BB (wl [(77, 96, none)]) r m 0 1 (fun m' v => (m 86 3).toInt ≤ (m' 86 3).toInt ∧ (m' 86 3).toInt ≤ (m' 86 2).toInt ∧ (m' 86 2).toInt = (m 86 2).toInt)) 17 0 0 [.ref 86, .int 3] (mk T m n r) := by
  have Kp : fr (wl [(77, 96, none)]) m m := fr.rf
  have R0 := R
  have zR := R.2.2.2.2.1.1
  have zR2 := R.2.2.2.2.2.1
  have z159 : 0 ≤ (m 86 3).toInt ∧ (m 86 3).toInt ≤ 160 := I 86 3
  have z160 : 0 ≤ (m 86 2).toInt ∧ (m 86 2).toInt ≤ 160 := I 86 2
  refine PM.of 1 (lo := [.ref 86, .int 3, pv_U]) rfl (by decide) rfl rfl (Nat.le_of_ble_eq_true rfl) ?_
  refine pv_aload_n (M := mX7_readPiece) 0 dX7_readPiece_0 1 rfl rfl rfl ?_
  refine pv_callv (M := mX7_readPiece) (as := []) (st := []) (kc2 := 0) (ks2 := 0) dX7_readPiece_1 wd527 YX7_peek ⟨wd529, wd2⟩ (mk_get (tl86 hT)) rfl rfl (s_X7_peek g hT I R) rfl rfl (Nat.le_of_ble_eq_true rfl) (by decide) rfl rfl 4 rfl (fun rv h1 q1 => ?_)
  obtain ⟨v2, rfl, rfl, pv2, qv2, rv2⟩ := q1
  replace rv2 : v2.toInt = -1 ∨ (m 86 3).toInt < (m 86 2).toInt := rv2
  show PV _ _ _ _ _ _ _ 4 [.ref 86, .int 3, pv_U] [.int v2] _
  refine pv_bipush (M := mX7_readPiece) (v := 33) dX7_readPiece_4 6 rfl (by decide) ?_
  refine pv_icmp_ne (M := mX7_readPiece) (tgt := 41) dX7_readPiece_6 9 rfl (by decide) (fun c3 => ?_) (fun c3 => ?_)
  · have c3 := iv_ne (X := v2.toInt) (Y := 33) c3 rfl (by decide)
    refine pv_aload_n (M := mX7_readPiece) 0 dX7_readPiece_41 42 rfl rfl rfl ?_
    refine pv_callv (M := mX7_readPiece) (as := []) (st := []) (kc2 := 0) (ks2 := 0) dX7_readPiece_42 wd527 YX7_peek ⟨wd529, wd2⟩ (mk_get (tl86 hT)) rfl rfl (s_X7_peek g hT I R) rfl rfl (Nat.le_of_ble_eq_true rfl) (by decide) rfl rfl 45 rfl (fun rv h1 q4 => ?_)
    obtain ⟨v5, rfl, rfl, pv5, qv5, rv5⟩ := q4
    replace rv5 : v5.toInt = -1 ∨ (m 86 3).toInt < (m 86 2).toInt := rv5
    show PV _ _ _ _ _ _ _ 45 [.ref 86, .int 3, pv_U] [.int v5] _
    refine pv_bipush (M := mX7_readPiece) (v := 40) dX7_readPiece_45 47 rfl (by decide) ?_
    refine pv_icmp_ne (M := mX7_readPiece) (tgt := 83) dX7_readPiece_47 50 rfl (by decide) (fun c6 => ?_) (fun c6 => ?_)
    · have c6 := iv_ne (X := v5.toInt) (Y := 40) c6 rfl (by decide)
      refine pv_aload_n (M := mX7_readPiece) 0 dX7_readPiece_83 84 rfl rfl rfl ?_
      refine pv_iload_n (M := mX7_readPiece) 1 dX7_readPiece_84 85 rfl rfl rfl ?_
      have z7 : (3 : Int32).toInt = 3 := by decide
      refine pv_callv (M := mX7_readPiece) (as := [.int 3]) (st := []) (kc2 := 0) (ks2 := 0) dX7_readPiece_85 wd539 YX7_readSum ⟨wd541, wd4⟩ (mk_get (tl86 hT)) rfl rfl (s_X7_readSum_v3 g hT I R (by first | omega | assumption | exact (iv_rng _).2 | exact (iv_rng _).1 | decide)) rfl rfl (Nat.le_of_ble_eq_true rfl) (by decide) rfl rfl 88 rfl (fun rv h1 q8 => ?_)
      obtain ⟨m9, n10, v13, rfl, rfl, I11, K12, pv13, qv13, rv13⟩ := q8
      replace rv13 : (m 86 3).toInt ≤ (m9 86 3).toInt ∧ (m9 86 3).toInt ≤ (m9 86 2).toInt ∧ (m9 86 2).toInt = (m 86 2).toInt := rv13
      have K12c := K12
      have K12 := Kp.trans (K12.sub (fun _ _ q => q))
      show PV _ _ _ _ _ _ _ 88 [.ref 86, .int 3, pv_U] [.int v13] _
      refine pv_if_ne (M := mX7_readPiece) (tgt := 93) dX7_readPiece_88 91 rfl (by decide) (fun c14 => ?_) (fun c14 => ?_)
      · have c14 := iv_ne (X := v13.toInt) (Y := 0) c14 rfl (by decide)
        refine pv_aload_n (M := mX7_readPiece) 0 dX7_readPiece_93 94 rfl rfl rfl ?_
        refine pv_callv (M := mX7_readPiece) (as := []) (st := []) (kc2 := 0) (ks2 := 0) dX7_readPiece_94 wd527 YX7_peek ⟨wd529, wd2⟩ (mk_get (tl86 hT)) rfl rfl (s_X7_peek g hT I11 R) rfl rfl (Nat.le_of_ble_eq_true rfl) (by decide) rfl rfl 97 rfl (fun rv h1 q15 => ?_)
        obtain ⟨v16, rfl, rfl, pv16, qv16, rv16⟩ := q15
        replace rv16 : v16.toInt = -1 ∨ (m9 86 3).toInt < (m9 86 2).toInt := rv16
        show PV _ _ _ _ _ _ _ 97 [.ref 86, .int 3, pv_U] [.int v16] _
        refine pv_istore_n (M := mX7_readPiece) 2 (lo2 := [.ref 86, .int 3, .int v16]) dX7_readPiece_97 98 rfl rfl (by decide) rfl rfl ?_
        refine pv_iload_n (M := mX7_readPiece) 2 dX7_readPiece_98 99 rfl rfl rfl ?_
        refine pv_bipush (M := mX7_readPiece) (v := 60) dX7_readPiece_99 101 rfl (by decide) ?_
        refine pv_icmp_eq (M := mX7_readPiece) (tgt := 122) dX7_readPiece_101 104 rfl (by decide) (fun c17 => ?_) (fun c17 => ?_)
        · have c17 := iv_eq (X := v16.toInt) (Y := 60) c17 rfl (by decide)
          refine pv_aload_n (M := mX7_readPiece) 0 dX7_readPiece_122 123 rfl rfl rfl ?_
          refine pv_dup (M := mX7_readPiece) dX7_readPiece_123 124 rfl rfl ?_
          refine iv_get (M := mX7_readPiece) (l1 := 0) (l2 := 160) dX7_readPiece_124 FX7 3 wd283 (by decide) (tl86 hT) rfl I11 rfl 127 rfl (fun v18 ev18 pv18 qv18 => ?_)
          have wv18 : v18.toInt = (m9 86 3).toInt := congrArg Int32.toInt ev18
          refine pv_iconst (M := mX7_readPiece) (v := 1) dX7_readPiece_127 128 rfl (by decide) ?_
          refine iv_iadd (M := mX7_readPiece) (X := v18.toInt) (Y := 1) dX7_readPiece_128 129 rfl rfl (by decide) (by omega) (by omega) (fun v19 ev19 => ?_)
          refine iv_put (M := mX7_readPiece) (l1 := 0) (l2 := 160) dX7_readPiece_129 FX7 3 wd283 (by decide) rfl (tl86 hT) rfl rfl rfl I11 rfl (by omega) (by omega) 132 rfl (fun m20 e23 I21 => ?_)
          have K22 := K12.set e23 (wl_r (by omega) (by omega))
          have w24 : (m20 86 3).toInt = v19.toInt := by rw [e23, up2_eq]
          have w25 : (m20 86 2).toInt = (m9 86 2).toInt := by rw [e23, up2_ne (by omega)]
          refine pv_aload_n (M := mX7_readPiece) 0 dX7_readPiece_132 133 rfl rfl rfl ?_
          refine pv_iload_n (M := mX7_readPiece) 1 dX7_readPiece_133 134 rfl rfl rfl ?_
          have z26 : (3 : Int32).toInt = 3 := by decide
          refine pv_callv (M := mX7_readPiece) (as := [.int 3]) (st := []) (kc2 := 0) (ks2 := 0) dX7_readPiece_134 wd539 YX7_readSum ⟨wd541, wd4⟩ (mk_get (tl86 hT)) rfl rfl (s_X7_readSum_v3 g hT I21 R (by first | omega | assumption | exact (iv_rng _).2 | exact (iv_rng _).1 | decide)) rfl rfl (Nat.le_of_ble_eq_true rfl) (by decide) rfl rfl 137 rfl (fun rv h1 q27 => ?_)
          obtain ⟨m28, n29, v32, rfl, rfl, I30, K31, pv32, qv32, rv32⟩ := q27
          replace rv32 : (m20 86 3).toInt ≤ (m28 86 3).toInt ∧ (m28 86 3).toInt ≤ (m28 86 2).toInt ∧ (m28 86 2).toInt = (m20 86 2).toInt := rv32
          have K31c := K31
          have K31 := K22.trans (K31.sub (fun _ _ q => q))
          show PV _ _ _ _ _ _ _ 137 [.ref 86, .int 3, .int v16] [.int v32] _
          refine pv_if_ne (M := mX7_readPiece) (tgt := 142) dX7_readPiece_137 140 rfl (by decide) (fun c33 => ?_) (fun c33 => ?_)
          · have c33 := iv_ne (X := v32.toInt) (Y := 0) c33 rfl (by decide)
            refine pv_aload_n (M := mX7_readPiece) 0 dX7_readPiece_142 143 rfl rfl rfl ?_
            refine mv_get (M := mX7_readPiece) (v := .ref lb) dX7_readPiece_143 FX7 1 wd281 (by decide) (tl86 hT) rfl R.2.2.2.1 146 rfl ?_
            refine pv_iload_n (M := mX7_readPiece) 2 dX7_readPiece_146 147 rfl rfl rfl ?_
            refine pv_iconst (M := mX7_readPiece) (v := 0) dX7_readPiece_147 148 rfl (by decide) ?_
            refine pv_callv (M := mX7_readPiece) (as := [.int v16, .int 0]) (st := []) (kc2 := 0) (ks2 := 0) dX7_readPiece_148 wd567 YX6_emit ⟨wd568, wd569⟩ (mk_get R.2.2.2.2.2.2.1) rfl rfl (s_X6_emit g hT I30 lb R.2.2.2.2.2 v16 0 (by decide) (by decide)) rfl rfl (Nat.le_of_ble_eq_true rfl) (by decide) rfl rfl 151 rfl (fun rv h1 q34 => ?_)
            obtain ⟨m35, n36, rfl, rfl, I37, K38, rm35⟩ := q34
            have K38c := K38
            have w39 : (m35 86 3).toInt = (m28 86 3).toInt := congrArg Int32.toInt (K38 86 3 (wr_out (by omega)))
            have w40 : (m35 86 2).toInt = (m28 86 2).toInt := congrArg Int32.toInt (K38 86 2 (wr_out (by omega)))
            have K38 := K31.trans (K38.sub (wr_wr (by omega) (by omega)))
            show PV _ _ _ _ _ _ _ 151 [.ref 86, .int 3, .int v16] [] _
            refine pv_iconst (M := mX7_readPiece) (v := 1) dX7_readPiece_151 152 rfl (by decide) ?_
            have z41 : (1 : Int32).toInt = 1 := by decide
            exact pv_iret (M := mX7_readPiece) dX7_readPiece_152 rfl rfl ⟨_, _, _, rfl, rfl, I37, K38, by decide, by decide, (by refine ⟨?_, ?_, ?_⟩ <;> omega)⟩
          · have c33 := iv_eq (X := v32.toInt) (Y := 0) c33 rfl (by decide)
            refine pv_iconst (M := mX7_readPiece) (v := 0) dX7_readPiece_140 141 rfl (by decide) ?_
            have z42 : (0 : Int32).toInt = 0 := by decide
            exact pv_iret (M := mX7_readPiece) dX7_readPiece_141 rfl rfl ⟨_, _, _, rfl, rfl, I30, K31, by decide, by decide, (by refine ⟨?_, ?_, ?_⟩ <;> omega)⟩
        · have c17 := iv_ne (X := v16.toInt) (Y := 60) c17 rfl (by decide)
          refine pv_iload_n (M := mX7_readPiece) 2 dX7_readPiece_104 105 rfl rfl rfl ?_
          refine pv_bipush (M := mX7_readPiece) (v := 62) dX7_readPiece_105 107 rfl (by decide) ?_
          refine pv_icmp_eq (M := mX7_readPiece) (tgt := 122) dX7_readPiece_107 110 rfl (by decide) (fun c43 => ?_) (fun c43 => ?_)
          · have c43 := iv_eq (X := v16.toInt) (Y := 62) c43 rfl (by decide)
            refine pv_aload_n (M := mX7_readPiece) 0 dX7_readPiece_122 123 rfl rfl rfl ?_
            refine pv_dup (M := mX7_readPiece) dX7_readPiece_123 124 rfl rfl ?_
            refine iv_get (M := mX7_readPiece) (l1 := 0) (l2 := 160) dX7_readPiece_124 FX7 3 wd283 (by decide) (tl86 hT) rfl I11 rfl 127 rfl (fun v44 ev44 pv44 qv44 => ?_)
            have wv44 : v44.toInt = (m9 86 3).toInt := congrArg Int32.toInt ev44
            refine pv_iconst (M := mX7_readPiece) (v := 1) dX7_readPiece_127 128 rfl (by decide) ?_
            refine iv_iadd (M := mX7_readPiece) (X := v44.toInt) (Y := 1) dX7_readPiece_128 129 rfl rfl (by decide) (by omega) (by omega) (fun v45 ev45 => ?_)
            refine iv_put (M := mX7_readPiece) (l1 := 0) (l2 := 160) dX7_readPiece_129 FX7 3 wd283 (by decide) rfl (tl86 hT) rfl rfl rfl I11 rfl (by omega) (by omega) 132 rfl (fun m46 e49 I47 => ?_)
            have K48 := K12.set e49 (wl_r (by omega) (by omega))
            have w50 : (m46 86 3).toInt = v45.toInt := by rw [e49, up2_eq]
            have w51 : (m46 86 2).toInt = (m9 86 2).toInt := by rw [e49, up2_ne (by omega)]
            refine pv_aload_n (M := mX7_readPiece) 0 dX7_readPiece_132 133 rfl rfl rfl ?_
            refine pv_iload_n (M := mX7_readPiece) 1 dX7_readPiece_133 134 rfl rfl rfl ?_
            have z52 : (3 : Int32).toInt = 3 := by decide
            refine pv_callv (M := mX7_readPiece) (as := [.int 3]) (st := []) (kc2 := 0) (ks2 := 0) dX7_readPiece_134 wd539 YX7_readSum ⟨wd541, wd4⟩ (mk_get (tl86 hT)) rfl rfl (s_X7_readSum_v3 g hT I47 R (by first | omega | assumption | exact (iv_rng _).2 | exact (iv_rng _).1 | decide)) rfl rfl (Nat.le_of_ble_eq_true rfl) (by decide) rfl rfl 137 rfl (fun rv h1 q53 => ?_)
            obtain ⟨m54, n55, v58, rfl, rfl, I56, K57, pv58, qv58, rv58⟩ := q53
            replace rv58 : (m46 86 3).toInt ≤ (m54 86 3).toInt ∧ (m54 86 3).toInt ≤ (m54 86 2).toInt ∧ (m54 86 2).toInt = (m46 86 2).toInt := rv58
            have K57c := K57
            have K57 := K48.trans (K57.sub (fun _ _ q => q))
            show PV _ _ _ _ _ _ _ 137 [.ref 86, .int 3, .int v16] [.int v58] _
            refine pv_if_ne (M := mX7_readPiece) (tgt := 142) dX7_readPiece_137 140 rfl (by decide) (fun c59 => ?_) (fun c59 => ?_)
            · have c59 := iv_ne (X := v58.toInt) (Y := 0) c59 rfl (by decide)
              refine pv_aload_n (M := mX7_readPiece) 0 dX7_readPiece_142 143 rfl rfl rfl ?_
              refine mv_get (M := mX7_readPiece) (v := .ref lb) dX7_readPiece_143 FX7 1 wd281 (by decide) (tl86 hT) rfl R.2.2.2.1 146 rfl ?_
              refine pv_iload_n (M := mX7_readPiece) 2 dX7_readPiece_146 147 rfl rfl rfl ?_
              refine pv_iconst (M := mX7_readPiece) (v := 0) dX7_readPiece_147 148 rfl (by decide) ?_
              refine pv_callv (M := mX7_readPiece) (as := [.int v16, .int 0]) (st := []) (kc2 := 0) (ks2 := 0) dX7_readPiece_148 wd567 YX6_emit ⟨wd568, wd569⟩ (mk_get R.2.2.2.2.2.2.1) rfl rfl (s_X6_emit g hT I56 lb R.2.2.2.2.2 v16 0 (by decide) (by decide)) rfl rfl (Nat.le_of_ble_eq_true rfl) (by decide) rfl rfl 151 rfl (fun rv h1 q60 => ?_)
              obtain ⟨m61, n62, rfl, rfl, I63, K64, rm61⟩ := q60
              have K64c := K64
              have w65 : (m61 86 3).toInt = (m54 86 3).toInt := congrArg Int32.toInt (K64 86 3 (wr_out (by omega)))
              have w66 : (m61 86 2).toInt = (m54 86 2).toInt := congrArg Int32.toInt (K64 86 2 (wr_out (by omega)))
              have K64 := K57.trans (K64.sub (wr_wr (by omega) (by omega)))
              show PV _ _ _ _ _ _ _ 151 [.ref 86, .int 3, .int v16] [] _
              refine pv_iconst (M := mX7_readPiece) (v := 1) dX7_readPiece_151 152 rfl (by decide) ?_
              have z67 : (1 : Int32).toInt = 1 := by decide
              exact pv_iret (M := mX7_readPiece) dX7_readPiece_152 rfl rfl ⟨_, _, _, rfl, rfl, I63, K64, by decide, by decide, (by refine ⟨?_, ?_, ?_⟩ <;> omega)⟩
            · have c59 := iv_eq (X := v58.toInt) (Y := 0) c59 rfl (by decide)
              refine pv_iconst (M := mX7_readPiece) (v := 0) dX7_readPiece_140 141 rfl (by decide) ?_
              have z68 : (0 : Int32).toInt = 0 := by decide
              exact pv_iret (M := mX7_readPiece) dX7_readPiece_141 rfl rfl ⟨_, _, _, rfl, rfl, I56, K57, by decide, by decide, (by refine ⟨?_, ?_, ?_⟩ <;> omega)⟩
          · have c43 := iv_ne (X := v16.toInt) (Y := 62) c43 rfl (by decide)
            refine pv_iload_n (M := mX7_readPiece) 2 dX7_readPiece_110 111 rfl rfl rfl ?_
            refine pv_bipush (M := mX7_readPiece) (v := 61) dX7_readPiece_111 113 rfl (by decide) ?_
            refine pv_icmp_eq (M := mX7_readPiece) (tgt := 122) dX7_readPiece_113 116 rfl (by decide) (fun c69 => ?_) (fun c69 => ?_)
            · have c69 := iv_eq (X := v16.toInt) (Y := 61) c69 rfl (by decide)
              refine pv_aload_n (M := mX7_readPiece) 0 dX7_readPiece_122 123 rfl rfl rfl ?_
              refine pv_dup (M := mX7_readPiece) dX7_readPiece_123 124 rfl rfl ?_
              refine iv_get (M := mX7_readPiece) (l1 := 0) (l2 := 160) dX7_readPiece_124 FX7 3 wd283 (by decide) (tl86 hT) rfl I11 rfl 127 rfl (fun v70 ev70 pv70 qv70 => ?_)
              have wv70 : v70.toInt = (m9 86 3).toInt := congrArg Int32.toInt ev70
              refine pv_iconst (M := mX7_readPiece) (v := 1) dX7_readPiece_127 128 rfl (by decide) ?_
              refine iv_iadd (M := mX7_readPiece) (X := v70.toInt) (Y := 1) dX7_readPiece_128 129 rfl rfl (by decide) (by omega) (by omega) (fun v71 ev71 => ?_)
              refine iv_put (M := mX7_readPiece) (l1 := 0) (l2 := 160) dX7_readPiece_129 FX7 3 wd283 (by decide) rfl (tl86 hT) rfl rfl rfl I11 rfl (by omega) (by omega) 132 rfl (fun m72 e75 I73 => ?_)
              have K74 := K12.set e75 (wl_r (by omega) (by omega))
              have w76 : (m72 86 3).toInt = v71.toInt := by rw [e75, up2_eq]
              have w77 : (m72 86 2).toInt = (m9 86 2).toInt := by rw [e75, up2_ne (by omega)]
              refine pv_aload_n (M := mX7_readPiece) 0 dX7_readPiece_132 133 rfl rfl rfl ?_
              refine pv_iload_n (M := mX7_readPiece) 1 dX7_readPiece_133 134 rfl rfl rfl ?_
              have z78 : (3 : Int32).toInt = 3 := by decide
              refine pv_callv (M := mX7_readPiece) (as := [.int 3]) (st := []) (kc2 := 0) (ks2 := 0) dX7_readPiece_134 wd539 YX7_readSum ⟨wd541, wd4⟩ (mk_get (tl86 hT)) rfl rfl (s_X7_readSum_v3 g hT I73 R (by first | omega | assumption | exact (iv_rng _).2 | exact (iv_rng _).1 | decide)) rfl rfl (Nat.le_of_ble_eq_true rfl) (by decide) rfl rfl 137 rfl (fun rv h1 q79 => ?_)
              obtain ⟨m80, n81, v84, rfl, rfl, I82, K83, pv84, qv84, rv84⟩ := q79
              replace rv84 : (m72 86 3).toInt ≤ (m80 86 3).toInt ∧ (m80 86 3).toInt ≤ (m80 86 2).toInt ∧ (m80 86 2).toInt = (m72 86 2).toInt := rv84
              have K83c := K83
              have K83 := K74.trans (K83.sub (fun _ _ q => q))
              show PV _ _ _ _ _ _ _ 137 [.ref 86, .int 3, .int v16] [.int v84] _
              refine pv_if_ne (M := mX7_readPiece) (tgt := 142) dX7_readPiece_137 140 rfl (by decide) (fun c85 => ?_) (fun c85 => ?_)
              · have c85 := iv_ne (X := v84.toInt) (Y := 0) c85 rfl (by decide)
                refine pv_aload_n (M := mX7_readPiece) 0 dX7_readPiece_142 143 rfl rfl rfl ?_
                refine mv_get (M := mX7_readPiece) (v := .ref lb) dX7_readPiece_143 FX7 1 wd281 (by decide) (tl86 hT) rfl R.2.2.2.1 146 rfl ?_
                refine pv_iload_n (M := mX7_readPiece) 2 dX7_readPiece_146 147 rfl rfl rfl ?_
                refine pv_iconst (M := mX7_readPiece) (v := 0) dX7_readPiece_147 148 rfl (by decide) ?_
                refine pv_callv (M := mX7_readPiece) (as := [.int v16, .int 0]) (st := []) (kc2 := 0) (ks2 := 0) dX7_readPiece_148 wd567 YX6_emit ⟨wd568, wd569⟩ (mk_get R.2.2.2.2.2.2.1) rfl rfl (s_X6_emit g hT I82 lb R.2.2.2.2.2 v16 0 (by decide) (by decide)) rfl rfl (Nat.le_of_ble_eq_true rfl) (by decide) rfl rfl 151 rfl (fun rv h1 q86 => ?_)
                obtain ⟨m87, n88, rfl, rfl, I89, K90, rm87⟩ := q86
                have K90c := K90
                have w91 : (m87 86 3).toInt = (m80 86 3).toInt := congrArg Int32.toInt (K90 86 3 (wr_out (by omega)))
                have w92 : (m87 86 2).toInt = (m80 86 2).toInt := congrArg Int32.toInt (K90 86 2 (wr_out (by omega)))
                have K90 := K83.trans (K90.sub (wr_wr (by omega) (by omega)))
                show PV _ _ _ _ _ _ _ 151 [.ref 86, .int 3, .int v16] [] _
                refine pv_iconst (M := mX7_readPiece) (v := 1) dX7_readPiece_151 152 rfl (by decide) ?_
                have z93 : (1 : Int32).toInt = 1 := by decide
                exact pv_iret (M := mX7_readPiece) dX7_readPiece_152 rfl rfl ⟨_, _, _, rfl, rfl, I89, K90, by decide, by decide, (by refine ⟨?_, ?_, ?_⟩ <;> omega)⟩
              · have c85 := iv_eq (X := v84.toInt) (Y := 0) c85 rfl (by decide)
                refine pv_iconst (M := mX7_readPiece) (v := 0) dX7_readPiece_140 141 rfl (by decide) ?_
                have z94 : (0 : Int32).toInt = 0 := by decide
                exact pv_iret (M := mX7_readPiece) dX7_readPiece_141 rfl rfl ⟨_, _, _, rfl, rfl, I82, K83, by decide, by decide, (by refine ⟨?_, ?_, ?_⟩ <;> omega)⟩
            · have c69 := iv_ne (X := v16.toInt) (Y := 61) c69 rfl (by decide)
              refine pv_aload_n (M := mX7_readPiece) 0 dX7_readPiece_116 117 rfl rfl rfl ?_
              refine pv_iconst (M := mX7_readPiece) (v := 1) dX7_readPiece_117 118 rfl (by decide) ?_
              have z95 : (1 : Int32).toInt = 1 := by decide
              refine pv_callv (M := mX7_readPiece) (as := [.int 1]) (st := []) (kc2 := 0) (ks2 := 0) dX7_readPiece_118 wd531 YX7_fail ⟨wd533, wd3⟩ (mk_get (tl86 hT)) rfl rfl (s_X7_fail g hT I11 R 1 (by first | omega | assumption | exact (iv_rng _).2 | exact (iv_rng _).1 | decide)) rfl rfl (Nat.le_of_ble_eq_true rfl) (by decide) rfl rfl 121 rfl (fun rv h1 q96 => ?_)
              obtain ⟨m97, n98, v101, rfl, rfl, I99, K100, pv101, qv101, rv101⟩ := q96
              replace rv101 : v101.toInt = 0 ∧ (m9 86 3).toInt ≤ (m97 86 3).toInt ∧ (m97 86 3).toInt ≤ (m97 86 2).toInt ∧ (m97 86 2).toInt = (m9 86 2).toInt := rv101
              have K100c := K100
              have K100 := K12.trans (K100.sub (fun _ _ q => q))
              show PV _ _ _ _ _ _ _ 121 [.ref 86, .int 3, .int v16] [.int v101] _
              exact pv_iret (M := mX7_readPiece) dX7_readPiece_121 rfl (iv_nz (by omega) (by omega)) ⟨_, _, _, rfl, rfl, I99, K100, by omega, by omega, (by refine ⟨?_, ?_, ?_⟩ <;> omega)⟩
      · have c14 := iv_eq (X := v13.toInt) (Y := 0) c14 rfl (by decide)
        refine pv_iconst (M := mX7_readPiece) (v := 0) dX7_readPiece_91 92 rfl (by decide) ?_
        have z102 : (0 : Int32).toInt = 0 := by decide
        exact pv_iret (M := mX7_readPiece) dX7_readPiece_92 rfl rfl ⟨_, _, _, rfl, rfl, I11, K12, by decide, by decide, (by refine ⟨?_, ?_, ?_⟩ <;> omega)⟩
    · have c6 := iv_eq (X := v5.toInt) (Y := 40) c6 rfl (by decide)
      refine pv_aload_n (M := mX7_readPiece) 0 dX7_readPiece_50 51 rfl rfl rfl ?_
      refine pv_iload_n (M := mX7_readPiece) 1 dX7_readPiece_51 52 rfl rfl rfl ?_
      have z103 : (3 : Int32).toInt = 3 := by decide
      refine pv_callv (M := mX7_readPiece) (as := [.int 3]) (st := []) (kc2 := 0) (ks2 := 0) dX7_readPiece_52 wd551 YX7_open ⟨wd553, wd7⟩ (mk_get (tl86 hT)) rfl rfl (s_X7_open g hT I R 3 (by first | omega | assumption | exact (iv_rng _).2 | exact (iv_rng _).1 | decide)) rfl rfl (Nat.le_of_ble_eq_true rfl) (by decide) rfl rfl 55 rfl (fun rv h1 q104 => ?_)
      obtain ⟨m105, n106, v109, rfl, rfl, I107, K108, pv109, qv109, rv109⟩ := q104
      replace rv109 : (v109 = 0 ∨ (3 : Int) ≤ 5) ∧ (m 86 3).toInt ≤ (m105 86 3).toInt ∧ (m105 86 3).toInt ≤ (m105 86 2).toInt ∧ (m105 86 2).toInt = (m 86 2).toInt := by have q_ := rv109; (try rw [z103] at q_); exact q_
      have K108c := K108
      have K108 := Kp.trans (K108.sub (fun _ _ q => q))
      show PV _ _ _ _ _ _ _ 55 [.ref 86, .int 3, pv_U] [.int v109] _
      refine pv_if_eq (M := mX7_readPiece) (tgt := 81) dX7_readPiece_55 58 rfl (by decide) (fun c110 => ?_) (fun c110 => ?_)
      · have c110 := iv_eq (X := v109.toInt) (Y := 0) c110 rfl (by decide)
        refine pv_iconst (M := mX7_readPiece) (v := 0) dX7_readPiece_81 82 rfl (by decide) ?_
        have z111 : (0 : Int32).toInt = 0 := by decide
        exact pv_iret (M := mX7_readPiece) dX7_readPiece_82 rfl rfl ⟨_, _, _, rfl, rfl, I107, K108, by decide, by decide, (by refine ⟨?_, ?_, ?_⟩ <;> omega)⟩
      · have pc110 := rv109.1.resolve_left c110
        have c110 := iv_ne (X := v109.toInt) (Y := 0) c110 rfl (by decide)
        refine pv_aload_n (M := mX7_readPiece) 0 dX7_readPiece_58 59 rfl rfl rfl ?_
        refine pv_iload_n (M := mX7_readPiece) 1 dX7_readPiece_59 60 rfl rfl rfl ?_
        refine pv_iconst (M := mX7_readPiece) (v := 1) dX7_readPiece_60 61 rfl (by decide) ?_
        refine pv_iadd (M := mX7_readPiece) (v := 4) dX7_readPiece_61 62 rfl (by decide) ?_
        have z113 : (4 : Int32).toInt = 4 := by decide
        refine pv_callv (M := mX7_readPiece) (as := [.int 4]) (st := []) (kc2 := 0) (ks2 := 0) dX7_readPiece_62 wd662 YX7_readCondition ⟨wd664, wd12⟩ (mk_get (tl86 hT)) rfl rfl (s_X7_readCondition_v4 g hT I107 R (by first | omega | assumption | exact (iv_rng _).2 | exact (iv_rng _).1 | decide)) rfl rfl (Nat.le_of_ble_eq_true rfl) (by decide) rfl rfl 65 rfl (fun rv h1 q114 => ?_)
        obtain ⟨m115, n116, v119, rfl, rfl, I117, K118, pv119, qv119, rv119⟩ := q114
        replace rv119 : (m105 86 3).toInt ≤ (m115 86 3).toInt ∧ (m115 86 3).toInt ≤ (m115 86 2).toInt ∧ (m115 86 2).toInt = (m105 86 2).toInt := rv119
        have K118c := K118
        have K118 := K108.trans (K118.sub (fun _ _ q => q))
        show PV _ _ _ _ _ _ _ 65 [.ref 86, .int 3, pv_U] [.int v119] _
        refine pv_if_eq (M := mX7_readPiece) (tgt := 81) dX7_readPiece_65 68 rfl (by decide) (fun c120 => ?_) (fun c120 => ?_)
        · have c120 := iv_eq (X := v119.toInt) (Y := 0) c120 rfl (by decide)
          refine pv_iconst (M := mX7_readPiece) (v := 0) dX7_readPiece_81 82 rfl (by decide) ?_
          have z121 : (0 : Int32).toInt = 0 := by decide
          exact pv_iret (M := mX7_readPiece) dX7_readPiece_82 rfl rfl ⟨_, _, _, rfl, rfl, I117, K118, by decide, by decide, (by refine ⟨?_, ?_, ?_⟩ <;> omega)⟩
        · have c120 := iv_ne (X := v119.toInt) (Y := 0) c120 rfl (by decide)
          refine pv_aload_n (M := mX7_readPiece) 0 dX7_readPiece_68 69 rfl rfl rfl ?_
          refine pv_bipush (M := mX7_readPiece) (v := 41) dX7_readPiece_69 71 rfl (by decide) ?_
          have z122 : (41 : Int32).toInt = 41 := by decide
          refine pv_callv (M := mX7_readPiece) (as := [.int 41]) (st := []) (kc2 := 0) (ks2 := 0) dX7_readPiece_71 wd555 YX7_pass ⟨wd557, wd8⟩ (mk_get (tl86 hT)) rfl rfl (s_X7_pass g hT I117 R 41 (by decide) (by decide) (by first | omega | assumption | exact (iv_rng _).2 | exact (iv_rng _).1 | decide)) rfl rfl (Nat.le_of_ble_eq_true rfl) (by decide) rfl rfl 74 rfl (fun rv h1 q123 => ?_)
          obtain ⟨m124, n125, v128, rfl, rfl, I126, K127, pv128, qv128, rv128⟩ := q123
          replace rv128 : (m115 86 3).toInt ≤ (m124 86 3).toInt ∧ (m124 86 3).toInt ≤ (m124 86 2).toInt ∧ (m124 86 2).toInt = (m115 86 2).toInt := rv128
          have K127c := K127
          have K127 := K118.trans (K127.sub (fun _ _ q => q))
          show PV _ _ _ _ _ _ _ 74 [.ref 86, .int 3, pv_U] [.int v128] _
          refine pv_if_eq (M := mX7_readPiece) (tgt := 81) dX7_readPiece_74 77 rfl (by decide) (fun c129 => ?_) (fun c129 => ?_)
          · have c129 := iv_eq (X := v128.toInt) (Y := 0) c129 rfl (by decide)
            refine pv_iconst (M := mX7_readPiece) (v := 0) dX7_readPiece_81 82 rfl (by decide) ?_
            have z130 : (0 : Int32).toInt = 0 := by decide
            exact pv_iret (M := mX7_readPiece) dX7_readPiece_82 rfl rfl ⟨_, _, _, rfl, rfl, I126, K127, by decide, by decide, (by refine ⟨?_, ?_, ?_⟩ <;> omega)⟩
          · have c129 := iv_ne (X := v128.toInt) (Y := 0) c129 rfl (by decide)
            refine pv_iconst (M := mX7_readPiece) (v := 1) dX7_readPiece_77 78 rfl (by decide) ?_
            refine pv_goto (M := mX7_readPiece) (tgt := 82) dX7_readPiece_78 (by decide) ?_
            have z131 : (1 : Int32).toInt = 1 := by decide
            exact pv_iret (M := mX7_readPiece) dX7_readPiece_82 rfl rfl ⟨_, _, _, rfl, rfl, I126, K127, by decide, by decide, (by refine ⟨?_, ?_, ?_⟩ <;> omega)⟩
  · have c3 := iv_eq (X := v2.toInt) (Y := 33) c3 rfl (by decide)
    refine pv_aload_n (M := mX7_readPiece) 0 dX7_readPiece_9 10 rfl rfl rfl ?_
    refine pv_iload_n (M := mX7_readPiece) 1 dX7_readPiece_10 11 rfl rfl rfl ?_
    have z132 : (3 : Int32).toInt = 3 := by decide
    refine pv_callv (M := mX7_readPiece) (as := [.int 3]) (st := []) (kc2 := 0) (ks2 := 0) dX7_readPiece_11 wd551 YX7_open ⟨wd553, wd7⟩ (mk_get (tl86 hT)) rfl rfl (s_X7_open g hT I R 3 (by first | omega | assumption | exact (iv_rng _).2 | exact (iv_rng _).1 | decide)) rfl rfl (Nat.le_of_ble_eq_true rfl) (by decide) rfl rfl 14 rfl (fun rv h1 q133 => ?_)
    obtain ⟨m134, n135, v138, rfl, rfl, I136, K137, pv138, qv138, rv138⟩ := q133
    replace rv138 : (v138 = 0 ∨ (3 : Int) ≤ 5) ∧ (m 86 3).toInt ≤ (m134 86 3).toInt ∧ (m134 86 3).toInt ≤ (m134 86 2).toInt ∧ (m134 86 2).toInt = (m 86 2).toInt := by have q_ := rv138; (try rw [z132] at q_); exact q_
    have K137c := K137
    have K137 := Kp.trans (K137.sub (fun _ _ q => q))
    show PV _ _ _ _ _ _ _ 14 [.ref 86, .int 3, pv_U] [.int v138] _
    refine pv_if_eq (M := mX7_readPiece) (tgt := 27) dX7_readPiece_14 17 rfl (by decide) (fun c139 => ?_) (fun c139 => ?_)
    · have c139 := iv_eq (X := v138.toInt) (Y := 0) c139 rfl (by decide)
      refine pv_iconst (M := mX7_readPiece) (v := 0) dX7_readPiece_27 28 rfl (by decide) ?_
      have z140 : (0 : Int32).toInt = 0 := by decide
      exact pv_iret (M := mX7_readPiece) dX7_readPiece_28 rfl rfl ⟨_, _, _, rfl, rfl, I136, K137, by decide, by decide, (by refine ⟨?_, ?_, ?_⟩ <;> omega)⟩
    · have pc139 := rv138.1.resolve_left c139
      have c139 := iv_ne (X := v138.toInt) (Y := 0) c139 rfl (by decide)
      refine pv_aload_n (M := mX7_readPiece) 0 dX7_readPiece_17 18 rfl rfl rfl ?_
      refine pv_iload_n (M := mX7_readPiece) 1 dX7_readPiece_18 19 rfl rfl rfl ?_
      refine pv_iconst (M := mX7_readPiece) (v := 1) dX7_readPiece_19 20 rfl (by decide) ?_
      refine pv_iadd (M := mX7_readPiece) (v := 4) dX7_readPiece_20 21 rfl (by decide) ?_
      have z142 : (4 : Int32).toInt = 4 := by decide
      refine pv_callv (M := mX7_readPiece) (as := [.int 4]) (st := []) (kc2 := 0) (ks2 := 0) dX7_readPiece_21 wd674 YX7_readPiece ⟨wd676, wd14⟩ (mk_get (tl86 hT)) rfl rfl (s_X7_readPiece_v4 g hT I136 R (by first | omega | assumption | exact (iv_rng _).2 | exact (iv_rng _).1 | decide)) rfl rfl (Nat.le_of_ble_eq_true rfl) (by decide) rfl rfl 24 rfl (fun rv h1 q143 => ?_)
      obtain ⟨m144, n145, v148, rfl, rfl, I146, K147, pv148, qv148, rv148⟩ := q143
      replace rv148 : (m134 86 3).toInt ≤ (m144 86 3).toInt ∧ (m144 86 3).toInt ≤ (m144 86 2).toInt ∧ (m144 86 2).toInt = (m134 86 2).toInt := rv148
      have K147c := K147
      have K147 := K137.trans (K147.sub (fun _ _ q => q))
      show PV _ _ _ _ _ _ _ 24 [.ref 86, .int 3, pv_U] [.int v148] _
      refine pv_if_ne (M := mX7_readPiece) (tgt := 29) dX7_readPiece_24 27 rfl (by decide) (fun c149 => ?_) (fun c149 => ?_)
      · have c149 := iv_ne (X := v148.toInt) (Y := 0) c149 rfl (by decide)
        refine pv_aload_n (M := mX7_readPiece) 0 dX7_readPiece_29 30 rfl rfl rfl ?_
        refine mv_get (M := mX7_readPiece) (v := .ref lb) dX7_readPiece_30 FX7 1 wd281 (by decide) (tl86 hT) rfl R.2.2.2.1 33 rfl ?_
        refine pv_bipush (M := mX7_readPiece) (v := 33) dX7_readPiece_33 35 rfl (by decide) ?_
        refine pv_iconst (M := mX7_readPiece) (v := 0) dX7_readPiece_35 36 rfl (by decide) ?_
        refine pv_callv (M := mX7_readPiece) (as := [.int 33, .int 0]) (st := []) (kc2 := 0) (ks2 := 0) dX7_readPiece_36 wd567 YX6_emit ⟨wd568, wd569⟩ (mk_get R.2.2.2.2.2.2.1) rfl rfl (s_X6_emit g hT I146 lb R.2.2.2.2.2 33 0 (by decide) (by decide)) rfl rfl (Nat.le_of_ble_eq_true rfl) (by decide) rfl rfl 39 rfl (fun rv h1 q150 => ?_)
        obtain ⟨m151, n152, rfl, rfl, I153, K154, rm151⟩ := q150
        have K154c := K154
        have w155 : (m151 86 3).toInt = (m144 86 3).toInt := congrArg Int32.toInt (K154 86 3 (wr_out (by omega)))
        have w156 : (m151 86 2).toInt = (m144 86 2).toInt := congrArg Int32.toInt (K154 86 2 (wr_out (by omega)))
        have K154 := K147.trans (K154.sub (wr_wr (by omega) (by omega)))
        show PV _ _ _ _ _ _ _ 39 [.ref 86, .int 3, pv_U] [] _
        refine pv_iconst (M := mX7_readPiece) (v := 1) dX7_readPiece_39 40 rfl (by decide) ?_
        have z157 : (1 : Int32).toInt = 1 := by decide
        exact pv_iret (M := mX7_readPiece) dX7_readPiece_40 rfl rfl ⟨_, _, _, rfl, rfl, I153, K154, by decide, by decide, (by refine ⟨?_, ?_, ?_⟩ <;> omega)⟩
      · have c149 := iv_eq (X := v148.toInt) (Y := 0) c149 rfl (by decide)
        refine pv_iconst (M := mX7_readPiece) (v := 0) dX7_readPiece_27 28 rfl (by decide) ?_
        have z158 : (0 : Int32).toInt = 0 := by decide
        exact pv_iret (M := mX7_readPiece) dX7_readPiece_28 rfl rfl ⟨_, _, _, rfl, rfl, I146, K147, by decide, by decide, (by refine ⟨?_, ?_, ?_⟩ <;> omega)⟩

set_option maxHeartbeats 2000000 in
set_option maxRecDepth 20000 in
theorem s_X7_readPart_v3 (g : pv_G) {T : List mv_T} {m : Nat → Nat → Int32} {n : Nat → Nat → Int64} {r : Nat → Value} {la lb : Nat} (hT : TX T) (I : IV BB m) (R : RX T r la lb) (hp0 : (m 86 3).toInt ≤ (m 86 2).toInt) : PM g mX7_readPart yX7_readPart (sqI T BB (wl [(77, 96, none)]) r m 0 1 (fun m' v => (m 86 3).toInt ≤ (m' 86 3).toInt ∧ (m' 86 3).toInt ≤ (m' 86 2).toInt ∧ (m' 86 2).toInt = (m 86 2).toInt)) 18 0 0 [.ref 86, .int 3] (mk T m n r) := by
  have Kp : fr (wl [(77, 96, none)]) m m := fr.rf
  have R0 := R
  have zR := R.2.2.2.2.1.1
  have zR2 := R.2.2.2.2.2.1
  have z65 : 0 ≤ (m 86 3).toInt ∧ (m 86 3).toInt ≤ 160 := I 86 3
  have z66 : 0 ≤ (m 86 2).toInt ∧ (m 86 2).toInt ≤ 160 := I 86 2
  refine PM.of 2 (lo := [.ref 86, .int 3, pv_U, pv_U]) rfl (by decide) rfl rfl (Nat.le_of_ble_eq_true rfl) ?_
  refine pv_aload_n (M := mX7_readPart) 0 dX7_readPart_0 1 rfl rfl rfl ?_
  refine mv_get (M := mX7_readPart) (v := .ref lb) dX7_readPart_1 FX7 1 wd281 (by decide) (tl86 hT) rfl R.2.2.2.1 4 rfl ?_
  refine pv_callv (M := mX7_readPart) (as := []) (st := []) (kc2 := 0) (ks2 := 0) dX7_readPart_4 wd666 YX6_steps ⟨wd667, wd668⟩ (mk_get R.2.2.2.2.2.2.1) rfl rfl (s_X6_steps g hT I lb R.2.2.2.2.2) rfl rfl (Nat.le_of_ble_eq_true rfl) (by decide) rfl rfl 7 rfl (fun rv h1 q1 => ?_)
  obtain ⟨v2, rfl, rfl, pv2, qv2, rv2⟩ := q1
  show PV _ _ _ _ _ _ _ 7 [.ref 86, .int 3, pv_U, pv_U] [.int v2] _
  refine pv_istore_n (M := mX7_readPart) 2 (lo2 := [.ref 86, .int 3, .int v2, pv_U]) dX7_readPart_7 8 rfl rfl (by decide) rfl rfl ?_
  refine pv_iconst (M := mX7_readPart) (v := 0) dX7_readPart_8 9 rfl (by decide) ?_
  refine pv_istore_n (M := mX7_readPart) 3 (lo2 := [.ref 86, .int 3, .int v2, .int 0]) dX7_readPart_9 10 rfl rfl (by decide) rfl rfl ?_
  have lp9 : ∀ (fuel8 : Nat) (y3 : Int32) (m4 : Nat → Nat → Int32) (n5 : Nat → Nat → Int64), (0 ≤ y3.toInt) → (y3.toInt ≤ 160) → ((m 86 3).toInt ≤ (m4 86 3).toInt) → ((m4 86 3).toInt ≤ (m4 86 2).toInt) → ((m4 86 2).toInt = (m 86 2).toInt) → IV BB m4 → fr (wl [(77, 96, none)]) m m4 → ((160 - y3.toInt) : Int).toNat < fuel8 → PV none g mX7_readPart (sqI T BB (wl [(77, 96, none)]) r m 0 1 (fun m' v => (m 86 3).toInt ≤ (m' 86 3).toInt ∧ (m' 86 3).toInt ≤ (m' 86 2).toInt ∧ (m' 86 2).toInt = (m 86 2).toInt)) 18 0 0 10 [.ref 86, .int 3, .int v2, .int y3] [] (mk T m4 n5 r) := by
    intro fuel8
    induction fuel8 with
    | zero => intro y3 m4 n5 b11 b12 b13 b14 b15 I6 K7 z16; omega
    | succ fuel8 ih10 =>
      intro y3 m4 n5 b11 b12 b13 b14 b15 I6 K7 z16
      have z17 : 0 ≤ (m4 86 3).toInt ∧ (m4 86 3).toInt ≤ 160 := I6 86 3
      have z18 : 0 ≤ (m4 86 2).toInt ∧ (m4 86 2).toInt ≤ 160 := I6 86 2
      refine pv_iload_n (M := mX7_readPart) 3 dX7_readPart_10 11 rfl rfl rfl ?_
      refine pv_sipush (M := mX7_readPart) (v := 160) dX7_readPart_11 14 rfl (by decide) ?_
      refine pv_icmp_ge (M := mX7_readPart) (tgt := 65) dX7_readPart_14 17 rfl (by decide) (fun c19 => ?_) (fun c19 => ?_)
      · have c19 := iv_le (X := 160) (Y := y3.toInt) c19 (by decide) rfl
        refine pv_aload_n (M := mX7_readPart) 0 dX7_readPart_65 66 rfl rfl rfl ?_
        refine mv_get (M := mX7_readPart) (v := .ref lb) dX7_readPart_66 FX7 1 wd281 (by decide) (tl86 hT) rfl R.2.2.2.1 69 rfl ?_
        refine pv_bipush (M := mX7_readPart) (v := 38) dX7_readPart_69 71 rfl (by decide) ?_
        refine pv_iload_n (M := mX7_readPart) 2 dX7_readPart_71 72 rfl rfl rfl ?_
        refine pv_callv (M := mX7_readPart) (as := [.int 38, .int v2]) (st := []) (kc2 := 0) (ks2 := 0) dX7_readPart_72 wd678 YX6_aimLeaps ⟨wd679, wd680⟩ (mk_get R.2.2.2.2.2.2.1) rfl rfl (s_X6_aimLeaps g hT I6 lb R.2.2.2.2.2 38 v2) rfl rfl (Nat.le_of_ble_eq_true rfl) (by decide) rfl rfl 75 rfl (fun rv h1 q20 => ?_)
        obtain ⟨m21, n22, rfl, rfl, I23, K24, rm21⟩ := q20
        have K24c := K24
        have w25 : (m21 86 3).toInt = (m4 86 3).toInt := congrArg Int32.toInt (K24 86 3 (wr_out (by omega)))
        have w26 : (m21 86 2).toInt = (m4 86 2).toInt := congrArg Int32.toInt (K24 86 2 (wr_out (by omega)))
        have K24 := K7.trans (K24.sub (wr_wr (by omega) (by omega)))
        show PV _ _ _ _ _ _ _ 75 [.ref 86, .int 3, .int v2, .int y3] [] _
        refine pv_iconst (M := mX7_readPart) (v := 1) dX7_readPart_75 76 rfl (by decide) ?_
        have z27 : (1 : Int32).toInt = 1 := by decide
        exact pv_iret (M := mX7_readPart) dX7_readPart_76 rfl rfl ⟨_, _, _, rfl, rfl, I23, K24, by decide, by decide, (by refine ⟨?_, ?_, ?_⟩ <;> omega)⟩
      · have c19 := iv_nle (X := 160) (Y := y3.toInt) c19 (by decide) rfl
        refine pv_aload_n (M := mX7_readPart) 0 dX7_readPart_17 18 rfl rfl rfl ?_
        refine pv_iload_n (M := mX7_readPart) 1 dX7_readPart_18 19 rfl rfl rfl ?_
        have z28 : (3 : Int32).toInt = 3 := by decide
        refine pv_callv (M := mX7_readPart) (as := [.int 3]) (st := []) (kc2 := 0) (ks2 := 0) dX7_readPart_19 wd674 YX7_readPiece ⟨wd676, wd14⟩ (mk_get (tl86 hT)) rfl rfl (s_X7_readPiece_v3 g hT I6 R (by first | omega | assumption | exact (iv_rng _).2 | exact (iv_rng _).1 | decide)) rfl rfl (Nat.le_of_ble_eq_true rfl) (by decide) rfl rfl 22 rfl (fun rv h1 q29 => ?_)
        obtain ⟨m30, n31, v34, rfl, rfl, I32, K33, pv34, qv34, rv34⟩ := q29
        replace rv34 : (m4 86 3).toInt ≤ (m30 86 3).toInt ∧ (m30 86 3).toInt ≤ (m30 86 2).toInt ∧ (m30 86 2).toInt = (m4 86 2).toInt := rv34
        have K33c := K33
        have K33 := K7.trans (K33.sub (fun _ _ q => q))
        show PV _ _ _ _ _ _ _ 22 [.ref 86, .int 3, .int v2, .int y3] [.int v34] _
        refine pv_if_ne (M := mX7_readPart) (tgt := 27) dX7_readPart_22 25 rfl (by decide) (fun c35 => ?_) (fun c35 => ?_)
        · have c35 := iv_ne (X := v34.toInt) (Y := 0) c35 rfl (by decide)
          refine pv_aload_n (M := mX7_readPart) 0 dX7_readPart_27 28 rfl rfl rfl ?_
          refine pv_callv (M := mX7_readPart) (as := []) (st := []) (kc2 := 0) (ks2 := 0) dX7_readPart_28 wd527 YX7_peek ⟨wd529, wd2⟩ (mk_get (tl86 hT)) rfl rfl (s_X7_peek g hT I32 R) rfl rfl (Nat.le_of_ble_eq_true rfl) (by decide) rfl rfl 31 rfl (fun rv h1 q36 => ?_)
          obtain ⟨v37, rfl, rfl, pv37, qv37, rv37⟩ := q36
          replace rv37 : v37.toInt = -1 ∨ (m30 86 3).toInt < (m30 86 2).toInt := rv37
          show PV _ _ _ _ _ _ _ 31 [.ref 86, .int 3, .int v2, .int y3] [.int v37] _
          refine pv_bipush (M := mX7_readPart) (v := 38) dX7_readPart_31 33 rfl (by decide) ?_
          refine pv_icmp_eq (M := mX7_readPart) (tgt := 39) dX7_readPart_33 36 rfl (by decide) (fun c38 => ?_) (fun c38 => ?_)
          · have c38 := iv_eq (X := v37.toInt) (Y := 38) c38 rfl (by decide)
            refine pv_aload_n (M := mX7_readPart) 0 dX7_readPart_39 40 rfl rfl rfl ?_
            refine mv_get (M := mX7_readPart) (v := .ref lb) dX7_readPart_40 FX7 1 wd281 (by decide) (tl86 hT) rfl R.2.2.2.1 43 rfl ?_
            refine pv_bipush (M := mX7_readPart) (v := 38) dX7_readPart_43 45 rfl (by decide) ?_
            refine pv_iconst (M := mX7_readPart) (v := (-1)) dX7_readPart_45 46 rfl (by decide) ?_
            refine pv_callv (M := mX7_readPart) (as := [.int 38, .int (-1)]) (st := []) (kc2 := 0) (ks2 := 0) dX7_readPart_46 wd567 YX6_emit ⟨wd568, wd569⟩ (mk_get R.2.2.2.2.2.2.1) rfl rfl (s_X6_emit g hT I32 lb R.2.2.2.2.2 38 (-1) (by decide) (by decide)) rfl rfl (Nat.le_of_ble_eq_true rfl) (by decide) rfl rfl 49 rfl (fun rv h1 q39 => ?_)
            obtain ⟨m40, n41, rfl, rfl, I42, K43, rm40⟩ := q39
            have K43c := K43
            have w44 : (m40 86 3).toInt = (m30 86 3).toInt := congrArg Int32.toInt (K43 86 3 (wr_out (by omega)))
            have w45 : (m40 86 2).toInt = (m30 86 2).toInt := congrArg Int32.toInt (K43 86 2 (wr_out (by omega)))
            have K43 := K33.trans (K43.sub (wr_wr (by omega) (by omega)))
            show PV _ _ _ _ _ _ _ 49 [.ref 86, .int 3, .int v2, .int y3] [] _
            refine pv_aload_n (M := mX7_readPart) 0 dX7_readPart_49 50 rfl rfl rfl ?_
            refine pv_dup (M := mX7_readPart) dX7_readPart_50 51 rfl rfl ?_
            refine iv_get (M := mX7_readPart) (l1 := 0) (l2 := 160) dX7_readPart_51 FX7 3 wd283 (by decide) (tl86 hT) rfl I42 rfl 54 rfl (fun v46 ev46 pv46 qv46 => ?_)
            have wv46 : v46.toInt = (m40 86 3).toInt := congrArg Int32.toInt ev46
            refine pv_iconst (M := mX7_readPart) (v := 1) dX7_readPart_54 55 rfl (by decide) ?_
            refine iv_iadd (M := mX7_readPart) (X := v46.toInt) (Y := 1) dX7_readPart_55 56 rfl rfl (by decide) (by omega) (by omega) (fun v47 ev47 => ?_)
            refine iv_put (M := mX7_readPart) (l1 := 0) (l2 := 160) dX7_readPart_56 FX7 3 wd283 (by decide) rfl (tl86 hT) rfl rfl rfl I42 rfl (by omega) (by omega) 59 rfl (fun m48 e51 I49 => ?_)
            have K50 := K43.set e51 (wl_r (by omega) (by omega))
            have w52 : (m48 86 3).toInt = v47.toInt := by rw [e51, up2_eq]
            have w53 : (m48 86 2).toInt = (m40 86 2).toInt := by rw [e51, up2_ne (by omega)]
            refine iv_inc (M := mX7_readPart) (C := 1) dX7_readPart_59 62 rfl rfl (by decide) rfl rfl (by decide) (by omega) (by omega) (fun v54 ev54 => ?_)
            show PV _ _ _ _ _ _ _ 62 [.ref 86, .int 3, .int v2, .int v54] [] _
            refine pv_goto (M := mX7_readPart) (tgt := 10) dX7_readPart_62 (by decide) ?_
            exact ih10 v54 m48 n41 (by first | omega | assumption | exact (iv_rng _).2 | exact (iv_rng _).1 | decide) (by first | omega | assumption | exact (iv_rng _).2 | exact (iv_rng _).1 | decide) (by first | omega | assumption | (show (m 86 3).toInt ≤ (m48 86 3).toInt; omega) | decide) (by first | omega | assumption | (show (m48 86 3).toInt ≤ (m48 86 2).toInt; omega) | decide) (by first | omega | assumption | (show (m48 86 2).toInt = (m 86 2).toInt; omega) | decide) I49 K50 (by omega)
          · have c38 := iv_ne (X := v37.toInt) (Y := 38) c38 rfl (by decide)
            refine pv_goto (M := mX7_readPart) (tgt := 65) dX7_readPart_36 (by decide) ?_
            refine pv_aload_n (M := mX7_readPart) 0 dX7_readPart_65 66 rfl rfl rfl ?_
            refine mv_get (M := mX7_readPart) (v := .ref lb) dX7_readPart_66 FX7 1 wd281 (by decide) (tl86 hT) rfl R.2.2.2.1 69 rfl ?_
            refine pv_bipush (M := mX7_readPart) (v := 38) dX7_readPart_69 71 rfl (by decide) ?_
            refine pv_iload_n (M := mX7_readPart) 2 dX7_readPart_71 72 rfl rfl rfl ?_
            refine pv_callv (M := mX7_readPart) (as := [.int 38, .int v2]) (st := []) (kc2 := 0) (ks2 := 0) dX7_readPart_72 wd678 YX6_aimLeaps ⟨wd679, wd680⟩ (mk_get R.2.2.2.2.2.2.1) rfl rfl (s_X6_aimLeaps g hT I32 lb R.2.2.2.2.2 38 v2) rfl rfl (Nat.le_of_ble_eq_true rfl) (by decide) rfl rfl 75 rfl (fun rv h1 q55 => ?_)
            obtain ⟨m56, n57, rfl, rfl, I58, K59, rm56⟩ := q55
            have K59c := K59
            have w60 : (m56 86 3).toInt = (m30 86 3).toInt := congrArg Int32.toInt (K59 86 3 (wr_out (by omega)))
            have w61 : (m56 86 2).toInt = (m30 86 2).toInt := congrArg Int32.toInt (K59 86 2 (wr_out (by omega)))
            have K59 := K33.trans (K59.sub (wr_wr (by omega) (by omega)))
            show PV _ _ _ _ _ _ _ 75 [.ref 86, .int 3, .int v2, .int y3] [] _
            refine pv_iconst (M := mX7_readPart) (v := 1) dX7_readPart_75 76 rfl (by decide) ?_
            have z62 : (1 : Int32).toInt = 1 := by decide
            exact pv_iret (M := mX7_readPart) dX7_readPart_76 rfl rfl ⟨_, _, _, rfl, rfl, I58, K59, by decide, by decide, (by refine ⟨?_, ?_, ?_⟩ <;> omega)⟩
        · have c35 := iv_eq (X := v34.toInt) (Y := 0) c35 rfl (by decide)
          refine pv_iconst (M := mX7_readPart) (v := 0) dX7_readPart_25 26 rfl (by decide) ?_
          have z63 : (0 : Int32).toInt = 0 := by decide
          exact pv_iret (M := mX7_readPart) dX7_readPart_26 rfl rfl ⟨_, _, _, rfl, rfl, I32, K33, by decide, by decide, (by refine ⟨?_, ?_, ?_⟩ <;> omega)⟩
  have z64 : (0 : Int32).toInt = 0 := by decide
  exact lp9 (((160 - 0) : Int).toNat + 1) 0 m n (by first | omega | assumption | exact (iv_rng _).2 | exact (iv_rng _).1 | decide) (by first | omega | assumption | exact (iv_rng _).2 | exact (iv_rng _).1 | decide) (by first | omega | assumption | (show (m 86 3).toInt ≤ (m 86 3).toInt; omega) | decide) (by first | omega | assumption | (show (m 86 3).toInt ≤ (m 86 2).toInt; omega) | decide) (by first | omega | assumption | (show (m 86 2).toInt = (m 86 2).toInt; omega) | decide) I Kp (by omega)

set_option maxHeartbeats 2000000 in
set_option maxRecDepth 20000 in
theorem s_X7_readCondition_v3 (g : pv_G) {T : List mv_T} {m : Nat → Nat → Int32} {n : Nat → Nat → Int64} {r : Nat → Value} {la lb : Nat} (hT : TX T) (I : IV BB m) (R : RX T r la lb) (hp0 : (m 86 3).toInt ≤ (m 86 2).toInt) : PM g mX7_readCondition yX7_readCondition (sqI T BB (wl [(77, 96, none)]) r m 0 1 (fun m' v => (m 86 3).toInt ≤ (m' 86 3).toInt ∧ (m' 86 3).toInt ≤ (m' 86 2).toInt ∧ (m' 86 2).toInt = (m 86 2).toInt)) 19 0 0 [.ref 86, .int 3] (mk T m n r) := by
  have Kp : fr (wl [(77, 96, none)]) m m := fr.rf
  have R0 := R
  have zR := R.2.2.2.2.1.1
  have zR2 := R.2.2.2.2.2.1
  have z65 : 0 ≤ (m 86 3).toInt ∧ (m 86 3).toInt ≤ 160 := I 86 3
  have z66 : 0 ≤ (m 86 2).toInt ∧ (m 86 2).toInt ≤ 160 := I 86 2
  refine PM.of 2 (lo := [.ref 86, .int 3, pv_U, pv_U]) rfl (by decide) rfl rfl (Nat.le_of_ble_eq_true rfl) ?_
  refine pv_aload_n (M := mX7_readCondition) 0 dX7_readCondition_0 1 rfl rfl rfl ?_
  refine mv_get (M := mX7_readCondition) (v := .ref lb) dX7_readCondition_1 FX7 1 wd281 (by decide) (tl86 hT) rfl R.2.2.2.1 4 rfl ?_
  refine pv_callv (M := mX7_readCondition) (as := []) (st := []) (kc2 := 0) (ks2 := 0) dX7_readCondition_4 wd666 YX6_steps ⟨wd667, wd668⟩ (mk_get R.2.2.2.2.2.2.1) rfl rfl (s_X6_steps g hT I lb R.2.2.2.2.2) rfl rfl (Nat.le_of_ble_eq_true rfl) (by decide) rfl rfl 7 rfl (fun rv h1 q1 => ?_)
  obtain ⟨v2, rfl, rfl, pv2, qv2, rv2⟩ := q1
  show PV _ _ _ _ _ _ _ 7 [.ref 86, .int 3, pv_U, pv_U] [.int v2] _
  refine pv_istore_n (M := mX7_readCondition) 2 (lo2 := [.ref 86, .int 3, .int v2, pv_U]) dX7_readCondition_7 8 rfl rfl (by decide) rfl rfl ?_
  refine pv_iconst (M := mX7_readCondition) (v := 0) dX7_readCondition_8 9 rfl (by decide) ?_
  refine pv_istore_n (M := mX7_readCondition) 3 (lo2 := [.ref 86, .int 3, .int v2, .int 0]) dX7_readCondition_9 10 rfl rfl (by decide) rfl rfl ?_
  have lp9 : ∀ (fuel8 : Nat) (y3 : Int32) (m4 : Nat → Nat → Int32) (n5 : Nat → Nat → Int64), (0 ≤ y3.toInt) → (y3.toInt ≤ 160) → ((m 86 3).toInt ≤ (m4 86 3).toInt) → ((m4 86 3).toInt ≤ (m4 86 2).toInt) → ((m4 86 2).toInt = (m 86 2).toInt) → IV BB m4 → fr (wl [(77, 96, none)]) m m4 → ((160 - y3.toInt) : Int).toNat < fuel8 → PV none g mX7_readCondition (sqI T BB (wl [(77, 96, none)]) r m 0 1 (fun m' v => (m 86 3).toInt ≤ (m' 86 3).toInt ∧ (m' 86 3).toInt ≤ (m' 86 2).toInt ∧ (m' 86 2).toInt = (m 86 2).toInt)) 19 0 0 10 [.ref 86, .int 3, .int v2, .int y3] [] (mk T m4 n5 r) := by
    intro fuel8
    induction fuel8 with
    | zero => intro y3 m4 n5 b11 b12 b13 b14 b15 I6 K7 z16; omega
    | succ fuel8 ih10 =>
      intro y3 m4 n5 b11 b12 b13 b14 b15 I6 K7 z16
      have z17 : 0 ≤ (m4 86 3).toInt ∧ (m4 86 3).toInt ≤ 160 := I6 86 3
      have z18 : 0 ≤ (m4 86 2).toInt ∧ (m4 86 2).toInt ≤ 160 := I6 86 2
      refine pv_iload_n (M := mX7_readCondition) 3 dX7_readCondition_10 11 rfl rfl rfl ?_
      refine pv_sipush (M := mX7_readCondition) (v := 160) dX7_readCondition_11 14 rfl (by decide) ?_
      refine pv_icmp_ge (M := mX7_readCondition) (tgt := 65) dX7_readCondition_14 17 rfl (by decide) (fun c19 => ?_) (fun c19 => ?_)
      · have c19 := iv_le (X := 160) (Y := y3.toInt) c19 (by decide) rfl
        refine pv_aload_n (M := mX7_readCondition) 0 dX7_readCondition_65 66 rfl rfl rfl ?_
        refine mv_get (M := mX7_readCondition) (v := .ref lb) dX7_readCondition_66 FX7 1 wd281 (by decide) (tl86 hT) rfl R.2.2.2.1 69 rfl ?_
        refine pv_bipush (M := mX7_readCondition) (v := 124) dX7_readCondition_69 71 rfl (by decide) ?_
        refine pv_iload_n (M := mX7_readCondition) 2 dX7_readCondition_71 72 rfl rfl rfl ?_
        refine pv_callv (M := mX7_readCondition) (as := [.int 124, .int v2]) (st := []) (kc2 := 0) (ks2 := 0) dX7_readCondition_72 wd678 YX6_aimLeaps ⟨wd679, wd680⟩ (mk_get R.2.2.2.2.2.2.1) rfl rfl (s_X6_aimLeaps g hT I6 lb R.2.2.2.2.2 124 v2) rfl rfl (Nat.le_of_ble_eq_true rfl) (by decide) rfl rfl 75 rfl (fun rv h1 q20 => ?_)
        obtain ⟨m21, n22, rfl, rfl, I23, K24, rm21⟩ := q20
        have K24c := K24
        have w25 : (m21 86 3).toInt = (m4 86 3).toInt := congrArg Int32.toInt (K24 86 3 (wr_out (by omega)))
        have w26 : (m21 86 2).toInt = (m4 86 2).toInt := congrArg Int32.toInt (K24 86 2 (wr_out (by omega)))
        have K24 := K7.trans (K24.sub (wr_wr (by omega) (by omega)))
        show PV _ _ _ _ _ _ _ 75 [.ref 86, .int 3, .int v2, .int y3] [] _
        refine pv_iconst (M := mX7_readCondition) (v := 1) dX7_readCondition_75 76 rfl (by decide) ?_
        have z27 : (1 : Int32).toInt = 1 := by decide
        exact pv_iret (M := mX7_readCondition) dX7_readCondition_76 rfl rfl ⟨_, _, _, rfl, rfl, I23, K24, by decide, by decide, (by refine ⟨?_, ?_, ?_⟩ <;> omega)⟩
      · have c19 := iv_nle (X := 160) (Y := y3.toInt) c19 (by decide) rfl
        refine pv_aload_n (M := mX7_readCondition) 0 dX7_readCondition_17 18 rfl rfl rfl ?_
        refine pv_iload_n (M := mX7_readCondition) 1 dX7_readCondition_18 19 rfl rfl rfl ?_
        have z28 : (3 : Int32).toInt = 3 := by decide
        refine pv_callv (M := mX7_readCondition) (as := [.int 3]) (st := []) (kc2 := 0) (ks2 := 0) dX7_readCondition_19 wd670 YX7_readPart ⟨wd672, wd13⟩ (mk_get (tl86 hT)) rfl rfl (s_X7_readPart_v3 g hT I6 R (by first | omega | assumption | exact (iv_rng _).2 | exact (iv_rng _).1 | decide)) rfl rfl (Nat.le_of_ble_eq_true rfl) (by decide) rfl rfl 22 rfl (fun rv h1 q29 => ?_)
        obtain ⟨m30, n31, v34, rfl, rfl, I32, K33, pv34, qv34, rv34⟩ := q29
        replace rv34 : (m4 86 3).toInt ≤ (m30 86 3).toInt ∧ (m30 86 3).toInt ≤ (m30 86 2).toInt ∧ (m30 86 2).toInt = (m4 86 2).toInt := rv34
        have K33c := K33
        have K33 := K7.trans (K33.sub (fun _ _ q => q))
        show PV _ _ _ _ _ _ _ 22 [.ref 86, .int 3, .int v2, .int y3] [.int v34] _
        refine pv_if_ne (M := mX7_readCondition) (tgt := 27) dX7_readCondition_22 25 rfl (by decide) (fun c35 => ?_) (fun c35 => ?_)
        · have c35 := iv_ne (X := v34.toInt) (Y := 0) c35 rfl (by decide)
          refine pv_aload_n (M := mX7_readCondition) 0 dX7_readCondition_27 28 rfl rfl rfl ?_
          refine pv_callv (M := mX7_readCondition) (as := []) (st := []) (kc2 := 0) (ks2 := 0) dX7_readCondition_28 wd527 YX7_peek ⟨wd529, wd2⟩ (mk_get (tl86 hT)) rfl rfl (s_X7_peek g hT I32 R) rfl rfl (Nat.le_of_ble_eq_true rfl) (by decide) rfl rfl 31 rfl (fun rv h1 q36 => ?_)
          obtain ⟨v37, rfl, rfl, pv37, qv37, rv37⟩ := q36
          replace rv37 : v37.toInt = -1 ∨ (m30 86 3).toInt < (m30 86 2).toInt := rv37
          show PV _ _ _ _ _ _ _ 31 [.ref 86, .int 3, .int v2, .int y3] [.int v37] _
          refine pv_bipush (M := mX7_readCondition) (v := 124) dX7_readCondition_31 33 rfl (by decide) ?_
          refine pv_icmp_eq (M := mX7_readCondition) (tgt := 39) dX7_readCondition_33 36 rfl (by decide) (fun c38 => ?_) (fun c38 => ?_)
          · have c38 := iv_eq (X := v37.toInt) (Y := 124) c38 rfl (by decide)
            refine pv_aload_n (M := mX7_readCondition) 0 dX7_readCondition_39 40 rfl rfl rfl ?_
            refine mv_get (M := mX7_readCondition) (v := .ref lb) dX7_readCondition_40 FX7 1 wd281 (by decide) (tl86 hT) rfl R.2.2.2.1 43 rfl ?_
            refine pv_bipush (M := mX7_readCondition) (v := 124) dX7_readCondition_43 45 rfl (by decide) ?_
            refine pv_iconst (M := mX7_readCondition) (v := (-1)) dX7_readCondition_45 46 rfl (by decide) ?_
            refine pv_callv (M := mX7_readCondition) (as := [.int 124, .int (-1)]) (st := []) (kc2 := 0) (ks2 := 0) dX7_readCondition_46 wd567 YX6_emit ⟨wd568, wd569⟩ (mk_get R.2.2.2.2.2.2.1) rfl rfl (s_X6_emit g hT I32 lb R.2.2.2.2.2 124 (-1) (by decide) (by decide)) rfl rfl (Nat.le_of_ble_eq_true rfl) (by decide) rfl rfl 49 rfl (fun rv h1 q39 => ?_)
            obtain ⟨m40, n41, rfl, rfl, I42, K43, rm40⟩ := q39
            have K43c := K43
            have w44 : (m40 86 3).toInt = (m30 86 3).toInt := congrArg Int32.toInt (K43 86 3 (wr_out (by omega)))
            have w45 : (m40 86 2).toInt = (m30 86 2).toInt := congrArg Int32.toInt (K43 86 2 (wr_out (by omega)))
            have K43 := K33.trans (K43.sub (wr_wr (by omega) (by omega)))
            show PV _ _ _ _ _ _ _ 49 [.ref 86, .int 3, .int v2, .int y3] [] _
            refine pv_aload_n (M := mX7_readCondition) 0 dX7_readCondition_49 50 rfl rfl rfl ?_
            refine pv_dup (M := mX7_readCondition) dX7_readCondition_50 51 rfl rfl ?_
            refine iv_get (M := mX7_readCondition) (l1 := 0) (l2 := 160) dX7_readCondition_51 FX7 3 wd283 (by decide) (tl86 hT) rfl I42 rfl 54 rfl (fun v46 ev46 pv46 qv46 => ?_)
            have wv46 : v46.toInt = (m40 86 3).toInt := congrArg Int32.toInt ev46
            refine pv_iconst (M := mX7_readCondition) (v := 1) dX7_readCondition_54 55 rfl (by decide) ?_
            refine iv_iadd (M := mX7_readCondition) (X := v46.toInt) (Y := 1) dX7_readCondition_55 56 rfl rfl (by decide) (by omega) (by omega) (fun v47 ev47 => ?_)
            refine iv_put (M := mX7_readCondition) (l1 := 0) (l2 := 160) dX7_readCondition_56 FX7 3 wd283 (by decide) rfl (tl86 hT) rfl rfl rfl I42 rfl (by omega) (by omega) 59 rfl (fun m48 e51 I49 => ?_)
            have K50 := K43.set e51 (wl_r (by omega) (by omega))
            have w52 : (m48 86 3).toInt = v47.toInt := by rw [e51, up2_eq]
            have w53 : (m48 86 2).toInt = (m40 86 2).toInt := by rw [e51, up2_ne (by omega)]
            refine iv_inc (M := mX7_readCondition) (C := 1) dX7_readCondition_59 62 rfl rfl (by decide) rfl rfl (by decide) (by omega) (by omega) (fun v54 ev54 => ?_)
            show PV _ _ _ _ _ _ _ 62 [.ref 86, .int 3, .int v2, .int v54] [] _
            refine pv_goto (M := mX7_readCondition) (tgt := 10) dX7_readCondition_62 (by decide) ?_
            exact ih10 v54 m48 n41 (by first | omega | assumption | exact (iv_rng _).2 | exact (iv_rng _).1 | decide) (by first | omega | assumption | exact (iv_rng _).2 | exact (iv_rng _).1 | decide) (by first | omega | assumption | (show (m 86 3).toInt ≤ (m48 86 3).toInt; omega) | decide) (by first | omega | assumption | (show (m48 86 3).toInt ≤ (m48 86 2).toInt; omega) | decide) (by first | omega | assumption | (show (m48 86 2).toInt = (m 86 2).toInt; omega) | decide) I49 K50 (by omega)
          · have c38 := iv_ne (X := v37.toInt) (Y := 124) c38 rfl (by decide)
            refine pv_goto (M := mX7_readCondition) (tgt := 65) dX7_readCondition_36 (by decide) ?_
            refine pv_aload_n (M := mX7_readCondition) 0 dX7_readCondition_65 66 rfl rfl rfl ?_
            refine mv_get (M := mX7_readCondition) (v := .ref lb) dX7_readCondition_66 FX7 1 wd281 (by decide) (tl86 hT) rfl R.2.2.2.1 69 rfl ?_
            refine pv_bipush (M := mX7_readCondition) (v := 124) dX7_readCondition_69 71 rfl (by decide) ?_
            refine pv_iload_n (M := mX7_readCondition) 2 dX7_readCondition_71 72 rfl rfl rfl ?_
            refine pv_callv (M := mX7_readCondition) (as := [.int 124, .int v2]) (st := []) (kc2 := 0) (ks2 := 0) dX7_readCondition_72 wd678 YX6_aimLeaps ⟨wd679, wd680⟩ (mk_get R.2.2.2.2.2.2.1) rfl rfl (s_X6_aimLeaps g hT I32 lb R.2.2.2.2.2 124 v2) rfl rfl (Nat.le_of_ble_eq_true rfl) (by decide) rfl rfl 75 rfl (fun rv h1 q55 => ?_)
            obtain ⟨m56, n57, rfl, rfl, I58, K59, rm56⟩ := q55
            have K59c := K59
            have w60 : (m56 86 3).toInt = (m30 86 3).toInt := congrArg Int32.toInt (K59 86 3 (wr_out (by omega)))
            have w61 : (m56 86 2).toInt = (m30 86 2).toInt := congrArg Int32.toInt (K59 86 2 (wr_out (by omega)))
            have K59 := K33.trans (K59.sub (wr_wr (by omega) (by omega)))
            show PV _ _ _ _ _ _ _ 75 [.ref 86, .int 3, .int v2, .int y3] [] _
            refine pv_iconst (M := mX7_readCondition) (v := 1) dX7_readCondition_75 76 rfl (by decide) ?_
            have z62 : (1 : Int32).toInt = 1 := by decide
            exact pv_iret (M := mX7_readCondition) dX7_readCondition_76 rfl rfl ⟨_, _, _, rfl, rfl, I58, K59, by decide, by decide, (by refine ⟨?_, ?_, ?_⟩ <;> omega)⟩
        · have c35 := iv_eq (X := v34.toInt) (Y := 0) c35 rfl (by decide)
          refine pv_iconst (M := mX7_readCondition) (v := 0) dX7_readCondition_25 26 rfl (by decide) ?_
          have z63 : (0 : Int32).toInt = 0 := by decide
          exact pv_iret (M := mX7_readCondition) dX7_readCondition_26 rfl rfl ⟨_, _, _, rfl, rfl, I32, K33, by decide, by decide, (by refine ⟨?_, ?_, ?_⟩ <;> omega)⟩
  have z64 : (0 : Int32).toInt = 0 := by decide
  exact lp9 (((160 - 0) : Int).toNat + 1) 0 m n (by first | omega | assumption | exact (iv_rng _).2 | exact (iv_rng _).1 | decide) (by first | omega | assumption | exact (iv_rng _).2 | exact (iv_rng _).1 | decide) (by first | omega | assumption | (show (m 86 3).toInt ≤ (m 86 3).toInt; omega) | decide) (by first | omega | assumption | (show (m 86 3).toInt ≤ (m 86 2).toInt; omega) | decide) (by first | omega | assumption | (show (m 86 2).toInt = (m 86 2).toInt; omega) | decide) I Kp (by omega)

set_option maxHeartbeats 2000000 in
set_option maxRecDepth 20000 in
theorem s_X7_readFactor_v2 (g : pv_G) {T : List mv_T} {m : Nat → Nat → Int32} {n : Nat → Nat → Int64} {r : Nat → Value} {la lb : Nat} (hT : TX T) (I : IV BB m) (R : RX T r la lb) (hp0 : (m 86 3).toInt ≤ (m 86 2).toInt) : PM g mX7_readFactor yX7_readFactor (sqI T BB (wl [(77, 96, none)]) r m 0 1 (fun m' v => (m 86 3).toInt ≤ (m' 86 3).toInt ∧ (m' 86 3).toInt ≤ (m' 86 2).toInt ∧ (m' 86 2).toInt = (m 86 2).toInt)) 17 0 0 [.ref 86, .int 2] (mk T m n r) := by
  have Kp : fr (wl [(77, 96, none)]) m m := fr.rf
  have R0 := R
  have zR := R.2.2.2.2.1.1
  have zR2 := R.2.2.2.2.2.1
  have z82 : 0 ≤ (m 86 3).toInt ∧ (m 86 3).toInt ≤ 160 := I 86 3
  have z83 : 0 ≤ (m 86 2).toInt ∧ (m 86 2).toInt ≤ 160 := I 86 2
  refine PM.of 1 (lo := [.ref 86, .int 2, pv_U]) rfl (by decide) rfl rfl (Nat.le_of_ble_eq_true rfl) ?_
  refine pv_aload_n (M := mX7_readFactor) 0 dX7_readFactor_0 1 rfl rfl rfl ?_
  refine pv_callv (M := mX7_readFactor) (as := []) (st := []) (kc2 := 0) (ks2 := 0) dX7_readFactor_1 wd527 YX7_peek ⟨wd529, wd2⟩ (mk_get (tl86 hT)) rfl rfl (s_X7_peek g hT I R) rfl rfl (Nat.le_of_ble_eq_true rfl) (by decide) rfl rfl 4 rfl (fun rv h1 q1 => ?_)
  obtain ⟨v2, rfl, rfl, pv2, qv2, rv2⟩ := q1
  replace rv2 : v2.toInt = -1 ∨ (m 86 3).toInt < (m 86 2).toInt := rv2
  show PV _ _ _ _ _ _ _ 4 [.ref 86, .int 2, pv_U] [.int v2] _
  refine pv_bipush (M := mX7_readFactor) (v := 91) dX7_readFactor_4 6 rfl (by decide) ?_
  refine pv_icmp_ne (M := mX7_readFactor) (tgt := 42) dX7_readFactor_6 9 rfl (by decide) (fun c3 => ?_) (fun c3 => ?_)
  · have c3 := iv_ne (X := v2.toInt) (Y := 91) c3 rfl (by decide)
    refine pv_aload_n (M := mX7_readFactor) 0 dX7_readFactor_42 43 rfl rfl rfl ?_
    refine pv_callv (M := mX7_readFactor) (as := []) (st := []) (kc2 := 0) (ks2 := 0) dX7_readFactor_43 wd559 YX7_digitAhead ⟨wd561, wd9⟩ (mk_get (tl86 hT)) rfl rfl (s_X7_digitAhead g hT I R) rfl rfl (Nat.le_of_ble_eq_true rfl) (by decide) rfl rfl 46 rfl (fun rv h1 q4 => ?_)
    obtain ⟨v5, rfl, rfl, pv5, qv5, rv5⟩ := q4
    replace rv5 : v5 = 0 ∨ ((m 86 3).toInt < (m 86 2).toInt ∧ 48 ≤ (m 87 (m 86 3).toInt.toNat).toInt ∧ (m 87 (m 86 3).toInt.toNat).toInt ≤ 57) := rv5
    show PV _ _ _ _ _ _ _ 46 [.ref 86, .int 2, pv_U] [.int v5] _
    refine pv_if_eq (M := mX7_readFactor) (tgt := 54) dX7_readFactor_46 49 rfl (by decide) (fun c6 => ?_) (fun c6 => ?_)
    · have c6 := iv_eq (X := v5.toInt) (Y := 0) c6 rfl (by decide)
      refine pv_aload_n (M := mX7_readFactor) 0 dX7_readFactor_54 55 rfl rfl rfl ?_
      refine pv_callv (M := mX7_readFactor) (as := []) (st := []) (kc2 := 0) (ks2 := 0) dX7_readFactor_55 wd527 YX7_peek ⟨wd529, wd2⟩ (mk_get (tl86 hT)) rfl rfl (s_X7_peek g hT I R) rfl rfl (Nat.le_of_ble_eq_true rfl) (by decide) rfl rfl 58 rfl (fun rv h1 q7 => ?_)
      obtain ⟨v8, rfl, rfl, pv8, qv8, rv8⟩ := q7
      replace rv8 : v8.toInt = -1 ∨ (m 86 3).toInt < (m 86 2).toInt := rv8
      show PV _ _ _ _ _ _ _ 58 [.ref 86, .int 2, pv_U] [.int v8] _
      refine pv_iconst (M := mX7_readFactor) (v := (-1)) dX7_readFactor_58 59 rfl (by decide) ?_
      refine pv_icmp_ne (M := mX7_readFactor) (tgt := 66) dX7_readFactor_59 62 rfl (by decide) (fun c9 => ?_) (fun c9 => ?_)
      · have c9 := iv_ne (X := v8.toInt) (Y := (-1)) c9 rfl (by decide)
        refine pv_ldcS (M := mX7_readFactor) dX7_readFactor_66 rfl 68 rfl ?_
        refine pv_aload_n (M := mX7_readFactor) 0 dX7_readFactor_68 69 rfl rfl rfl ?_
        refine pv_callv (M := mX7_readFactor) (as := []) (st := [.retAddr (g.2.2.1 6 + 1)]) (kc2 := 0) (ks2 := 0) dX7_readFactor_69 wd527 YX7_peek ⟨wd529, wd2⟩ (mk_get (tl86 hT)) rfl rfl (s_X7_peek g hT I R) rfl rfl (Nat.le_of_ble_eq_true rfl) (by decide) rfl rfl 72 rfl (fun rv h1 q10 => ?_)
        obtain ⟨v11, rfl, rfl, pv11, qv11, rv11⟩ := q10
        replace rv11 : v11.toInt = -1 ∨ (m 86 3).toInt < (m 86 2).toInt := rv11
        show PV _ _ _ _ _ _ _ 72 [.ref 86, .int 2, pv_U] [.int v11, .retAddr (g.2.2.1 6 + 1)] _
        refine iv_i2cU (M := mX7_readFactor) dX7_readFactor_72 73 rfl (fun v12 ev12 => ?_)
        refine pv_callvS (M := mX7_readFactor) (as := [.int v12]) (st := []) (kc2 := 0) (ks2 := 0) dX7_readFactor_73 wd572 YJ0_indexOf_0f7a4 ⟨wd573, wd574⟩ rfl (s_J0_indexOf_0f7a4 g hT I v12) rfl rfl (Nat.le_of_ble_eq_true rfl) (by decide) rfl rfl 76 rfl (fun rv h1 q13 => ?_)
        obtain ⟨v14, rfl, rfl, pv14, qv14, rv14⟩ := q13
        show PV _ _ _ _ _ _ _ 76 [.ref 86, .int 2, pv_U] [.int v14] _
        refine pv_istore_n (M := mX7_readFactor) 2 (lo2 := [.ref 86, .int 2, .int v14]) dX7_readFactor_76 77 rfl rfl (by decide) rfl rfl ?_
        refine pv_iload_n (M := mX7_readFactor) 2 dX7_readFactor_77 78 rfl rfl rfl ?_
        refine pv_if_ge (M := mX7_readFactor) (tgt := 87) dX7_readFactor_78 81 rfl (by decide) (fun c15 => ?_) (fun c15 => ?_)
        · have c15 := iv_le (X := 0) (Y := v14.toInt) c15 (by decide) rfl
          refine pv_aload_n (M := mX7_readFactor) 0 dX7_readFactor_87 88 rfl rfl rfl ?_
          refine mv_get (M := mX7_readFactor) (v := .ref lb) dX7_readFactor_88 FX7 1 wd281 (by decide) (tl86 hT) rfl R.2.2.2.1 91 rfl ?_
          refine pv_bipush (M := mX7_readFactor) (v := 36) dX7_readFactor_91 93 rfl (by decide) ?_
          refine pv_iload_n (M := mX7_readFactor) 2 dX7_readFactor_93 94 rfl rfl rfl ?_
          refine pv_callv (M := mX7_readFactor) (as := [.int 36, .int v14]) (st := []) (kc2 := 0) (ks2 := 0) dX7_readFactor_94 wd567 YX6_emit ⟨wd568, wd569⟩ (mk_get R.2.2.2.2.2.2.1) rfl rfl (s_X6_emit g hT I lb R.2.2.2.2.2 36 v14 (by omega) (by omega)) rfl rfl (Nat.le_of_ble_eq_true rfl) (by decide) rfl rfl 97 rfl (fun rv h1 q16 => ?_)
          obtain ⟨m17, n18, rfl, rfl, I19, K20, rm17⟩ := q16
          have K20c := K20
          have w21 : (m17 86 3).toInt = (m 86 3).toInt := congrArg Int32.toInt (K20 86 3 (wr_out (by omega)))
          have w22 : (m17 86 2).toInt = (m 86 2).toInt := congrArg Int32.toInt (K20 86 2 (wr_out (by omega)))
          have K20 := Kp.trans (K20.sub (wr_wr (by omega) (by omega)))
          show PV _ _ _ _ _ _ _ 97 [.ref 86, .int 2, .int v14] [] _
          refine pv_aload_n (M := mX7_readFactor) 0 dX7_readFactor_97 98 rfl rfl rfl ?_
          refine pv_dup (M := mX7_readFactor) dX7_readFactor_98 99 rfl rfl ?_
          refine iv_get (M := mX7_readFactor) (l1 := 0) (l2 := 160) dX7_readFactor_99 FX7 3 wd283 (by decide) (tl86 hT) rfl I19 rfl 102 rfl (fun v23 ev23 pv23 qv23 => ?_)
          have wv23 : v23.toInt = (m17 86 3).toInt := congrArg Int32.toInt ev23
          refine pv_iconst (M := mX7_readFactor) (v := 1) dX7_readFactor_102 103 rfl (by decide) ?_
          refine iv_iadd (M := mX7_readFactor) (X := v23.toInt) (Y := 1) dX7_readFactor_103 104 rfl rfl (by decide) (by omega) (by omega) (fun v24 ev24 => ?_)
          refine iv_put (M := mX7_readFactor) (l1 := 0) (l2 := 160) dX7_readFactor_104 FX7 3 wd283 (by decide) rfl (tl86 hT) rfl rfl rfl I19 rfl (by omega) (by omega) 107 rfl (fun m25 e28 I26 => ?_)
          have K27 := K20.set e28 (wl_r (by omega) (by omega))
          have w29 : (m25 86 3).toInt = v24.toInt := by rw [e28, up2_eq]
          have w30 : (m25 86 2).toInt = (m17 86 2).toInt := by rw [e28, up2_ne (by omega)]
          refine pv_iconst (M := mX7_readFactor) (v := 1) dX7_readFactor_107 108 rfl (by decide) ?_
          have z31 : (1 : Int32).toInt = 1 := by decide
          exact pv_iret (M := mX7_readFactor) dX7_readFactor_108 rfl rfl ⟨_, _, _, rfl, rfl, I26, K27, by decide, by decide, (by refine ⟨?_, ?_, ?_⟩ <;> omega)⟩
        · have c15 := iv_nle (X := 0) (Y := v14.toInt) c15 (by decide) rfl
          refine pv_aload_n (M := mX7_readFactor) 0 dX7_readFactor_81 82 rfl rfl rfl ?_
          refine pv_iconst (M := mX7_readFactor) (v := 1) dX7_readFactor_82 83 rfl (by decide) ?_
          have z32 : (1 : Int32).toInt = 1 := by decide
          refine pv_callv (M := mX7_readFactor) (as := [.int 1]) (st := []) (kc2 := 0) (ks2 := 0) dX7_readFactor_83 wd531 YX7_fail ⟨wd533, wd3⟩ (mk_get (tl86 hT)) rfl rfl (s_X7_fail g hT I R 1 (by first | omega | assumption | exact (iv_rng _).2 | exact (iv_rng _).1 | decide)) rfl rfl (Nat.le_of_ble_eq_true rfl) (by decide) rfl rfl 86 rfl (fun rv h1 q33 => ?_)
          obtain ⟨m34, n35, v38, rfl, rfl, I36, K37, pv38, qv38, rv38⟩ := q33
          replace rv38 : v38.toInt = 0 ∧ (m 86 3).toInt ≤ (m34 86 3).toInt ∧ (m34 86 3).toInt ≤ (m34 86 2).toInt ∧ (m34 86 2).toInt = (m 86 2).toInt := rv38
          have K37c := K37
          have K37 := Kp.trans (K37.sub (fun _ _ q => q))
          show PV _ _ _ _ _ _ _ 86 [.ref 86, .int 2, .int v14] [.int v38] _
          exact pv_iret (M := mX7_readFactor) dX7_readFactor_86 rfl (iv_nz (by omega) (by omega)) ⟨_, _, _, rfl, rfl, I36, K37, by omega, by omega, (by refine ⟨?_, ?_, ?_⟩ <;> omega)⟩
      · have c9 := iv_eq (X := v8.toInt) (Y := (-1)) c9 rfl (by decide)
        refine pv_iconst (M := mX7_readFactor) (v := (-1)) dX7_readFactor_62 63 rfl (by decide) ?_
        refine pv_goto (M := mX7_readFactor) (tgt := 76) dX7_readFactor_63 (by decide) ?_
        refine pv_istore_n (M := mX7_readFactor) 2 (lo2 := [.ref 86, .int 2, .int (-1)]) dX7_readFactor_76 77 rfl rfl (by decide) rfl rfl ?_
        refine pv_iload_n (M := mX7_readFactor) 2 dX7_readFactor_77 78 rfl rfl rfl ?_
        refine pv_if_ge (M := mX7_readFactor) (tgt := 87) dX7_readFactor_78 81 rfl (by decide) (fun q => absurd q (by decide)) (fun _ => ?_)
        refine pv_aload_n (M := mX7_readFactor) 0 dX7_readFactor_81 82 rfl rfl rfl ?_
        refine pv_iconst (M := mX7_readFactor) (v := 1) dX7_readFactor_82 83 rfl (by decide) ?_
        have z40 : (1 : Int32).toInt = 1 := by decide
        refine pv_callv (M := mX7_readFactor) (as := [.int 1]) (st := []) (kc2 := 0) (ks2 := 0) dX7_readFactor_83 wd531 YX7_fail ⟨wd533, wd3⟩ (mk_get (tl86 hT)) rfl rfl (s_X7_fail g hT I R 1 (by first | omega | assumption | exact (iv_rng _).2 | exact (iv_rng _).1 | decide)) rfl rfl (Nat.le_of_ble_eq_true rfl) (by decide) rfl rfl 86 rfl (fun rv h1 q41 => ?_)
        obtain ⟨m42, n43, v46, rfl, rfl, I44, K45, pv46, qv46, rv46⟩ := q41
        replace rv46 : v46.toInt = 0 ∧ (m 86 3).toInt ≤ (m42 86 3).toInt ∧ (m42 86 3).toInt ≤ (m42 86 2).toInt ∧ (m42 86 2).toInt = (m 86 2).toInt := rv46
        have K45c := K45
        have K45 := Kp.trans (K45.sub (fun _ _ q => q))
        show PV _ _ _ _ _ _ _ 86 [.ref 86, .int 2, .int (-1)] [.int v46] _
        exact pv_iret (M := mX7_readFactor) dX7_readFactor_86 rfl (iv_nz (by omega) (by omega)) ⟨_, _, _, rfl, rfl, I44, K45, by omega, by omega, (by refine ⟨?_, ?_, ?_⟩ <;> omega)⟩
    · have pc6 := rv5.resolve_left c6
      have c6 := iv_ne (X := v5.toInt) (Y := 0) c6 rfl (by decide)
      refine pv_aload_n (M := mX7_readFactor) 0 dX7_readFactor_49 50 rfl rfl rfl ?_
      refine pv_callv (M := mX7_readFactor) (as := []) (st := []) (kc2 := 0) (ks2 := 0) dX7_readFactor_50 wd563 YX7_readNumber ⟨wd565, wd10⟩ (mk_get (tl86 hT)) rfl rfl (s_X7_readNumber g hT I R (by first | omega | assumption | exact (iv_rng _).2 | exact (iv_rng _).1 | decide)) rfl rfl (Nat.le_of_ble_eq_true rfl) (by decide) rfl rfl 53 rfl (fun rv h1 q47 => ?_)
      obtain ⟨m48, n49, v52, rfl, rfl, I50, K51, pv52, qv52, rv52⟩ := q47
      replace rv52 : (m 86 3).toInt ≤ (m48 86 3).toInt ∧ (m48 86 3).toInt ≤ (m48 86 2).toInt ∧ (m48 86 2).toInt = (m 86 2).toInt := rv52
      have K51c := K51
      have K51 := Kp.trans (K51.sub (fun _ _ q => q))
      show PV _ _ _ _ _ _ _ 53 [.ref 86, .int 2, pv_U] [.int v52] _
      exact pv_iret (M := mX7_readFactor) dX7_readFactor_53 rfl (iv_nz (by omega) (by omega)) ⟨_, _, _, rfl, rfl, I50, K51, by omega, by omega, (by refine ⟨?_, ?_, ?_⟩ <;> omega)⟩
  · have c3 := iv_eq (X := v2.toInt) (Y := 91) c3 rfl (by decide)
    refine pv_aload_n (M := mX7_readFactor) 0 dX7_readFactor_9 10 rfl rfl rfl ?_
    refine pv_iload_n (M := mX7_readFactor) 1 dX7_readFactor_10 11 rfl rfl rfl ?_
    have z53 : (2 : Int32).toInt = 2 := by decide
    refine pv_callv (M := mX7_readFactor) (as := [.int 2]) (st := []) (kc2 := 0) (ks2 := 0) dX7_readFactor_11 wd551 YX7_open ⟨wd553, wd7⟩ (mk_get (tl86 hT)) rfl rfl (s_X7_open g hT I R 2 (by first | omega | assumption | exact (iv_rng _).2 | exact (iv_rng _).1 | decide)) rfl rfl (Nat.le_of_ble_eq_true rfl) (by decide) rfl rfl 14 rfl (fun rv h1 q54 => ?_)
    obtain ⟨m55, n56, v59, rfl, rfl, I57, K58, pv59, qv59, rv59⟩ := q54
    replace rv59 : (v59 = 0 ∨ (2 : Int) ≤ 5) ∧ (m 86 3).toInt ≤ (m55 86 3).toInt ∧ (m55 86 3).toInt ≤ (m55 86 2).toInt ∧ (m55 86 2).toInt = (m 86 2).toInt := by have q_ := rv59; (try rw [z53] at q_); exact q_
    have K58c := K58
    have K58 := Kp.trans (K58.sub (fun _ _ q => q))
    show PV _ _ _ _ _ _ _ 14 [.ref 86, .int 2, pv_U] [.int v59] _
    refine pv_if_eq (M := mX7_readFactor) (tgt := 40) dX7_readFactor_14 17 rfl (by decide) (fun c60 => ?_) (fun c60 => ?_)
    · have c60 := iv_eq (X := v59.toInt) (Y := 0) c60 rfl (by decide)
      refine pv_iconst (M := mX7_readFactor) (v := 0) dX7_readFactor_40 41 rfl (by decide) ?_
      have z61 : (0 : Int32).toInt = 0 := by decide
      exact pv_iret (M := mX7_readFactor) dX7_readFactor_41 rfl rfl ⟨_, _, _, rfl, rfl, I57, K58, by decide, by decide, (by refine ⟨?_, ?_, ?_⟩ <;> omega)⟩
    · have pc60 := rv59.1.resolve_left c60
      have c60 := iv_ne (X := v59.toInt) (Y := 0) c60 rfl (by decide)
      refine pv_aload_n (M := mX7_readFactor) 0 dX7_readFactor_17 18 rfl rfl rfl ?_
      refine pv_iload_n (M := mX7_readFactor) 1 dX7_readFactor_18 19 rfl rfl rfl ?_
      refine pv_iconst (M := mX7_readFactor) (v := 1) dX7_readFactor_19 20 rfl (by decide) ?_
      refine pv_iadd (M := mX7_readFactor) (v := 3) dX7_readFactor_20 21 rfl (by decide) ?_
      have z63 : (3 : Int32).toInt = 3 := by decide
      refine pv_callv (M := mX7_readFactor) (as := [.int 3]) (st := []) (kc2 := 0) (ks2 := 0) dX7_readFactor_21 wd539 YX7_readSum ⟨wd541, wd4⟩ (mk_get (tl86 hT)) rfl rfl (s_X7_readSum_v3 g hT I57 R (by first | omega | assumption | exact (iv_rng _).2 | exact (iv_rng _).1 | decide)) rfl rfl (Nat.le_of_ble_eq_true rfl) (by decide) rfl rfl 24 rfl (fun rv h1 q64 => ?_)
      obtain ⟨m65, n66, v69, rfl, rfl, I67, K68, pv69, qv69, rv69⟩ := q64
      replace rv69 : (m55 86 3).toInt ≤ (m65 86 3).toInt ∧ (m65 86 3).toInt ≤ (m65 86 2).toInt ∧ (m65 86 2).toInt = (m55 86 2).toInt := rv69
      have K68c := K68
      have K68 := K58.trans (K68.sub (fun _ _ q => q))
      show PV _ _ _ _ _ _ _ 24 [.ref 86, .int 2, pv_U] [.int v69] _
      refine pv_if_eq (M := mX7_readFactor) (tgt := 40) dX7_readFactor_24 27 rfl (by decide) (fun c70 => ?_) (fun c70 => ?_)
      · have c70 := iv_eq (X := v69.toInt) (Y := 0) c70 rfl (by decide)
        refine pv_iconst (M := mX7_readFactor) (v := 0) dX7_readFactor_40 41 rfl (by decide) ?_
        have z71 : (0 : Int32).toInt = 0 := by decide
        exact pv_iret (M := mX7_readFactor) dX7_readFactor_41 rfl rfl ⟨_, _, _, rfl, rfl, I67, K68, by decide, by decide, (by refine ⟨?_, ?_, ?_⟩ <;> omega)⟩
      · have c70 := iv_ne (X := v69.toInt) (Y := 0) c70 rfl (by decide)
        refine pv_aload_n (M := mX7_readFactor) 0 dX7_readFactor_27 28 rfl rfl rfl ?_
        refine pv_bipush (M := mX7_readFactor) (v := 93) dX7_readFactor_28 30 rfl (by decide) ?_
        have z72 : (93 : Int32).toInt = 93 := by decide
        refine pv_callv (M := mX7_readFactor) (as := [.int 93]) (st := []) (kc2 := 0) (ks2 := 0) dX7_readFactor_30 wd555 YX7_pass ⟨wd557, wd8⟩ (mk_get (tl86 hT)) rfl rfl (s_X7_pass g hT I67 R 93 (by decide) (by decide) (by first | omega | assumption | exact (iv_rng _).2 | exact (iv_rng _).1 | decide)) rfl rfl (Nat.le_of_ble_eq_true rfl) (by decide) rfl rfl 33 rfl (fun rv h1 q73 => ?_)
        obtain ⟨m74, n75, v78, rfl, rfl, I76, K77, pv78, qv78, rv78⟩ := q73
        replace rv78 : (m65 86 3).toInt ≤ (m74 86 3).toInt ∧ (m74 86 3).toInt ≤ (m74 86 2).toInt ∧ (m74 86 2).toInt = (m65 86 2).toInt := rv78
        have K77c := K77
        have K77 := K68.trans (K77.sub (fun _ _ q => q))
        show PV _ _ _ _ _ _ _ 33 [.ref 86, .int 2, pv_U] [.int v78] _
        refine pv_if_eq (M := mX7_readFactor) (tgt := 40) dX7_readFactor_33 36 rfl (by decide) (fun c79 => ?_) (fun c79 => ?_)
        · have c79 := iv_eq (X := v78.toInt) (Y := 0) c79 rfl (by decide)
          refine pv_iconst (M := mX7_readFactor) (v := 0) dX7_readFactor_40 41 rfl (by decide) ?_
          have z80 : (0 : Int32).toInt = 0 := by decide
          exact pv_iret (M := mX7_readFactor) dX7_readFactor_41 rfl rfl ⟨_, _, _, rfl, rfl, I76, K77, by decide, by decide, (by refine ⟨?_, ?_, ?_⟩ <;> omega)⟩
        · have c79 := iv_ne (X := v78.toInt) (Y := 0) c79 rfl (by decide)
          refine pv_iconst (M := mX7_readFactor) (v := 1) dX7_readFactor_36 37 rfl (by decide) ?_
          refine pv_goto (M := mX7_readFactor) (tgt := 41) dX7_readFactor_37 (by decide) ?_
          have z81 : (1 : Int32).toInt = 1 := by decide
          exact pv_iret (M := mX7_readFactor) dX7_readFactor_41 rfl rfl ⟨_, _, _, rfl, rfl, I76, K77, by decide, by decide, (by refine ⟨?_, ?_, ?_⟩ <;> omega)⟩

set_option maxHeartbeats 2000000 in
set_option maxRecDepth 20000 in
theorem s_X7_readTerm_v2 (g : pv_G) {T : List mv_T} {m : Nat → Nat → Int32} {n : Nat → Nat → Int64} {r : Nat → Value} {la lb : Nat} (hT : TX T) (I : IV BB m) (R : RX T r la lb) (hp0 : (m 86 3).toInt ≤ (m 86 2).toInt) : PM g mX7_readTerm yX7_readTerm (sqI T BB (wl [(77, 96, none)]) r m 0 1 (fun m' v => (m 86 3).toInt ≤ (m' 86 3).toInt ∧ (m' 86 3).toInt ≤ (m' 86 2).toInt ∧ (m' 86 2).toInt = (m 86 2).toInt)) 18 0 0 [.ref 86, .int 2] (mk T m n r) := by
  have Kp : fr (wl [(77, 96, none)]) m m := fr.rf
  have R0 := R
  have zR := R.2.2.2.2.1.1
  have zR2 := R.2.2.2.2.2.1
  have z60 : 0 ≤ (m 86 3).toInt ∧ (m 86 3).toInt ≤ 160 := I 86 3
  have z61 : 0 ≤ (m 86 2).toInt ∧ (m 86 2).toInt ≤ 160 := I 86 2
  refine PM.of 2 (lo := [.ref 86, .int 2, pv_U, pv_U]) rfl (by decide) rfl rfl (Nat.le_of_ble_eq_true rfl) ?_
  refine pv_aload_n (M := mX7_readTerm) 0 dX7_readTerm_0 1 rfl rfl rfl ?_
  refine pv_iload_n (M := mX7_readTerm) 1 dX7_readTerm_1 2 rfl rfl rfl ?_
  have z1 : (2 : Int32).toInt = 2 := by decide
  refine pv_callv (M := mX7_readTerm) (as := [.int 2]) (st := []) (kc2 := 0) (ks2 := 0) dX7_readTerm_2 wd547 YX7_readFactor ⟨wd549, wd6⟩ (mk_get (tl86 hT)) rfl rfl (s_X7_readFactor_v2 g hT I R (by first | omega | assumption | exact (iv_rng _).2 | exact (iv_rng _).1 | decide)) rfl rfl (Nat.le_of_ble_eq_true rfl) (by decide) rfl rfl 5 rfl (fun rv h1 q2 => ?_)
  obtain ⟨m3, n4, v7, rfl, rfl, I5, K6, pv7, qv7, rv7⟩ := q2
  replace rv7 : (m 86 3).toInt ≤ (m3 86 3).toInt ∧ (m3 86 3).toInt ≤ (m3 86 2).toInt ∧ (m3 86 2).toInt = (m 86 2).toInt := rv7
  have K6c := K6
  have K6 := Kp.trans (K6.sub (fun _ _ q => q))
  show PV _ _ _ _ _ _ _ 5 [.ref 86, .int 2, pv_U, pv_U] [.int v7] _
  refine pv_if_ne (M := mX7_readTerm) (tgt := 10) dX7_readTerm_5 8 rfl (by decide) (fun c8 => ?_) (fun c8 => ?_)
  · have c8 := iv_ne (X := v7.toInt) (Y := 0) c8 rfl (by decide)
    refine pv_iconst (M := mX7_readTerm) (v := 0) dX7_readTerm_10 11 rfl (by decide) ?_
    refine pv_istore_n (M := mX7_readTerm) 2 (lo2 := [.ref 86, .int 2, .int 0, pv_U]) dX7_readTerm_11 12 rfl rfl (by decide) rfl rfl ?_
    have lp15 : ∀ (fuel14 : Nat) (y9 : Int32) (m10 : Nat → Nat → Int32) (n11 : Nat → Nat → Int64), (0 ≤ y9.toInt) → (y9.toInt ≤ 160) → ((m 86 3).toInt ≤ (m10 86 3).toInt) → ((m10 86 3).toInt ≤ (m10 86 2).toInt) → ((m10 86 2).toInt = (m 86 2).toInt) → IV BB m10 → fr (wl [(77, 96, none)]) m m10 → ((160 - y9.toInt) : Int).toNat < fuel14 → PV none g mX7_readTerm (sqI T BB (wl [(77, 96, none)]) r m 0 1 (fun m' v => (m 86 3).toInt ≤ (m' 86 3).toInt ∧ (m' 86 3).toInt ≤ (m' 86 2).toInt ∧ (m' 86 2).toInt = (m 86 2).toInt)) 18 0 0 12 [.ref 86, .int 2, .int y9, pv_U] [] (mk T m10 n11 r) := by
      intro fuel14
      induction fuel14 with
      | zero => intro y9 m10 n11 b17 b18 b19 b20 b21 I12 K13 z22; omega
      | succ fuel14 ih16 =>
        intro y9 m10 n11 b17 b18 b19 b20 b21 I12 K13 z22
        have z23 : 0 ≤ (m10 86 3).toInt ∧ (m10 86 3).toInt ≤ 160 := I12 86 3
        have z24 : 0 ≤ (m10 86 2).toInt ∧ (m10 86 2).toInt ≤ 160 := I12 86 2
        refine pv_iload_n (M := mX7_readTerm) 2 dX7_readTerm_12 13 rfl rfl rfl ?_
        refine pv_sipush (M := mX7_readTerm) (v := 160) dX7_readTerm_13 16 rfl (by decide) ?_
        refine pv_icmp_ge (M := mX7_readTerm) (tgt := 66) dX7_readTerm_16 19 rfl (by decide) (fun c25 => ?_) (fun c25 => ?_)
        · have c25 := iv_le (X := 160) (Y := y9.toInt) c25 (by decide) rfl
          refine pv_iconst (M := mX7_readTerm) (v := 1) dX7_readTerm_66 67 rfl (by decide) ?_
          have z26 : (1 : Int32).toInt = 1 := by decide
          exact pv_iret (M := mX7_readTerm) dX7_readTerm_67 rfl rfl ⟨_, _, _, rfl, rfl, I12, K13, by decide, by decide, (by refine ⟨?_, ?_, ?_⟩ <;> omega)⟩
        · have c25 := iv_nle (X := 160) (Y := y9.toInt) c25 (by decide) rfl
          refine pv_aload_n (M := mX7_readTerm) 0 dX7_readTerm_19 20 rfl rfl rfl ?_
          refine pv_callv (M := mX7_readTerm) (as := []) (st := []) (kc2 := 0) (ks2 := 0) dX7_readTerm_20 wd654 YX7_timesAhead ⟨wd656, wd11⟩ (mk_get (tl86 hT)) rfl rfl (s_X7_timesAhead g hT I12 R) rfl rfl (Nat.le_of_ble_eq_true rfl) (by decide) rfl rfl 23 rfl (fun rv h1 q27 => ?_)
          obtain ⟨v28, rfl, rfl, pv28, qv28, rv28⟩ := q27
          replace rv28 : v28 = 0 ∨ (m10 86 3).toInt < (m10 86 2).toInt := rv28
          show PV _ _ _ _ _ _ _ 23 [.ref 86, .int 2, .int y9, pv_U] [.int v28] _
          refine pv_if_eq (M := mX7_readTerm) (tgt := 66) dX7_readTerm_23 26 rfl (by decide) (fun c29 => ?_) (fun c29 => ?_)
          · have c29 := iv_eq (X := v28.toInt) (Y := 0) c29 rfl (by decide)
            refine pv_iconst (M := mX7_readTerm) (v := 1) dX7_readTerm_66 67 rfl (by decide) ?_
            have z30 : (1 : Int32).toInt = 1 := by decide
            exact pv_iret (M := mX7_readTerm) dX7_readTerm_67 rfl rfl ⟨_, _, _, rfl, rfl, I12, K13, by decide, by decide, (by refine ⟨?_, ?_, ?_⟩ <;> omega)⟩
          · have pc29 := rv28.resolve_left c29
            have c29 := iv_ne (X := v28.toInt) (Y := 0) c29 rfl (by decide)
            refine pv_aload_n (M := mX7_readTerm) 0 dX7_readTerm_26 27 rfl rfl rfl ?_
            refine pv_callv (M := mX7_readTerm) (as := []) (st := []) (kc2 := 0) (ks2 := 0) dX7_readTerm_27 wd527 YX7_peek ⟨wd529, wd2⟩ (mk_get (tl86 hT)) rfl rfl (s_X7_peek g hT I12 R) rfl rfl (Nat.le_of_ble_eq_true rfl) (by decide) rfl rfl 30 rfl (fun rv h1 q31 => ?_)
            obtain ⟨v32, rfl, rfl, pv32, qv32, rv32⟩ := q31
            replace rv32 : v32.toInt = -1 ∨ (m10 86 3).toInt < (m10 86 2).toInt := rv32
            show PV _ _ _ _ _ _ _ 30 [.ref 86, .int 2, .int y9, pv_U] [.int v32] _
            refine pv_istore_n (M := mX7_readTerm) 3 (lo2 := [.ref 86, .int 2, .int y9, .int v32]) dX7_readTerm_30 31 rfl rfl (by decide) rfl rfl ?_
            refine pv_aload_n (M := mX7_readTerm) 0 dX7_readTerm_31 32 rfl rfl rfl ?_
            refine pv_dup (M := mX7_readTerm) dX7_readTerm_32 33 rfl rfl ?_
            refine iv_get (M := mX7_readTerm) (l1 := 0) (l2 := 160) dX7_readTerm_33 FX7 3 wd283 (by decide) (tl86 hT) rfl I12 rfl 36 rfl (fun v33 ev33 pv33 qv33 => ?_)
            have wv33 : v33.toInt = (m10 86 3).toInt := congrArg Int32.toInt ev33
            refine pv_iconst (M := mX7_readTerm) (v := 1) dX7_readTerm_36 37 rfl (by decide) ?_
            refine iv_iadd (M := mX7_readTerm) (X := v33.toInt) (Y := 1) dX7_readTerm_37 38 rfl rfl (by decide) (by omega) (by omega) (fun v34 ev34 => ?_)
            refine iv_put (M := mX7_readTerm) (l1 := 0) (l2 := 160) dX7_readTerm_38 FX7 3 wd283 (by decide) rfl (tl86 hT) rfl rfl rfl I12 rfl (by omega) (by omega) 41 rfl (fun m35 e38 I36 => ?_)
            have K37 := K13.set e38 (wl_r (by omega) (by omega))
            have w39 : (m35 86 3).toInt = v34.toInt := by rw [e38, up2_eq]
            have w40 : (m35 86 2).toInt = (m10 86 2).toInt := by rw [e38, up2_ne (by omega)]
            refine pv_aload_n (M := mX7_readTerm) 0 dX7_readTerm_41 42 rfl rfl rfl ?_
            refine pv_iload_n (M := mX7_readTerm) 1 dX7_readTerm_42 43 rfl rfl rfl ?_
            have z41 : (2 : Int32).toInt = 2 := by decide
            refine pv_callv (M := mX7_readTerm) (as := [.int 2]) (st := []) (kc2 := 0) (ks2 := 0) dX7_readTerm_43 wd547 YX7_readFactor ⟨wd549, wd6⟩ (mk_get (tl86 hT)) rfl rfl (s_X7_readFactor_v2 g hT I36 R (by first | omega | assumption | exact (iv_rng _).2 | exact (iv_rng _).1 | decide)) rfl rfl (Nat.le_of_ble_eq_true rfl) (by decide) rfl rfl 46 rfl (fun rv h1 q42 => ?_)
            obtain ⟨m43, n44, v47, rfl, rfl, I45, K46, pv47, qv47, rv47⟩ := q42
            replace rv47 : (m35 86 3).toInt ≤ (m43 86 3).toInt ∧ (m43 86 3).toInt ≤ (m43 86 2).toInt ∧ (m43 86 2).toInt = (m35 86 2).toInt := rv47
            have K46c := K46
            have K46 := K37.trans (K46.sub (fun _ _ q => q))
            show PV _ _ _ _ _ _ _ 46 [.ref 86, .int 2, .int y9, .int v32] [.int v47] _
            refine pv_if_ne (M := mX7_readTerm) (tgt := 51) dX7_readTerm_46 49 rfl (by decide) (fun c48 => ?_) (fun c48 => ?_)
            · have c48 := iv_ne (X := v47.toInt) (Y := 0) c48 rfl (by decide)
              refine pv_aload_n (M := mX7_readTerm) 0 dX7_readTerm_51 52 rfl rfl rfl ?_
              refine mv_get (M := mX7_readTerm) (v := .ref lb) dX7_readTerm_52 FX7 1 wd281 (by decide) (tl86 hT) rfl R.2.2.2.1 55 rfl ?_
              refine pv_iload_n (M := mX7_readTerm) 3 dX7_readTerm_55 56 rfl rfl rfl ?_
              refine pv_iconst (M := mX7_readTerm) (v := 0) dX7_readTerm_56 57 rfl (by decide) ?_
              refine pv_callv (M := mX7_readTerm) (as := [.int v32, .int 0]) (st := []) (kc2 := 0) (ks2 := 0) dX7_readTerm_57 wd567 YX6_emit ⟨wd568, wd569⟩ (mk_get R.2.2.2.2.2.2.1) rfl rfl (s_X6_emit g hT I45 lb R.2.2.2.2.2 v32 0 (by decide) (by decide)) rfl rfl (Nat.le_of_ble_eq_true rfl) (by decide) rfl rfl 60 rfl (fun rv h1 q49 => ?_)
              obtain ⟨m50, n51, rfl, rfl, I52, K53, rm50⟩ := q49
              have K53c := K53
              have w54 : (m50 86 3).toInt = (m43 86 3).toInt := congrArg Int32.toInt (K53 86 3 (wr_out (by omega)))
              have w55 : (m50 86 2).toInt = (m43 86 2).toInt := congrArg Int32.toInt (K53 86 2 (wr_out (by omega)))
              have K53 := K46.trans (K53.sub (wr_wr (by omega) (by omega)))
              show PV _ _ _ _ _ _ _ 60 [.ref 86, .int 2, .int y9, .int v32] [] _
              refine iv_inc (M := mX7_readTerm) (C := 1) dX7_readTerm_60 63 rfl rfl (by decide) rfl rfl (by decide) (by omega) (by omega) (fun v56 ev56 => ?_)
              show PV _ _ _ _ _ _ _ 63 [.ref 86, .int 2, .int v56, .int v32] [] _
              refine pv_goto (M := mX7_readTerm) (tgt := 12) dX7_readTerm_63 (by decide) ?_
              refine pv_fg (lo2 := [.ref 86, .int 2, .int v56, pv_U]) ⟨Or.inr rfl, ⟨Or.inr rfl, ⟨Or.inr rfl, ⟨Or.inl rfl, trivial⟩⟩⟩⟩ ?_
              exact ih16 v56 m50 n51 (by first | omega | assumption | exact (iv_rng _).2 | exact (iv_rng _).1 | decide) (by first | omega | assumption | exact (iv_rng _).2 | exact (iv_rng _).1 | decide) (by first | omega | assumption | (show (m 86 3).toInt ≤ (m50 86 3).toInt; omega) | decide) (by first | omega | assumption | (show (m50 86 3).toInt ≤ (m50 86 2).toInt; omega) | decide) (by first | omega | assumption | (show (m50 86 2).toInt = (m 86 2).toInt; omega) | decide) I52 K53 (by omega)
            · have c48 := iv_eq (X := v47.toInt) (Y := 0) c48 rfl (by decide)
              refine pv_iconst (M := mX7_readTerm) (v := 0) dX7_readTerm_49 50 rfl (by decide) ?_
              have z57 : (0 : Int32).toInt = 0 := by decide
              exact pv_iret (M := mX7_readTerm) dX7_readTerm_50 rfl rfl ⟨_, _, _, rfl, rfl, I45, K46, by decide, by decide, (by refine ⟨?_, ?_, ?_⟩ <;> omega)⟩
    have z58 : (0 : Int32).toInt = 0 := by decide
    exact lp15 (((160 - 0) : Int).toNat + 1) 0 m3 n4 (by first | omega | assumption | exact (iv_rng _).2 | exact (iv_rng _).1 | decide) (by first | omega | assumption | exact (iv_rng _).2 | exact (iv_rng _).1 | decide) (by first | omega | assumption | (show (m 86 3).toInt ≤ (m3 86 3).toInt; omega) | decide) (by first | omega | assumption | (show (m3 86 3).toInt ≤ (m3 86 2).toInt; omega) | decide) (by first | omega | assumption | (show (m3 86 2).toInt = (m 86 2).toInt; omega) | decide) I5 K6 (by omega)
  · have c8 := iv_eq (X := v7.toInt) (Y := 0) c8 rfl (by decide)
    refine pv_iconst (M := mX7_readTerm) (v := 0) dX7_readTerm_8 9 rfl (by decide) ?_
    have z59 : (0 : Int32).toInt = 0 := by decide
    exact pv_iret (M := mX7_readTerm) dX7_readTerm_9 rfl rfl ⟨_, _, _, rfl, rfl, I5, K6, by decide, by decide, (by refine ⟨?_, ?_, ?_⟩ <;> omega)⟩

set_option maxHeartbeats 2000000 in
set_option maxRecDepth 20000 in
theorem s_X7_readSum_v2 (g : pv_G) {T : List mv_T} {m : Nat → Nat → Int32} {n : Nat → Nat → Int64} {r : Nat → Value} {la lb : Nat} (hT : TX T) (I : IV BB m) (R : RX T r la lb) (hp0 : (m 86 3).toInt ≤ (m 86 2).toInt) : PM g mX7_readSum yX7_readSum (sqI T BB (wl [(77, 96, none)]) r m 0 1 (fun m' v => (m 86 3).toInt ≤ (m' 86 3).toInt ∧ (m' 86 3).toInt ≤ (m' 86 2).toInt ∧ (m' 86 2).toInt = (m 86 2).toInt)) 19 0 0 [.ref 86, .int 2] (mk T m n r) := by
  have Kp : fr (wl [(77, 96, none)]) m m := fr.rf
  have R0 := R
  have zR := R.2.2.2.2.1.1
  have zR2 := R.2.2.2.2.2.1
  have z90 : 0 ≤ (m 86 3).toInt ∧ (m 86 3).toInt ≤ 160 := I 86 3
  have z91 : 0 ≤ (m 86 2).toInt ∧ (m 86 2).toInt ≤ 160 := I 86 2
  refine PM.of 2 (lo := [.ref 86, .int 2, pv_U, pv_U]) rfl (by decide) rfl rfl (Nat.le_of_ble_eq_true rfl) ?_
  refine pv_aload_n (M := mX7_readSum) 0 dX7_readSum_0 1 rfl rfl rfl ?_
  refine pv_iload_n (M := mX7_readSum) 1 dX7_readSum_1 2 rfl rfl rfl ?_
  have z1 : (2 : Int32).toInt = 2 := by decide
  refine pv_callv (M := mX7_readSum) (as := [.int 2]) (st := []) (kc2 := 0) (ks2 := 0) dX7_readSum_2 wd543 YX7_readTerm ⟨wd545, wd5⟩ (mk_get (tl86 hT)) rfl rfl (s_X7_readTerm_v2 g hT I R (by first | omega | assumption | exact (iv_rng _).2 | exact (iv_rng _).1 | decide)) rfl rfl (Nat.le_of_ble_eq_true rfl) (by decide) rfl rfl 5 rfl (fun rv h1 q2 => ?_)
  obtain ⟨m3, n4, v7, rfl, rfl, I5, K6, pv7, qv7, rv7⟩ := q2
  replace rv7 : (m 86 3).toInt ≤ (m3 86 3).toInt ∧ (m3 86 3).toInt ≤ (m3 86 2).toInt ∧ (m3 86 2).toInt = (m 86 2).toInt := rv7
  have K6c := K6
  have K6 := Kp.trans (K6.sub (fun _ _ q => q))
  show PV _ _ _ _ _ _ _ 5 [.ref 86, .int 2, pv_U, pv_U] [.int v7] _
  refine pv_if_ne (M := mX7_readSum) (tgt := 10) dX7_readSum_5 8 rfl (by decide) (fun c8 => ?_) (fun c8 => ?_)
  · have c8 := iv_ne (X := v7.toInt) (Y := 0) c8 rfl (by decide)
    refine pv_iconst (M := mX7_readSum) (v := 0) dX7_readSum_10 11 rfl (by decide) ?_
    refine pv_istore_n (M := mX7_readSum) 2 (lo2 := [.ref 86, .int 2, .int 0, pv_U]) dX7_readSum_11 12 rfl rfl (by decide) rfl rfl ?_
    have lp15 : ∀ (fuel14 : Nat) (y9 : Int32) (m10 : Nat → Nat → Int32) (n11 : Nat → Nat → Int64), (0 ≤ y9.toInt) → (y9.toInt ≤ 160) → ((m 86 3).toInt ≤ (m10 86 3).toInt) → ((m10 86 3).toInt ≤ (m10 86 2).toInt) → ((m10 86 2).toInt = (m 86 2).toInt) → IV BB m10 → fr (wl [(77, 96, none)]) m m10 → ((160 - y9.toInt) : Int).toNat < fuel14 → PV none g mX7_readSum (sqI T BB (wl [(77, 96, none)]) r m 0 1 (fun m' v => (m 86 3).toInt ≤ (m' 86 3).toInt ∧ (m' 86 3).toInt ≤ (m' 86 2).toInt ∧ (m' 86 2).toInt = (m 86 2).toInt)) 19 0 0 12 [.ref 86, .int 2, .int y9, pv_U] [] (mk T m10 n11 r) := by
      intro fuel14
      induction fuel14 with
      | zero => intro y9 m10 n11 b17 b18 b19 b20 b21 I12 K13 z22; omega
      | succ fuel14 ih16 =>
        intro y9 m10 n11 b17 b18 b19 b20 b21 I12 K13 z22
        have z23 : 0 ≤ (m10 86 3).toInt ∧ (m10 86 3).toInt ≤ 160 := I12 86 3
        have z24 : 0 ≤ (m10 86 2).toInt ∧ (m10 86 2).toInt ≤ 160 := I12 86 2
        refine pv_iload_n (M := mX7_readSum) 2 dX7_readSum_12 13 rfl rfl rfl ?_
        refine pv_sipush (M := mX7_readSum) (v := 160) dX7_readSum_13 16 rfl (by decide) ?_
        refine pv_icmp_ge (M := mX7_readSum) (tgt := 77) dX7_readSum_16 19 rfl (by decide) (fun c25 => ?_) (fun c25 => ?_)
        · have c25 := iv_le (X := 160) (Y := y9.toInt) c25 (by decide) rfl
          refine pv_iconst (M := mX7_readSum) (v := 1) dX7_readSum_77 78 rfl (by decide) ?_
          have z26 : (1 : Int32).toInt = 1 := by decide
          exact pv_iret (M := mX7_readSum) dX7_readSum_78 rfl rfl ⟨_, _, _, rfl, rfl, I12, K13, by decide, by decide, (by refine ⟨?_, ?_, ?_⟩ <;> omega)⟩
        · have c25 := iv_nle (X := 160) (Y := y9.toInt) c25 (by decide) rfl
          refine pv_aload_n (M := mX7_readSum) 0 dX7_readSum_19 20 rfl rfl rfl ?_
          refine pv_callv (M := mX7_readSum) (as := []) (st := []) (kc2 := 0) (ks2 := 0) dX7_readSum_20 wd527 YX7_peek ⟨wd529, wd2⟩ (mk_get (tl86 hT)) rfl rfl (s_X7_peek g hT I12 R) rfl rfl (Nat.le_of_ble_eq_true rfl) (by decide) rfl rfl 23 rfl (fun rv h1 q27 => ?_)
          obtain ⟨v28, rfl, rfl, pv28, qv28, rv28⟩ := q27
          replace rv28 : v28.toInt = -1 ∨ (m10 86 3).toInt < (m10 86 2).toInt := rv28
          show PV _ _ _ _ _ _ _ 23 [.ref 86, .int 2, .int y9, pv_U] [.int v28] _
          refine pv_bipush (M := mX7_readSum) (v := 43) dX7_readSum_23 25 rfl (by decide) ?_
          refine pv_icmp_eq (M := mX7_readSum) (tgt := 37) dX7_readSum_25 28 rfl (by decide) (fun c29 => ?_) (fun c29 => ?_)
          · have c29 := iv_eq (X := v28.toInt) (Y := 43) c29 rfl (by decide)
            refine pv_aload_n (M := mX7_readSum) 0 dX7_readSum_37 38 rfl rfl rfl ?_
            refine pv_callv (M := mX7_readSum) (as := []) (st := []) (kc2 := 0) (ks2 := 0) dX7_readSum_38 wd527 YX7_peek ⟨wd529, wd2⟩ (mk_get (tl86 hT)) rfl rfl (s_X7_peek g hT I12 R) rfl rfl (Nat.le_of_ble_eq_true rfl) (by decide) rfl rfl 41 rfl (fun rv h1 q30 => ?_)
            obtain ⟨v31, rfl, rfl, pv31, qv31, rv31⟩ := q30
            replace rv31 : v31.toInt = -1 ∨ (m10 86 3).toInt < (m10 86 2).toInt := rv31
            show PV _ _ _ _ _ _ _ 41 [.ref 86, .int 2, .int y9, pv_U] [.int v31] _
            refine pv_istore_n (M := mX7_readSum) 3 (lo2 := [.ref 86, .int 2, .int y9, .int v31]) dX7_readSum_41 42 rfl rfl (by decide) rfl rfl ?_
            refine pv_aload_n (M := mX7_readSum) 0 dX7_readSum_42 43 rfl rfl rfl ?_
            refine pv_dup (M := mX7_readSum) dX7_readSum_43 44 rfl rfl ?_
            refine iv_get (M := mX7_readSum) (l1 := 0) (l2 := 160) dX7_readSum_44 FX7 3 wd283 (by decide) (tl86 hT) rfl I12 rfl 47 rfl (fun v32 ev32 pv32 qv32 => ?_)
            have wv32 : v32.toInt = (m10 86 3).toInt := congrArg Int32.toInt ev32
            refine pv_iconst (M := mX7_readSum) (v := 1) dX7_readSum_47 48 rfl (by decide) ?_
            refine iv_iadd (M := mX7_readSum) (X := v32.toInt) (Y := 1) dX7_readSum_48 49 rfl rfl (by decide) (by omega) (by omega) (fun v33 ev33 => ?_)
            refine iv_put (M := mX7_readSum) (l1 := 0) (l2 := 160) dX7_readSum_49 FX7 3 wd283 (by decide) rfl (tl86 hT) rfl rfl rfl I12 rfl (by omega) (by omega) 52 rfl (fun m34 e37 I35 => ?_)
            have K36 := K13.set e37 (wl_r (by omega) (by omega))
            have w38 : (m34 86 3).toInt = v33.toInt := by rw [e37, up2_eq]
            have w39 : (m34 86 2).toInt = (m10 86 2).toInt := by rw [e37, up2_ne (by omega)]
            refine pv_aload_n (M := mX7_readSum) 0 dX7_readSum_52 53 rfl rfl rfl ?_
            refine pv_iload_n (M := mX7_readSum) 1 dX7_readSum_53 54 rfl rfl rfl ?_
            have z40 : (2 : Int32).toInt = 2 := by decide
            refine pv_callv (M := mX7_readSum) (as := [.int 2]) (st := []) (kc2 := 0) (ks2 := 0) dX7_readSum_54 wd543 YX7_readTerm ⟨wd545, wd5⟩ (mk_get (tl86 hT)) rfl rfl (s_X7_readTerm_v2 g hT I35 R (by first | omega | assumption | exact (iv_rng _).2 | exact (iv_rng _).1 | decide)) rfl rfl (Nat.le_of_ble_eq_true rfl) (by decide) rfl rfl 57 rfl (fun rv h1 q41 => ?_)
            obtain ⟨m42, n43, v46, rfl, rfl, I44, K45, pv46, qv46, rv46⟩ := q41
            replace rv46 : (m34 86 3).toInt ≤ (m42 86 3).toInt ∧ (m42 86 3).toInt ≤ (m42 86 2).toInt ∧ (m42 86 2).toInt = (m34 86 2).toInt := rv46
            have K45c := K45
            have K45 := K36.trans (K45.sub (fun _ _ q => q))
            show PV _ _ _ _ _ _ _ 57 [.ref 86, .int 2, .int y9, .int v31] [.int v46] _
            refine pv_if_ne (M := mX7_readSum) (tgt := 62) dX7_readSum_57 60 rfl (by decide) (fun c47 => ?_) (fun c47 => ?_)
            · have c47 := iv_ne (X := v46.toInt) (Y := 0) c47 rfl (by decide)
              refine pv_aload_n (M := mX7_readSum) 0 dX7_readSum_62 63 rfl rfl rfl ?_
              refine mv_get (M := mX7_readSum) (v := .ref lb) dX7_readSum_63 FX7 1 wd281 (by decide) (tl86 hT) rfl R.2.2.2.1 66 rfl ?_
              refine pv_iload_n (M := mX7_readSum) 3 dX7_readSum_66 67 rfl rfl rfl ?_
              refine pv_iconst (M := mX7_readSum) (v := 0) dX7_readSum_67 68 rfl (by decide) ?_
              refine pv_callv (M := mX7_readSum) (as := [.int v31, .int 0]) (st := []) (kc2 := 0) (ks2 := 0) dX7_readSum_68 wd567 YX6_emit ⟨wd568, wd569⟩ (mk_get R.2.2.2.2.2.2.1) rfl rfl (s_X6_emit g hT I44 lb R.2.2.2.2.2 v31 0 (by decide) (by decide)) rfl rfl (Nat.le_of_ble_eq_true rfl) (by decide) rfl rfl 71 rfl (fun rv h1 q48 => ?_)
              obtain ⟨m49, n50, rfl, rfl, I51, K52, rm49⟩ := q48
              have K52c := K52
              have w53 : (m49 86 3).toInt = (m42 86 3).toInt := congrArg Int32.toInt (K52 86 3 (wr_out (by omega)))
              have w54 : (m49 86 2).toInt = (m42 86 2).toInt := congrArg Int32.toInt (K52 86 2 (wr_out (by omega)))
              have K52 := K45.trans (K52.sub (wr_wr (by omega) (by omega)))
              show PV _ _ _ _ _ _ _ 71 [.ref 86, .int 2, .int y9, .int v31] [] _
              refine iv_inc (M := mX7_readSum) (C := 1) dX7_readSum_71 74 rfl rfl (by decide) rfl rfl (by decide) (by omega) (by omega) (fun v55 ev55 => ?_)
              show PV _ _ _ _ _ _ _ 74 [.ref 86, .int 2, .int v55, .int v31] [] _
              refine pv_goto (M := mX7_readSum) (tgt := 12) dX7_readSum_74 (by decide) ?_
              refine pv_fg (lo2 := [.ref 86, .int 2, .int v55, pv_U]) ⟨Or.inr rfl, ⟨Or.inr rfl, ⟨Or.inr rfl, ⟨Or.inl rfl, trivial⟩⟩⟩⟩ ?_
              exact ih16 v55 m49 n50 (by first | omega | assumption | exact (iv_rng _).2 | exact (iv_rng _).1 | decide) (by first | omega | assumption | exact (iv_rng _).2 | exact (iv_rng _).1 | decide) (by first | omega | assumption | (show (m 86 3).toInt ≤ (m49 86 3).toInt; omega) | decide) (by first | omega | assumption | (show (m49 86 3).toInt ≤ (m49 86 2).toInt; omega) | decide) (by first | omega | assumption | (show (m49 86 2).toInt = (m 86 2).toInt; omega) | decide) I51 K52 (by omega)
            · have c47 := iv_eq (X := v46.toInt) (Y := 0) c47 rfl (by decide)
              refine pv_iconst (M := mX7_readSum) (v := 0) dX7_readSum_60 61 rfl (by decide) ?_
              have z56 : (0 : Int32).toInt = 0 := by decide
              exact pv_iret (M := mX7_readSum) dX7_readSum_61 rfl rfl ⟨_, _, _, rfl, rfl, I44, K45, by decide, by decide, (by refine ⟨?_, ?_, ?_⟩ <;> omega)⟩
          · have c29 := iv_ne (X := v28.toInt) (Y := 43) c29 rfl (by decide)
            refine pv_aload_n (M := mX7_readSum) 0 dX7_readSum_28 29 rfl rfl rfl ?_
            refine pv_callv (M := mX7_readSum) (as := []) (st := []) (kc2 := 0) (ks2 := 0) dX7_readSum_29 wd527 YX7_peek ⟨wd529, wd2⟩ (mk_get (tl86 hT)) rfl rfl (s_X7_peek g hT I12 R) rfl rfl (Nat.le_of_ble_eq_true rfl) (by decide) rfl rfl 32 rfl (fun rv h1 q57 => ?_)
            obtain ⟨v58, rfl, rfl, pv58, qv58, rv58⟩ := q57
            replace rv58 : v58.toInt = -1 ∨ (m10 86 3).toInt < (m10 86 2).toInt := rv58
            show PV _ _ _ _ _ _ _ 32 [.ref 86, .int 2, .int y9, pv_U] [.int v58] _
            refine pv_bipush (M := mX7_readSum) (v := 45) dX7_readSum_32 34 rfl (by decide) ?_
            refine pv_icmp_ne (M := mX7_readSum) (tgt := 77) dX7_readSum_34 37 rfl (by decide) (fun c59 => ?_) (fun c59 => ?_)
            · have c59 := iv_ne (X := v58.toInt) (Y := 45) c59 rfl (by decide)
              refine pv_iconst (M := mX7_readSum) (v := 1) dX7_readSum_77 78 rfl (by decide) ?_
              have z60 : (1 : Int32).toInt = 1 := by decide
              exact pv_iret (M := mX7_readSum) dX7_readSum_78 rfl rfl ⟨_, _, _, rfl, rfl, I12, K13, by decide, by decide, (by refine ⟨?_, ?_, ?_⟩ <;> omega)⟩
            · have c59 := iv_eq (X := v58.toInt) (Y := 45) c59 rfl (by decide)
              refine pv_aload_n (M := mX7_readSum) 0 dX7_readSum_37 38 rfl rfl rfl ?_
              refine pv_callv (M := mX7_readSum) (as := []) (st := []) (kc2 := 0) (ks2 := 0) dX7_readSum_38 wd527 YX7_peek ⟨wd529, wd2⟩ (mk_get (tl86 hT)) rfl rfl (s_X7_peek g hT I12 R) rfl rfl (Nat.le_of_ble_eq_true rfl) (by decide) rfl rfl 41 rfl (fun rv h1 q61 => ?_)
              obtain ⟨v62, rfl, rfl, pv62, qv62, rv62⟩ := q61
              replace rv62 : v62.toInt = -1 ∨ (m10 86 3).toInt < (m10 86 2).toInt := rv62
              show PV _ _ _ _ _ _ _ 41 [.ref 86, .int 2, .int y9, pv_U] [.int v62] _
              refine pv_istore_n (M := mX7_readSum) 3 (lo2 := [.ref 86, .int 2, .int y9, .int v62]) dX7_readSum_41 42 rfl rfl (by decide) rfl rfl ?_
              refine pv_aload_n (M := mX7_readSum) 0 dX7_readSum_42 43 rfl rfl rfl ?_
              refine pv_dup (M := mX7_readSum) dX7_readSum_43 44 rfl rfl ?_
              refine iv_get (M := mX7_readSum) (l1 := 0) (l2 := 160) dX7_readSum_44 FX7 3 wd283 (by decide) (tl86 hT) rfl I12 rfl 47 rfl (fun v63 ev63 pv63 qv63 => ?_)
              have wv63 : v63.toInt = (m10 86 3).toInt := congrArg Int32.toInt ev63
              refine pv_iconst (M := mX7_readSum) (v := 1) dX7_readSum_47 48 rfl (by decide) ?_
              refine iv_iadd (M := mX7_readSum) (X := v63.toInt) (Y := 1) dX7_readSum_48 49 rfl rfl (by decide) (by omega) (by omega) (fun v64 ev64 => ?_)
              refine iv_put (M := mX7_readSum) (l1 := 0) (l2 := 160) dX7_readSum_49 FX7 3 wd283 (by decide) rfl (tl86 hT) rfl rfl rfl I12 rfl (by omega) (by omega) 52 rfl (fun m65 e68 I66 => ?_)
              have K67 := K13.set e68 (wl_r (by omega) (by omega))
              have w69 : (m65 86 3).toInt = v64.toInt := by rw [e68, up2_eq]
              have w70 : (m65 86 2).toInt = (m10 86 2).toInt := by rw [e68, up2_ne (by omega)]
              refine pv_aload_n (M := mX7_readSum) 0 dX7_readSum_52 53 rfl rfl rfl ?_
              refine pv_iload_n (M := mX7_readSum) 1 dX7_readSum_53 54 rfl rfl rfl ?_
              have z71 : (2 : Int32).toInt = 2 := by decide
              refine pv_callv (M := mX7_readSum) (as := [.int 2]) (st := []) (kc2 := 0) (ks2 := 0) dX7_readSum_54 wd543 YX7_readTerm ⟨wd545, wd5⟩ (mk_get (tl86 hT)) rfl rfl (s_X7_readTerm_v2 g hT I66 R (by first | omega | assumption | exact (iv_rng _).2 | exact (iv_rng _).1 | decide)) rfl rfl (Nat.le_of_ble_eq_true rfl) (by decide) rfl rfl 57 rfl (fun rv h1 q72 => ?_)
              obtain ⟨m73, n74, v77, rfl, rfl, I75, K76, pv77, qv77, rv77⟩ := q72
              replace rv77 : (m65 86 3).toInt ≤ (m73 86 3).toInt ∧ (m73 86 3).toInt ≤ (m73 86 2).toInt ∧ (m73 86 2).toInt = (m65 86 2).toInt := rv77
              have K76c := K76
              have K76 := K67.trans (K76.sub (fun _ _ q => q))
              show PV _ _ _ _ _ _ _ 57 [.ref 86, .int 2, .int y9, .int v62] [.int v77] _
              refine pv_if_ne (M := mX7_readSum) (tgt := 62) dX7_readSum_57 60 rfl (by decide) (fun c78 => ?_) (fun c78 => ?_)
              · have c78 := iv_ne (X := v77.toInt) (Y := 0) c78 rfl (by decide)
                refine pv_aload_n (M := mX7_readSum) 0 dX7_readSum_62 63 rfl rfl rfl ?_
                refine mv_get (M := mX7_readSum) (v := .ref lb) dX7_readSum_63 FX7 1 wd281 (by decide) (tl86 hT) rfl R.2.2.2.1 66 rfl ?_
                refine pv_iload_n (M := mX7_readSum) 3 dX7_readSum_66 67 rfl rfl rfl ?_
                refine pv_iconst (M := mX7_readSum) (v := 0) dX7_readSum_67 68 rfl (by decide) ?_
                refine pv_callv (M := mX7_readSum) (as := [.int v62, .int 0]) (st := []) (kc2 := 0) (ks2 := 0) dX7_readSum_68 wd567 YX6_emit ⟨wd568, wd569⟩ (mk_get R.2.2.2.2.2.2.1) rfl rfl (s_X6_emit g hT I75 lb R.2.2.2.2.2 v62 0 (by decide) (by decide)) rfl rfl (Nat.le_of_ble_eq_true rfl) (by decide) rfl rfl 71 rfl (fun rv h1 q79 => ?_)
                obtain ⟨m80, n81, rfl, rfl, I82, K83, rm80⟩ := q79
                have K83c := K83
                have w84 : (m80 86 3).toInt = (m73 86 3).toInt := congrArg Int32.toInt (K83 86 3 (wr_out (by omega)))
                have w85 : (m80 86 2).toInt = (m73 86 2).toInt := congrArg Int32.toInt (K83 86 2 (wr_out (by omega)))
                have K83 := K76.trans (K83.sub (wr_wr (by omega) (by omega)))
                show PV _ _ _ _ _ _ _ 71 [.ref 86, .int 2, .int y9, .int v62] [] _
                refine iv_inc (M := mX7_readSum) (C := 1) dX7_readSum_71 74 rfl rfl (by decide) rfl rfl (by decide) (by omega) (by omega) (fun v86 ev86 => ?_)
                show PV _ _ _ _ _ _ _ 74 [.ref 86, .int 2, .int v86, .int v62] [] _
                refine pv_goto (M := mX7_readSum) (tgt := 12) dX7_readSum_74 (by decide) ?_
                refine pv_fg (lo2 := [.ref 86, .int 2, .int v86, pv_U]) ⟨Or.inr rfl, ⟨Or.inr rfl, ⟨Or.inr rfl, ⟨Or.inl rfl, trivial⟩⟩⟩⟩ ?_
                exact ih16 v86 m80 n81 (by first | omega | assumption | exact (iv_rng _).2 | exact (iv_rng _).1 | decide) (by first | omega | assumption | exact (iv_rng _).2 | exact (iv_rng _).1 | decide) (by first | omega | assumption | (show (m 86 3).toInt ≤ (m80 86 3).toInt; omega) | decide) (by first | omega | assumption | (show (m80 86 3).toInt ≤ (m80 86 2).toInt; omega) | decide) (by first | omega | assumption | (show (m80 86 2).toInt = (m 86 2).toInt; omega) | decide) I82 K83 (by omega)
              · have c78 := iv_eq (X := v77.toInt) (Y := 0) c78 rfl (by decide)
                refine pv_iconst (M := mX7_readSum) (v := 0) dX7_readSum_60 61 rfl (by decide) ?_
                have z87 : (0 : Int32).toInt = 0 := by decide
                exact pv_iret (M := mX7_readSum) dX7_readSum_61 rfl rfl ⟨_, _, _, rfl, rfl, I75, K76, by decide, by decide, (by refine ⟨?_, ?_, ?_⟩ <;> omega)⟩
    have z88 : (0 : Int32).toInt = 0 := by decide
    exact lp15 (((160 - 0) : Int).toNat + 1) 0 m3 n4 (by first | omega | assumption | exact (iv_rng _).2 | exact (iv_rng _).1 | decide) (by first | omega | assumption | exact (iv_rng _).2 | exact (iv_rng _).1 | decide) (by first | omega | assumption | (show (m 86 3).toInt ≤ (m3 86 3).toInt; omega) | decide) (by first | omega | assumption | (show (m3 86 3).toInt ≤ (m3 86 2).toInt; omega) | decide) (by first | omega | assumption | (show (m3 86 2).toInt = (m 86 2).toInt; omega) | decide) I5 K6 (by omega)
  · have c8 := iv_eq (X := v7.toInt) (Y := 0) c8 rfl (by decide)
    refine pv_iconst (M := mX7_readSum) (v := 0) dX7_readSum_8 9 rfl (by decide) ?_
    have z89 : (0 : Int32).toInt = 0 := by decide
    exact pv_iret (M := mX7_readSum) dX7_readSum_9 rfl rfl ⟨_, _, _, rfl, rfl, I5, K6, by decide, by decide, (by refine ⟨?_, ?_, ?_⟩ <;> omega)⟩

set_option maxHeartbeats 2000000 in
set_option maxRecDepth 20000 in
theorem s_X7_readPiece_v2 (g : pv_G) {T : List mv_T} {m : Nat → Nat → Int32} {n : Nat → Nat → Int64} {r : Nat → Value} {la lb : Nat} (hT : TX T) (I : IV BB m) (R : RX T r la lb) (hp0 : (m 86 3).toInt ≤ (m 86 2).toInt) : PM g mX7_readPiece yX7_readPiece (sqI T BB (wl [(77, 96, none)]) r m 0 1 (fun m' v => (m 86 3).toInt ≤ (m' 86 3).toInt ∧ (m' 86 3).toInt ≤ (m' 86 2).toInt ∧ (m' 86 2).toInt = (m 86 2).toInt)) 20 0 0 [.ref 86, .int 2] (mk T m n r) := by
  have Kp : fr (wl [(77, 96, none)]) m m := fr.rf
  have R0 := R
  have zR := R.2.2.2.2.1.1
  have zR2 := R.2.2.2.2.2.1
  have z159 : 0 ≤ (m 86 3).toInt ∧ (m 86 3).toInt ≤ 160 := I 86 3
  have z160 : 0 ≤ (m 86 2).toInt ∧ (m 86 2).toInt ≤ 160 := I 86 2
  refine PM.of 1 (lo := [.ref 86, .int 2, pv_U]) rfl (by decide) rfl rfl (Nat.le_of_ble_eq_true rfl) ?_
  refine pv_aload_n (M := mX7_readPiece) 0 dX7_readPiece_0 1 rfl rfl rfl ?_
  refine pv_callv (M := mX7_readPiece) (as := []) (st := []) (kc2 := 0) (ks2 := 0) dX7_readPiece_1 wd527 YX7_peek ⟨wd529, wd2⟩ (mk_get (tl86 hT)) rfl rfl (s_X7_peek g hT I R) rfl rfl (Nat.le_of_ble_eq_true rfl) (by decide) rfl rfl 4 rfl (fun rv h1 q1 => ?_)
  obtain ⟨v2, rfl, rfl, pv2, qv2, rv2⟩ := q1
  replace rv2 : v2.toInt = -1 ∨ (m 86 3).toInt < (m 86 2).toInt := rv2
  show PV _ _ _ _ _ _ _ 4 [.ref 86, .int 2, pv_U] [.int v2] _
  refine pv_bipush (M := mX7_readPiece) (v := 33) dX7_readPiece_4 6 rfl (by decide) ?_
  refine pv_icmp_ne (M := mX7_readPiece) (tgt := 41) dX7_readPiece_6 9 rfl (by decide) (fun c3 => ?_) (fun c3 => ?_)
  · have c3 := iv_ne (X := v2.toInt) (Y := 33) c3 rfl (by decide)
    refine pv_aload_n (M := mX7_readPiece) 0 dX7_readPiece_41 42 rfl rfl rfl ?_
    refine pv_callv (M := mX7_readPiece) (as := []) (st := []) (kc2 := 0) (ks2 := 0) dX7_readPiece_42 wd527 YX7_peek ⟨wd529, wd2⟩ (mk_get (tl86 hT)) rfl rfl (s_X7_peek g hT I R) rfl rfl (Nat.le_of_ble_eq_true rfl) (by decide) rfl rfl 45 rfl (fun rv h1 q4 => ?_)
    obtain ⟨v5, rfl, rfl, pv5, qv5, rv5⟩ := q4
    replace rv5 : v5.toInt = -1 ∨ (m 86 3).toInt < (m 86 2).toInt := rv5
    show PV _ _ _ _ _ _ _ 45 [.ref 86, .int 2, pv_U] [.int v5] _
    refine pv_bipush (M := mX7_readPiece) (v := 40) dX7_readPiece_45 47 rfl (by decide) ?_
    refine pv_icmp_ne (M := mX7_readPiece) (tgt := 83) dX7_readPiece_47 50 rfl (by decide) (fun c6 => ?_) (fun c6 => ?_)
    · have c6 := iv_ne (X := v5.toInt) (Y := 40) c6 rfl (by decide)
      refine pv_aload_n (M := mX7_readPiece) 0 dX7_readPiece_83 84 rfl rfl rfl ?_
      refine pv_iload_n (M := mX7_readPiece) 1 dX7_readPiece_84 85 rfl rfl rfl ?_
      have z7 : (2 : Int32).toInt = 2 := by decide
      refine pv_callv (M := mX7_readPiece) (as := [.int 2]) (st := []) (kc2 := 0) (ks2 := 0) dX7_readPiece_85 wd539 YX7_readSum ⟨wd541, wd4⟩ (mk_get (tl86 hT)) rfl rfl (s_X7_readSum_v2 g hT I R (by first | omega | assumption | exact (iv_rng _).2 | exact (iv_rng _).1 | decide)) rfl rfl (Nat.le_of_ble_eq_true rfl) (by decide) rfl rfl 88 rfl (fun rv h1 q8 => ?_)
      obtain ⟨m9, n10, v13, rfl, rfl, I11, K12, pv13, qv13, rv13⟩ := q8
      replace rv13 : (m 86 3).toInt ≤ (m9 86 3).toInt ∧ (m9 86 3).toInt ≤ (m9 86 2).toInt ∧ (m9 86 2).toInt = (m 86 2).toInt := rv13
      have K12c := K12
      have K12 := Kp.trans (K12.sub (fun _ _ q => q))
      show PV _ _ _ _ _ _ _ 88 [.ref 86, .int 2, pv_U] [.int v13] _
      refine pv_if_ne (M := mX7_readPiece) (tgt := 93) dX7_readPiece_88 91 rfl (by decide) (fun c14 => ?_) (fun c14 => ?_)
      · have c14 := iv_ne (X := v13.toInt) (Y := 0) c14 rfl (by decide)
        refine pv_aload_n (M := mX7_readPiece) 0 dX7_readPiece_93 94 rfl rfl rfl ?_
        refine pv_callv (M := mX7_readPiece) (as := []) (st := []) (kc2 := 0) (ks2 := 0) dX7_readPiece_94 wd527 YX7_peek ⟨wd529, wd2⟩ (mk_get (tl86 hT)) rfl rfl (s_X7_peek g hT I11 R) rfl rfl (Nat.le_of_ble_eq_true rfl) (by decide) rfl rfl 97 rfl (fun rv h1 q15 => ?_)
        obtain ⟨v16, rfl, rfl, pv16, qv16, rv16⟩ := q15
        replace rv16 : v16.toInt = -1 ∨ (m9 86 3).toInt < (m9 86 2).toInt := rv16
        show PV _ _ _ _ _ _ _ 97 [.ref 86, .int 2, pv_U] [.int v16] _
        refine pv_istore_n (M := mX7_readPiece) 2 (lo2 := [.ref 86, .int 2, .int v16]) dX7_readPiece_97 98 rfl rfl (by decide) rfl rfl ?_
        refine pv_iload_n (M := mX7_readPiece) 2 dX7_readPiece_98 99 rfl rfl rfl ?_
        refine pv_bipush (M := mX7_readPiece) (v := 60) dX7_readPiece_99 101 rfl (by decide) ?_
        refine pv_icmp_eq (M := mX7_readPiece) (tgt := 122) dX7_readPiece_101 104 rfl (by decide) (fun c17 => ?_) (fun c17 => ?_)
        · have c17 := iv_eq (X := v16.toInt) (Y := 60) c17 rfl (by decide)
          refine pv_aload_n (M := mX7_readPiece) 0 dX7_readPiece_122 123 rfl rfl rfl ?_
          refine pv_dup (M := mX7_readPiece) dX7_readPiece_123 124 rfl rfl ?_
          refine iv_get (M := mX7_readPiece) (l1 := 0) (l2 := 160) dX7_readPiece_124 FX7 3 wd283 (by decide) (tl86 hT) rfl I11 rfl 127 rfl (fun v18 ev18 pv18 qv18 => ?_)
          have wv18 : v18.toInt = (m9 86 3).toInt := congrArg Int32.toInt ev18
          refine pv_iconst (M := mX7_readPiece) (v := 1) dX7_readPiece_127 128 rfl (by decide) ?_
          refine iv_iadd (M := mX7_readPiece) (X := v18.toInt) (Y := 1) dX7_readPiece_128 129 rfl rfl (by decide) (by omega) (by omega) (fun v19 ev19 => ?_)
          refine iv_put (M := mX7_readPiece) (l1 := 0) (l2 := 160) dX7_readPiece_129 FX7 3 wd283 (by decide) rfl (tl86 hT) rfl rfl rfl I11 rfl (by omega) (by omega) 132 rfl (fun m20 e23 I21 => ?_)
          have K22 := K12.set e23 (wl_r (by omega) (by omega))
          have w24 : (m20 86 3).toInt = v19.toInt := by rw [e23, up2_eq]
          have w25 : (m20 86 2).toInt = (m9 86 2).toInt := by rw [e23, up2_ne (by omega)]
          refine pv_aload_n (M := mX7_readPiece) 0 dX7_readPiece_132 133 rfl rfl rfl ?_
          refine pv_iload_n (M := mX7_readPiece) 1 dX7_readPiece_133 134 rfl rfl rfl ?_
          have z26 : (2 : Int32).toInt = 2 := by decide
          refine pv_callv (M := mX7_readPiece) (as := [.int 2]) (st := []) (kc2 := 0) (ks2 := 0) dX7_readPiece_134 wd539 YX7_readSum ⟨wd541, wd4⟩ (mk_get (tl86 hT)) rfl rfl (s_X7_readSum_v2 g hT I21 R (by first | omega | assumption | exact (iv_rng _).2 | exact (iv_rng _).1 | decide)) rfl rfl (Nat.le_of_ble_eq_true rfl) (by decide) rfl rfl 137 rfl (fun rv h1 q27 => ?_)
          obtain ⟨m28, n29, v32, rfl, rfl, I30, K31, pv32, qv32, rv32⟩ := q27
          replace rv32 : (m20 86 3).toInt ≤ (m28 86 3).toInt ∧ (m28 86 3).toInt ≤ (m28 86 2).toInt ∧ (m28 86 2).toInt = (m20 86 2).toInt := rv32
          have K31c := K31
          have K31 := K22.trans (K31.sub (fun _ _ q => q))
          show PV _ _ _ _ _ _ _ 137 [.ref 86, .int 2, .int v16] [.int v32] _
          refine pv_if_ne (M := mX7_readPiece) (tgt := 142) dX7_readPiece_137 140 rfl (by decide) (fun c33 => ?_) (fun c33 => ?_)
          · have c33 := iv_ne (X := v32.toInt) (Y := 0) c33 rfl (by decide)
            refine pv_aload_n (M := mX7_readPiece) 0 dX7_readPiece_142 143 rfl rfl rfl ?_
            refine mv_get (M := mX7_readPiece) (v := .ref lb) dX7_readPiece_143 FX7 1 wd281 (by decide) (tl86 hT) rfl R.2.2.2.1 146 rfl ?_
            refine pv_iload_n (M := mX7_readPiece) 2 dX7_readPiece_146 147 rfl rfl rfl ?_
            refine pv_iconst (M := mX7_readPiece) (v := 0) dX7_readPiece_147 148 rfl (by decide) ?_
            refine pv_callv (M := mX7_readPiece) (as := [.int v16, .int 0]) (st := []) (kc2 := 0) (ks2 := 0) dX7_readPiece_148 wd567 YX6_emit ⟨wd568, wd569⟩ (mk_get R.2.2.2.2.2.2.1) rfl rfl (s_X6_emit g hT I30 lb R.2.2.2.2.2 v16 0 (by decide) (by decide)) rfl rfl (Nat.le_of_ble_eq_true rfl) (by decide) rfl rfl 151 rfl (fun rv h1 q34 => ?_)
            obtain ⟨m35, n36, rfl, rfl, I37, K38, rm35⟩ := q34
            have K38c := K38
            have w39 : (m35 86 3).toInt = (m28 86 3).toInt := congrArg Int32.toInt (K38 86 3 (wr_out (by omega)))
            have w40 : (m35 86 2).toInt = (m28 86 2).toInt := congrArg Int32.toInt (K38 86 2 (wr_out (by omega)))
            have K38 := K31.trans (K38.sub (wr_wr (by omega) (by omega)))
            show PV _ _ _ _ _ _ _ 151 [.ref 86, .int 2, .int v16] [] _
            refine pv_iconst (M := mX7_readPiece) (v := 1) dX7_readPiece_151 152 rfl (by decide) ?_
            have z41 : (1 : Int32).toInt = 1 := by decide
            exact pv_iret (M := mX7_readPiece) dX7_readPiece_152 rfl rfl ⟨_, _, _, rfl, rfl, I37, K38, by decide, by decide, (by refine ⟨?_, ?_, ?_⟩ <;> omega)⟩
          · have c33 := iv_eq (X := v32.toInt) (Y := 0) c33 rfl (by decide)
            refine pv_iconst (M := mX7_readPiece) (v := 0) dX7_readPiece_140 141 rfl (by decide) ?_
            have z42 : (0 : Int32).toInt = 0 := by decide
            exact pv_iret (M := mX7_readPiece) dX7_readPiece_141 rfl rfl ⟨_, _, _, rfl, rfl, I30, K31, by decide, by decide, (by refine ⟨?_, ?_, ?_⟩ <;> omega)⟩
        · have c17 := iv_ne (X := v16.toInt) (Y := 60) c17 rfl (by decide)
          refine pv_iload_n (M := mX7_readPiece) 2 dX7_readPiece_104 105 rfl rfl rfl ?_
          refine pv_bipush (M := mX7_readPiece) (v := 62) dX7_readPiece_105 107 rfl (by decide) ?_
          refine pv_icmp_eq (M := mX7_readPiece) (tgt := 122) dX7_readPiece_107 110 rfl (by decide) (fun c43 => ?_) (fun c43 => ?_)
          · have c43 := iv_eq (X := v16.toInt) (Y := 62) c43 rfl (by decide)
            refine pv_aload_n (M := mX7_readPiece) 0 dX7_readPiece_122 123 rfl rfl rfl ?_
            refine pv_dup (M := mX7_readPiece) dX7_readPiece_123 124 rfl rfl ?_
            refine iv_get (M := mX7_readPiece) (l1 := 0) (l2 := 160) dX7_readPiece_124 FX7 3 wd283 (by decide) (tl86 hT) rfl I11 rfl 127 rfl (fun v44 ev44 pv44 qv44 => ?_)
            have wv44 : v44.toInt = (m9 86 3).toInt := congrArg Int32.toInt ev44
            refine pv_iconst (M := mX7_readPiece) (v := 1) dX7_readPiece_127 128 rfl (by decide) ?_
            refine iv_iadd (M := mX7_readPiece) (X := v44.toInt) (Y := 1) dX7_readPiece_128 129 rfl rfl (by decide) (by omega) (by omega) (fun v45 ev45 => ?_)
            refine iv_put (M := mX7_readPiece) (l1 := 0) (l2 := 160) dX7_readPiece_129 FX7 3 wd283 (by decide) rfl (tl86 hT) rfl rfl rfl I11 rfl (by omega) (by omega) 132 rfl (fun m46 e49 I47 => ?_)
            have K48 := K12.set e49 (wl_r (by omega) (by omega))
            have w50 : (m46 86 3).toInt = v45.toInt := by rw [e49, up2_eq]
            have w51 : (m46 86 2).toInt = (m9 86 2).toInt := by rw [e49, up2_ne (by omega)]
            refine pv_aload_n (M := mX7_readPiece) 0 dX7_readPiece_132 133 rfl rfl rfl ?_
            refine pv_iload_n (M := mX7_readPiece) 1 dX7_readPiece_133 134 rfl rfl rfl ?_
            have z52 : (2 : Int32).toInt = 2 := by decide
            refine pv_callv (M := mX7_readPiece) (as := [.int 2]) (st := []) (kc2 := 0) (ks2 := 0) dX7_readPiece_134 wd539 YX7_readSum ⟨wd541, wd4⟩ (mk_get (tl86 hT)) rfl rfl (s_X7_readSum_v2 g hT I47 R (by first | omega | assumption | exact (iv_rng _).2 | exact (iv_rng _).1 | decide)) rfl rfl (Nat.le_of_ble_eq_true rfl) (by decide) rfl rfl 137 rfl (fun rv h1 q53 => ?_)
            obtain ⟨m54, n55, v58, rfl, rfl, I56, K57, pv58, qv58, rv58⟩ := q53
            replace rv58 : (m46 86 3).toInt ≤ (m54 86 3).toInt ∧ (m54 86 3).toInt ≤ (m54 86 2).toInt ∧ (m54 86 2).toInt = (m46 86 2).toInt := rv58
            have K57c := K57
            have K57 := K48.trans (K57.sub (fun _ _ q => q))
            show PV _ _ _ _ _ _ _ 137 [.ref 86, .int 2, .int v16] [.int v58] _
            refine pv_if_ne (M := mX7_readPiece) (tgt := 142) dX7_readPiece_137 140 rfl (by decide) (fun c59 => ?_) (fun c59 => ?_)
            · have c59 := iv_ne (X := v58.toInt) (Y := 0) c59 rfl (by decide)
              refine pv_aload_n (M := mX7_readPiece) 0 dX7_readPiece_142 143 rfl rfl rfl ?_
              refine mv_get (M := mX7_readPiece) (v := .ref lb) dX7_readPiece_143 FX7 1 wd281 (by decide) (tl86 hT) rfl R.2.2.2.1 146 rfl ?_
              refine pv_iload_n (M := mX7_readPiece) 2 dX7_readPiece_146 147 rfl rfl rfl ?_
              refine pv_iconst (M := mX7_readPiece) (v := 0) dX7_readPiece_147 148 rfl (by decide) ?_
              refine pv_callv (M := mX7_readPiece) (as := [.int v16, .int 0]) (st := []) (kc2 := 0) (ks2 := 0) dX7_readPiece_148 wd567 YX6_emit ⟨wd568, wd569⟩ (mk_get R.2.2.2.2.2.2.1) rfl rfl (s_X6_emit g hT I56 lb R.2.2.2.2.2 v16 0 (by decide) (by decide)) rfl rfl (Nat.le_of_ble_eq_true rfl) (by decide) rfl rfl 151 rfl (fun rv h1 q60 => ?_)
              obtain ⟨m61, n62, rfl, rfl, I63, K64, rm61⟩ := q60
              have K64c := K64
              have w65 : (m61 86 3).toInt = (m54 86 3).toInt := congrArg Int32.toInt (K64 86 3 (wr_out (by omega)))
              have w66 : (m61 86 2).toInt = (m54 86 2).toInt := congrArg Int32.toInt (K64 86 2 (wr_out (by omega)))
              have K64 := K57.trans (K64.sub (wr_wr (by omega) (by omega)))
              show PV _ _ _ _ _ _ _ 151 [.ref 86, .int 2, .int v16] [] _
              refine pv_iconst (M := mX7_readPiece) (v := 1) dX7_readPiece_151 152 rfl (by decide) ?_
              have z67 : (1 : Int32).toInt = 1 := by decide
              exact pv_iret (M := mX7_readPiece) dX7_readPiece_152 rfl rfl ⟨_, _, _, rfl, rfl, I63, K64, by decide, by decide, (by refine ⟨?_, ?_, ?_⟩ <;> omega)⟩
            · have c59 := iv_eq (X := v58.toInt) (Y := 0) c59 rfl (by decide)
              refine pv_iconst (M := mX7_readPiece) (v := 0) dX7_readPiece_140 141 rfl (by decide) ?_
              have z68 : (0 : Int32).toInt = 0 := by decide
              exact pv_iret (M := mX7_readPiece) dX7_readPiece_141 rfl rfl ⟨_, _, _, rfl, rfl, I56, K57, by decide, by decide, (by refine ⟨?_, ?_, ?_⟩ <;> omega)⟩
          · have c43 := iv_ne (X := v16.toInt) (Y := 62) c43 rfl (by decide)
            refine pv_iload_n (M := mX7_readPiece) 2 dX7_readPiece_110 111 rfl rfl rfl ?_
            refine pv_bipush (M := mX7_readPiece) (v := 61) dX7_readPiece_111 113 rfl (by decide) ?_
            refine pv_icmp_eq (M := mX7_readPiece) (tgt := 122) dX7_readPiece_113 116 rfl (by decide) (fun c69 => ?_) (fun c69 => ?_)
            · have c69 := iv_eq (X := v16.toInt) (Y := 61) c69 rfl (by decide)
              refine pv_aload_n (M := mX7_readPiece) 0 dX7_readPiece_122 123 rfl rfl rfl ?_
              refine pv_dup (M := mX7_readPiece) dX7_readPiece_123 124 rfl rfl ?_
              refine iv_get (M := mX7_readPiece) (l1 := 0) (l2 := 160) dX7_readPiece_124 FX7 3 wd283 (by decide) (tl86 hT) rfl I11 rfl 127 rfl (fun v70 ev70 pv70 qv70 => ?_)
              have wv70 : v70.toInt = (m9 86 3).toInt := congrArg Int32.toInt ev70
              refine pv_iconst (M := mX7_readPiece) (v := 1) dX7_readPiece_127 128 rfl (by decide) ?_
              refine iv_iadd (M := mX7_readPiece) (X := v70.toInt) (Y := 1) dX7_readPiece_128 129 rfl rfl (by decide) (by omega) (by omega) (fun v71 ev71 => ?_)
              refine iv_put (M := mX7_readPiece) (l1 := 0) (l2 := 160) dX7_readPiece_129 FX7 3 wd283 (by decide) rfl (tl86 hT) rfl rfl rfl I11 rfl (by omega) (by omega) 132 rfl (fun m72 e75 I73 => ?_)
              have K74 := K12.set e75 (wl_r (by omega) (by omega))
              have w76 : (m72 86 3).toInt = v71.toInt := by rw [e75, up2_eq]
              have w77 : (m72 86 2).toInt = (m9 86 2).toInt := by rw [e75, up2_ne (by omega)]
              refine pv_aload_n (M := mX7_readPiece) 0 dX7_readPiece_132 133 rfl rfl rfl ?_
              refine pv_iload_n (M := mX7_readPiece) 1 dX7_readPiece_133 134 rfl rfl rfl ?_
              have z78 : (2 : Int32).toInt = 2 := by decide
              refine pv_callv (M := mX7_readPiece) (as := [.int 2]) (st := []) (kc2 := 0) (ks2 := 0) dX7_readPiece_134 wd539 YX7_readSum ⟨wd541, wd4⟩ (mk_get (tl86 hT)) rfl rfl (s_X7_readSum_v2 g hT I73 R (by first | omega | assumption | exact (iv_rng _).2 | exact (iv_rng _).1 | decide)) rfl rfl (Nat.le_of_ble_eq_true rfl) (by decide) rfl rfl 137 rfl (fun rv h1 q79 => ?_)
              obtain ⟨m80, n81, v84, rfl, rfl, I82, K83, pv84, qv84, rv84⟩ := q79
              replace rv84 : (m72 86 3).toInt ≤ (m80 86 3).toInt ∧ (m80 86 3).toInt ≤ (m80 86 2).toInt ∧ (m80 86 2).toInt = (m72 86 2).toInt := rv84
              have K83c := K83
              have K83 := K74.trans (K83.sub (fun _ _ q => q))
              show PV _ _ _ _ _ _ _ 137 [.ref 86, .int 2, .int v16] [.int v84] _
              refine pv_if_ne (M := mX7_readPiece) (tgt := 142) dX7_readPiece_137 140 rfl (by decide) (fun c85 => ?_) (fun c85 => ?_)
              · have c85 := iv_ne (X := v84.toInt) (Y := 0) c85 rfl (by decide)
                refine pv_aload_n (M := mX7_readPiece) 0 dX7_readPiece_142 143 rfl rfl rfl ?_
                refine mv_get (M := mX7_readPiece) (v := .ref lb) dX7_readPiece_143 FX7 1 wd281 (by decide) (tl86 hT) rfl R.2.2.2.1 146 rfl ?_
                refine pv_iload_n (M := mX7_readPiece) 2 dX7_readPiece_146 147 rfl rfl rfl ?_
                refine pv_iconst (M := mX7_readPiece) (v := 0) dX7_readPiece_147 148 rfl (by decide) ?_
                refine pv_callv (M := mX7_readPiece) (as := [.int v16, .int 0]) (st := []) (kc2 := 0) (ks2 := 0) dX7_readPiece_148 wd567 YX6_emit ⟨wd568, wd569⟩ (mk_get R.2.2.2.2.2.2.1) rfl rfl (s_X6_emit g hT I82 lb R.2.2.2.2.2 v16 0 (by decide) (by decide)) rfl rfl (Nat.le_of_ble_eq_true rfl) (by decide) rfl rfl 151 rfl (fun rv h1 q86 => ?_)
                obtain ⟨m87, n88, rfl, rfl, I89, K90, rm87⟩ := q86
                have K90c := K90
                have w91 : (m87 86 3).toInt = (m80 86 3).toInt := congrArg Int32.toInt (K90 86 3 (wr_out (by omega)))
                have w92 : (m87 86 2).toInt = (m80 86 2).toInt := congrArg Int32.toInt (K90 86 2 (wr_out (by omega)))
                have K90 := K83.trans (K90.sub (wr_wr (by omega) (by omega)))
                show PV _ _ _ _ _ _ _ 151 [.ref 86, .int 2, .int v16] [] _
                refine pv_iconst (M := mX7_readPiece) (v := 1) dX7_readPiece_151 152 rfl (by decide) ?_
                have z93 : (1 : Int32).toInt = 1 := by decide
                exact pv_iret (M := mX7_readPiece) dX7_readPiece_152 rfl rfl ⟨_, _, _, rfl, rfl, I89, K90, by decide, by decide, (by refine ⟨?_, ?_, ?_⟩ <;> omega)⟩
              · have c85 := iv_eq (X := v84.toInt) (Y := 0) c85 rfl (by decide)
                refine pv_iconst (M := mX7_readPiece) (v := 0) dX7_readPiece_140 141 rfl (by decide) ?_
                have z94 : (0 : Int32).toInt = 0 := by decide
                exact pv_iret (M := mX7_readPiece) dX7_readPiece_141 rfl rfl ⟨_, _, _, rfl, rfl, I82, K83, by decide, by decide, (by refine ⟨?_, ?_, ?_⟩ <;> omega)⟩
            · have c69 := iv_ne (X := v16.toInt) (Y := 61) c69 rfl (by decide)
              refine pv_aload_n (M := mX7_readPiece) 0 dX7_readPiece_116 117 rfl rfl rfl ?_
              refine pv_iconst (M := mX7_readPiece) (v := 1) dX7_readPiece_117 118 rfl (by decide) ?_
              have z95 : (1 : Int32).toInt = 1 := by decide
              refine pv_callv (M := mX7_readPiece) (as := [.int 1]) (st := []) (kc2 := 0) (ks2 := 0) dX7_readPiece_118 wd531 YX7_fail ⟨wd533, wd3⟩ (mk_get (tl86 hT)) rfl rfl (s_X7_fail g hT I11 R 1 (by first | omega | assumption | exact (iv_rng _).2 | exact (iv_rng _).1 | decide)) rfl rfl (Nat.le_of_ble_eq_true rfl) (by decide) rfl rfl 121 rfl (fun rv h1 q96 => ?_)
              obtain ⟨m97, n98, v101, rfl, rfl, I99, K100, pv101, qv101, rv101⟩ := q96
              replace rv101 : v101.toInt = 0 ∧ (m9 86 3).toInt ≤ (m97 86 3).toInt ∧ (m97 86 3).toInt ≤ (m97 86 2).toInt ∧ (m97 86 2).toInt = (m9 86 2).toInt := rv101
              have K100c := K100
              have K100 := K12.trans (K100.sub (fun _ _ q => q))
              show PV _ _ _ _ _ _ _ 121 [.ref 86, .int 2, .int v16] [.int v101] _
              exact pv_iret (M := mX7_readPiece) dX7_readPiece_121 rfl (iv_nz (by omega) (by omega)) ⟨_, _, _, rfl, rfl, I99, K100, by omega, by omega, (by refine ⟨?_, ?_, ?_⟩ <;> omega)⟩
      · have c14 := iv_eq (X := v13.toInt) (Y := 0) c14 rfl (by decide)
        refine pv_iconst (M := mX7_readPiece) (v := 0) dX7_readPiece_91 92 rfl (by decide) ?_
        have z102 : (0 : Int32).toInt = 0 := by decide
        exact pv_iret (M := mX7_readPiece) dX7_readPiece_92 rfl rfl ⟨_, _, _, rfl, rfl, I11, K12, by decide, by decide, (by refine ⟨?_, ?_, ?_⟩ <;> omega)⟩
    · have c6 := iv_eq (X := v5.toInt) (Y := 40) c6 rfl (by decide)
      refine pv_aload_n (M := mX7_readPiece) 0 dX7_readPiece_50 51 rfl rfl rfl ?_
      refine pv_iload_n (M := mX7_readPiece) 1 dX7_readPiece_51 52 rfl rfl rfl ?_
      have z103 : (2 : Int32).toInt = 2 := by decide
      refine pv_callv (M := mX7_readPiece) (as := [.int 2]) (st := []) (kc2 := 0) (ks2 := 0) dX7_readPiece_52 wd551 YX7_open ⟨wd553, wd7⟩ (mk_get (tl86 hT)) rfl rfl (s_X7_open g hT I R 2 (by first | omega | assumption | exact (iv_rng _).2 | exact (iv_rng _).1 | decide)) rfl rfl (Nat.le_of_ble_eq_true rfl) (by decide) rfl rfl 55 rfl (fun rv h1 q104 => ?_)
      obtain ⟨m105, n106, v109, rfl, rfl, I107, K108, pv109, qv109, rv109⟩ := q104
      replace rv109 : (v109 = 0 ∨ (2 : Int) ≤ 5) ∧ (m 86 3).toInt ≤ (m105 86 3).toInt ∧ (m105 86 3).toInt ≤ (m105 86 2).toInt ∧ (m105 86 2).toInt = (m 86 2).toInt := by have q_ := rv109; (try rw [z103] at q_); exact q_
      have K108c := K108
      have K108 := Kp.trans (K108.sub (fun _ _ q => q))
      show PV _ _ _ _ _ _ _ 55 [.ref 86, .int 2, pv_U] [.int v109] _
      refine pv_if_eq (M := mX7_readPiece) (tgt := 81) dX7_readPiece_55 58 rfl (by decide) (fun c110 => ?_) (fun c110 => ?_)
      · have c110 := iv_eq (X := v109.toInt) (Y := 0) c110 rfl (by decide)
        refine pv_iconst (M := mX7_readPiece) (v := 0) dX7_readPiece_81 82 rfl (by decide) ?_
        have z111 : (0 : Int32).toInt = 0 := by decide
        exact pv_iret (M := mX7_readPiece) dX7_readPiece_82 rfl rfl ⟨_, _, _, rfl, rfl, I107, K108, by decide, by decide, (by refine ⟨?_, ?_, ?_⟩ <;> omega)⟩
      · have pc110 := rv109.1.resolve_left c110
        have c110 := iv_ne (X := v109.toInt) (Y := 0) c110 rfl (by decide)
        refine pv_aload_n (M := mX7_readPiece) 0 dX7_readPiece_58 59 rfl rfl rfl ?_
        refine pv_iload_n (M := mX7_readPiece) 1 dX7_readPiece_59 60 rfl rfl rfl ?_
        refine pv_iconst (M := mX7_readPiece) (v := 1) dX7_readPiece_60 61 rfl (by decide) ?_
        refine pv_iadd (M := mX7_readPiece) (v := 3) dX7_readPiece_61 62 rfl (by decide) ?_
        have z113 : (3 : Int32).toInt = 3 := by decide
        refine pv_callv (M := mX7_readPiece) (as := [.int 3]) (st := []) (kc2 := 0) (ks2 := 0) dX7_readPiece_62 wd662 YX7_readCondition ⟨wd664, wd12⟩ (mk_get (tl86 hT)) rfl rfl (s_X7_readCondition_v3 g hT I107 R (by first | omega | assumption | exact (iv_rng _).2 | exact (iv_rng _).1 | decide)) rfl rfl (Nat.le_of_ble_eq_true rfl) (by decide) rfl rfl 65 rfl (fun rv h1 q114 => ?_)
        obtain ⟨m115, n116, v119, rfl, rfl, I117, K118, pv119, qv119, rv119⟩ := q114
        replace rv119 : (m105 86 3).toInt ≤ (m115 86 3).toInt ∧ (m115 86 3).toInt ≤ (m115 86 2).toInt ∧ (m115 86 2).toInt = (m105 86 2).toInt := rv119
        have K118c := K118
        have K118 := K108.trans (K118.sub (fun _ _ q => q))
        show PV _ _ _ _ _ _ _ 65 [.ref 86, .int 2, pv_U] [.int v119] _
        refine pv_if_eq (M := mX7_readPiece) (tgt := 81) dX7_readPiece_65 68 rfl (by decide) (fun c120 => ?_) (fun c120 => ?_)
        · have c120 := iv_eq (X := v119.toInt) (Y := 0) c120 rfl (by decide)
          refine pv_iconst (M := mX7_readPiece) (v := 0) dX7_readPiece_81 82 rfl (by decide) ?_
          have z121 : (0 : Int32).toInt = 0 := by decide
          exact pv_iret (M := mX7_readPiece) dX7_readPiece_82 rfl rfl ⟨_, _, _, rfl, rfl, I117, K118, by decide, by decide, (by refine ⟨?_, ?_, ?_⟩ <;> omega)⟩
        · have c120 := iv_ne (X := v119.toInt) (Y := 0) c120 rfl (by decide)
          refine pv_aload_n (M := mX7_readPiece) 0 dX7_readPiece_68 69 rfl rfl rfl ?_
          refine pv_bipush (M := mX7_readPiece) (v := 41) dX7_readPiece_69 71 rfl (by decide) ?_
          have z122 : (41 : Int32).toInt = 41 := by decide
          refine pv_callv (M := mX7_readPiece) (as := [.int 41]) (st := []) (kc2 := 0) (ks2 := 0) dX7_readPiece_71 wd555 YX7_pass ⟨wd557, wd8⟩ (mk_get (tl86 hT)) rfl rfl (s_X7_pass g hT I117 R 41 (by decide) (by decide) (by first | omega | assumption | exact (iv_rng _).2 | exact (iv_rng _).1 | decide)) rfl rfl (Nat.le_of_ble_eq_true rfl) (by decide) rfl rfl 74 rfl (fun rv h1 q123 => ?_)
          obtain ⟨m124, n125, v128, rfl, rfl, I126, K127, pv128, qv128, rv128⟩ := q123
          replace rv128 : (m115 86 3).toInt ≤ (m124 86 3).toInt ∧ (m124 86 3).toInt ≤ (m124 86 2).toInt ∧ (m124 86 2).toInt = (m115 86 2).toInt := rv128
          have K127c := K127
          have K127 := K118.trans (K127.sub (fun _ _ q => q))
          show PV _ _ _ _ _ _ _ 74 [.ref 86, .int 2, pv_U] [.int v128] _
          refine pv_if_eq (M := mX7_readPiece) (tgt := 81) dX7_readPiece_74 77 rfl (by decide) (fun c129 => ?_) (fun c129 => ?_)
          · have c129 := iv_eq (X := v128.toInt) (Y := 0) c129 rfl (by decide)
            refine pv_iconst (M := mX7_readPiece) (v := 0) dX7_readPiece_81 82 rfl (by decide) ?_
            have z130 : (0 : Int32).toInt = 0 := by decide
            exact pv_iret (M := mX7_readPiece) dX7_readPiece_82 rfl rfl ⟨_, _, _, rfl, rfl, I126, K127, by decide, by decide, (by refine ⟨?_, ?_, ?_⟩ <;> omega)⟩
          · have c129 := iv_ne (X := v128.toInt) (Y := 0) c129 rfl (by decide)
            refine pv_iconst (M := mX7_readPiece) (v := 1) dX7_readPiece_77 78 rfl (by decide) ?_
            refine pv_goto (M := mX7_readPiece) (tgt := 82) dX7_readPiece_78 (by decide) ?_
            have z131 : (1 : Int32).toInt = 1 := by decide
            exact pv_iret (M := mX7_readPiece) dX7_readPiece_82 rfl rfl ⟨_, _, _, rfl, rfl, I126, K127, by decide, by decide, (by refine ⟨?_, ?_, ?_⟩ <;> omega)⟩
  · have c3 := iv_eq (X := v2.toInt) (Y := 33) c3 rfl (by decide)
    refine pv_aload_n (M := mX7_readPiece) 0 dX7_readPiece_9 10 rfl rfl rfl ?_
    refine pv_iload_n (M := mX7_readPiece) 1 dX7_readPiece_10 11 rfl rfl rfl ?_
    have z132 : (2 : Int32).toInt = 2 := by decide
    refine pv_callv (M := mX7_readPiece) (as := [.int 2]) (st := []) (kc2 := 0) (ks2 := 0) dX7_readPiece_11 wd551 YX7_open ⟨wd553, wd7⟩ (mk_get (tl86 hT)) rfl rfl (s_X7_open g hT I R 2 (by first | omega | assumption | exact (iv_rng _).2 | exact (iv_rng _).1 | decide)) rfl rfl (Nat.le_of_ble_eq_true rfl) (by decide) rfl rfl 14 rfl (fun rv h1 q133 => ?_)
    obtain ⟨m134, n135, v138, rfl, rfl, I136, K137, pv138, qv138, rv138⟩ := q133
    replace rv138 : (v138 = 0 ∨ (2 : Int) ≤ 5) ∧ (m 86 3).toInt ≤ (m134 86 3).toInt ∧ (m134 86 3).toInt ≤ (m134 86 2).toInt ∧ (m134 86 2).toInt = (m 86 2).toInt := by have q_ := rv138; (try rw [z132] at q_); exact q_
    have K137c := K137
    have K137 := Kp.trans (K137.sub (fun _ _ q => q))
    show PV _ _ _ _ _ _ _ 14 [.ref 86, .int 2, pv_U] [.int v138] _
    refine pv_if_eq (M := mX7_readPiece) (tgt := 27) dX7_readPiece_14 17 rfl (by decide) (fun c139 => ?_) (fun c139 => ?_)
    · have c139 := iv_eq (X := v138.toInt) (Y := 0) c139 rfl (by decide)
      refine pv_iconst (M := mX7_readPiece) (v := 0) dX7_readPiece_27 28 rfl (by decide) ?_
      have z140 : (0 : Int32).toInt = 0 := by decide
      exact pv_iret (M := mX7_readPiece) dX7_readPiece_28 rfl rfl ⟨_, _, _, rfl, rfl, I136, K137, by decide, by decide, (by refine ⟨?_, ?_, ?_⟩ <;> omega)⟩
    · have pc139 := rv138.1.resolve_left c139
      have c139 := iv_ne (X := v138.toInt) (Y := 0) c139 rfl (by decide)
      refine pv_aload_n (M := mX7_readPiece) 0 dX7_readPiece_17 18 rfl rfl rfl ?_
      refine pv_iload_n (M := mX7_readPiece) 1 dX7_readPiece_18 19 rfl rfl rfl ?_
      refine pv_iconst (M := mX7_readPiece) (v := 1) dX7_readPiece_19 20 rfl (by decide) ?_
      refine pv_iadd (M := mX7_readPiece) (v := 3) dX7_readPiece_20 21 rfl (by decide) ?_
      have z142 : (3 : Int32).toInt = 3 := by decide
      refine pv_callv (M := mX7_readPiece) (as := [.int 3]) (st := []) (kc2 := 0) (ks2 := 0) dX7_readPiece_21 wd674 YX7_readPiece ⟨wd676, wd14⟩ (mk_get (tl86 hT)) rfl rfl (s_X7_readPiece_v3 g hT I136 R (by first | omega | assumption | exact (iv_rng _).2 | exact (iv_rng _).1 | decide)) rfl rfl (Nat.le_of_ble_eq_true rfl) (by decide) rfl rfl 24 rfl (fun rv h1 q143 => ?_)
      obtain ⟨m144, n145, v148, rfl, rfl, I146, K147, pv148, qv148, rv148⟩ := q143
      replace rv148 : (m134 86 3).toInt ≤ (m144 86 3).toInt ∧ (m144 86 3).toInt ≤ (m144 86 2).toInt ∧ (m144 86 2).toInt = (m134 86 2).toInt := rv148
      have K147c := K147
      have K147 := K137.trans (K147.sub (fun _ _ q => q))
      show PV _ _ _ _ _ _ _ 24 [.ref 86, .int 2, pv_U] [.int v148] _
      refine pv_if_ne (M := mX7_readPiece) (tgt := 29) dX7_readPiece_24 27 rfl (by decide) (fun c149 => ?_) (fun c149 => ?_)
      · have c149 := iv_ne (X := v148.toInt) (Y := 0) c149 rfl (by decide)
        refine pv_aload_n (M := mX7_readPiece) 0 dX7_readPiece_29 30 rfl rfl rfl ?_
        refine mv_get (M := mX7_readPiece) (v := .ref lb) dX7_readPiece_30 FX7 1 wd281 (by decide) (tl86 hT) rfl R.2.2.2.1 33 rfl ?_
        refine pv_bipush (M := mX7_readPiece) (v := 33) dX7_readPiece_33 35 rfl (by decide) ?_
        refine pv_iconst (M := mX7_readPiece) (v := 0) dX7_readPiece_35 36 rfl (by decide) ?_
        refine pv_callv (M := mX7_readPiece) (as := [.int 33, .int 0]) (st := []) (kc2 := 0) (ks2 := 0) dX7_readPiece_36 wd567 YX6_emit ⟨wd568, wd569⟩ (mk_get R.2.2.2.2.2.2.1) rfl rfl (s_X6_emit g hT I146 lb R.2.2.2.2.2 33 0 (by decide) (by decide)) rfl rfl (Nat.le_of_ble_eq_true rfl) (by decide) rfl rfl 39 rfl (fun rv h1 q150 => ?_)
        obtain ⟨m151, n152, rfl, rfl, I153, K154, rm151⟩ := q150
        have K154c := K154
        have w155 : (m151 86 3).toInt = (m144 86 3).toInt := congrArg Int32.toInt (K154 86 3 (wr_out (by omega)))
        have w156 : (m151 86 2).toInt = (m144 86 2).toInt := congrArg Int32.toInt (K154 86 2 (wr_out (by omega)))
        have K154 := K147.trans (K154.sub (wr_wr (by omega) (by omega)))
        show PV _ _ _ _ _ _ _ 39 [.ref 86, .int 2, pv_U] [] _
        refine pv_iconst (M := mX7_readPiece) (v := 1) dX7_readPiece_39 40 rfl (by decide) ?_
        have z157 : (1 : Int32).toInt = 1 := by decide
        exact pv_iret (M := mX7_readPiece) dX7_readPiece_40 rfl rfl ⟨_, _, _, rfl, rfl, I153, K154, by decide, by decide, (by refine ⟨?_, ?_, ?_⟩ <;> omega)⟩
      · have c149 := iv_eq (X := v148.toInt) (Y := 0) c149 rfl (by decide)
        refine pv_iconst (M := mX7_readPiece) (v := 0) dX7_readPiece_27 28 rfl (by decide) ?_
        have z158 : (0 : Int32).toInt = 0 := by decide
        exact pv_iret (M := mX7_readPiece) dX7_readPiece_28 rfl rfl ⟨_, _, _, rfl, rfl, I146, K147, by decide, by decide, (by refine ⟨?_, ?_, ?_⟩ <;> omega)⟩

set_option maxHeartbeats 2000000 in
set_option maxRecDepth 20000 in
theorem s_X7_readPart_v2 (g : pv_G) {T : List mv_T} {m : Nat → Nat → Int32} {n : Nat → Nat → Int64} {r : Nat → Value} {la lb : Nat} (hT : TX T) (I : IV BB m) (R : RX T r la lb) (hp0 : (m 86 3).toInt ≤ (m 86 2).toInt) : PM g mX7_readPart yX7_readPart (sqI T BB (wl [(77, 96, none)]) r m 0 1 (fun m' v => (m 86 3).toInt ≤ (m' 86 3).toInt ∧ (m' 86 3).toInt ≤ (m' 86 2).toInt ∧ (m' 86 2).toInt = (m 86 2).toInt)) 21 0 0 [.ref 86, .int 2] (mk T m n r) := by
  have Kp : fr (wl [(77, 96, none)]) m m := fr.rf
  have R0 := R
  have zR := R.2.2.2.2.1.1
  have zR2 := R.2.2.2.2.2.1
  have z65 : 0 ≤ (m 86 3).toInt ∧ (m 86 3).toInt ≤ 160 := I 86 3
  have z66 : 0 ≤ (m 86 2).toInt ∧ (m 86 2).toInt ≤ 160 := I 86 2
  refine PM.of 2 (lo := [.ref 86, .int 2, pv_U, pv_U]) rfl (by decide) rfl rfl (Nat.le_of_ble_eq_true rfl) ?_
  refine pv_aload_n (M := mX7_readPart) 0 dX7_readPart_0 1 rfl rfl rfl ?_
  refine mv_get (M := mX7_readPart) (v := .ref lb) dX7_readPart_1 FX7 1 wd281 (by decide) (tl86 hT) rfl R.2.2.2.1 4 rfl ?_
  refine pv_callv (M := mX7_readPart) (as := []) (st := []) (kc2 := 0) (ks2 := 0) dX7_readPart_4 wd666 YX6_steps ⟨wd667, wd668⟩ (mk_get R.2.2.2.2.2.2.1) rfl rfl (s_X6_steps g hT I lb R.2.2.2.2.2) rfl rfl (Nat.le_of_ble_eq_true rfl) (by decide) rfl rfl 7 rfl (fun rv h1 q1 => ?_)
  obtain ⟨v2, rfl, rfl, pv2, qv2, rv2⟩ := q1
  show PV _ _ _ _ _ _ _ 7 [.ref 86, .int 2, pv_U, pv_U] [.int v2] _
  refine pv_istore_n (M := mX7_readPart) 2 (lo2 := [.ref 86, .int 2, .int v2, pv_U]) dX7_readPart_7 8 rfl rfl (by decide) rfl rfl ?_
  refine pv_iconst (M := mX7_readPart) (v := 0) dX7_readPart_8 9 rfl (by decide) ?_
  refine pv_istore_n (M := mX7_readPart) 3 (lo2 := [.ref 86, .int 2, .int v2, .int 0]) dX7_readPart_9 10 rfl rfl (by decide) rfl rfl ?_
  have lp9 : ∀ (fuel8 : Nat) (y3 : Int32) (m4 : Nat → Nat → Int32) (n5 : Nat → Nat → Int64), (0 ≤ y3.toInt) → (y3.toInt ≤ 160) → ((m 86 3).toInt ≤ (m4 86 3).toInt) → ((m4 86 3).toInt ≤ (m4 86 2).toInt) → ((m4 86 2).toInt = (m 86 2).toInt) → IV BB m4 → fr (wl [(77, 96, none)]) m m4 → ((160 - y3.toInt) : Int).toNat < fuel8 → PV none g mX7_readPart (sqI T BB (wl [(77, 96, none)]) r m 0 1 (fun m' v => (m 86 3).toInt ≤ (m' 86 3).toInt ∧ (m' 86 3).toInt ≤ (m' 86 2).toInt ∧ (m' 86 2).toInt = (m 86 2).toInt)) 21 0 0 10 [.ref 86, .int 2, .int v2, .int y3] [] (mk T m4 n5 r) := by
    intro fuel8
    induction fuel8 with
    | zero => intro y3 m4 n5 b11 b12 b13 b14 b15 I6 K7 z16; omega
    | succ fuel8 ih10 =>
      intro y3 m4 n5 b11 b12 b13 b14 b15 I6 K7 z16
      have z17 : 0 ≤ (m4 86 3).toInt ∧ (m4 86 3).toInt ≤ 160 := I6 86 3
      have z18 : 0 ≤ (m4 86 2).toInt ∧ (m4 86 2).toInt ≤ 160 := I6 86 2
      refine pv_iload_n (M := mX7_readPart) 3 dX7_readPart_10 11 rfl rfl rfl ?_
      refine pv_sipush (M := mX7_readPart) (v := 160) dX7_readPart_11 14 rfl (by decide) ?_
      refine pv_icmp_ge (M := mX7_readPart) (tgt := 65) dX7_readPart_14 17 rfl (by decide) (fun c19 => ?_) (fun c19 => ?_)
      · have c19 := iv_le (X := 160) (Y := y3.toInt) c19 (by decide) rfl
        refine pv_aload_n (M := mX7_readPart) 0 dX7_readPart_65 66 rfl rfl rfl ?_
        refine mv_get (M := mX7_readPart) (v := .ref lb) dX7_readPart_66 FX7 1 wd281 (by decide) (tl86 hT) rfl R.2.2.2.1 69 rfl ?_
        refine pv_bipush (M := mX7_readPart) (v := 38) dX7_readPart_69 71 rfl (by decide) ?_
        refine pv_iload_n (M := mX7_readPart) 2 dX7_readPart_71 72 rfl rfl rfl ?_
        refine pv_callv (M := mX7_readPart) (as := [.int 38, .int v2]) (st := []) (kc2 := 0) (ks2 := 0) dX7_readPart_72 wd678 YX6_aimLeaps ⟨wd679, wd680⟩ (mk_get R.2.2.2.2.2.2.1) rfl rfl (s_X6_aimLeaps g hT I6 lb R.2.2.2.2.2 38 v2) rfl rfl (Nat.le_of_ble_eq_true rfl) (by decide) rfl rfl 75 rfl (fun rv h1 q20 => ?_)
        obtain ⟨m21, n22, rfl, rfl, I23, K24, rm21⟩ := q20
        have K24c := K24
        have w25 : (m21 86 3).toInt = (m4 86 3).toInt := congrArg Int32.toInt (K24 86 3 (wr_out (by omega)))
        have w26 : (m21 86 2).toInt = (m4 86 2).toInt := congrArg Int32.toInt (K24 86 2 (wr_out (by omega)))
        have K24 := K7.trans (K24.sub (wr_wr (by omega) (by omega)))
        show PV _ _ _ _ _ _ _ 75 [.ref 86, .int 2, .int v2, .int y3] [] _
        refine pv_iconst (M := mX7_readPart) (v := 1) dX7_readPart_75 76 rfl (by decide) ?_
        have z27 : (1 : Int32).toInt = 1 := by decide
        exact pv_iret (M := mX7_readPart) dX7_readPart_76 rfl rfl ⟨_, _, _, rfl, rfl, I23, K24, by decide, by decide, (by refine ⟨?_, ?_, ?_⟩ <;> omega)⟩
      · have c19 := iv_nle (X := 160) (Y := y3.toInt) c19 (by decide) rfl
        refine pv_aload_n (M := mX7_readPart) 0 dX7_readPart_17 18 rfl rfl rfl ?_
        refine pv_iload_n (M := mX7_readPart) 1 dX7_readPart_18 19 rfl rfl rfl ?_
        have z28 : (2 : Int32).toInt = 2 := by decide
        refine pv_callv (M := mX7_readPart) (as := [.int 2]) (st := []) (kc2 := 0) (ks2 := 0) dX7_readPart_19 wd674 YX7_readPiece ⟨wd676, wd14⟩ (mk_get (tl86 hT)) rfl rfl (s_X7_readPiece_v2 g hT I6 R (by first | omega | assumption | exact (iv_rng _).2 | exact (iv_rng _).1 | decide)) rfl rfl (Nat.le_of_ble_eq_true rfl) (by decide) rfl rfl 22 rfl (fun rv h1 q29 => ?_)
        obtain ⟨m30, n31, v34, rfl, rfl, I32, K33, pv34, qv34, rv34⟩ := q29
        replace rv34 : (m4 86 3).toInt ≤ (m30 86 3).toInt ∧ (m30 86 3).toInt ≤ (m30 86 2).toInt ∧ (m30 86 2).toInt = (m4 86 2).toInt := rv34
        have K33c := K33
        have K33 := K7.trans (K33.sub (fun _ _ q => q))
        show PV _ _ _ _ _ _ _ 22 [.ref 86, .int 2, .int v2, .int y3] [.int v34] _
        refine pv_if_ne (M := mX7_readPart) (tgt := 27) dX7_readPart_22 25 rfl (by decide) (fun c35 => ?_) (fun c35 => ?_)
        · have c35 := iv_ne (X := v34.toInt) (Y := 0) c35 rfl (by decide)
          refine pv_aload_n (M := mX7_readPart) 0 dX7_readPart_27 28 rfl rfl rfl ?_
          refine pv_callv (M := mX7_readPart) (as := []) (st := []) (kc2 := 0) (ks2 := 0) dX7_readPart_28 wd527 YX7_peek ⟨wd529, wd2⟩ (mk_get (tl86 hT)) rfl rfl (s_X7_peek g hT I32 R) rfl rfl (Nat.le_of_ble_eq_true rfl) (by decide) rfl rfl 31 rfl (fun rv h1 q36 => ?_)
          obtain ⟨v37, rfl, rfl, pv37, qv37, rv37⟩ := q36
          replace rv37 : v37.toInt = -1 ∨ (m30 86 3).toInt < (m30 86 2).toInt := rv37
          show PV _ _ _ _ _ _ _ 31 [.ref 86, .int 2, .int v2, .int y3] [.int v37] _
          refine pv_bipush (M := mX7_readPart) (v := 38) dX7_readPart_31 33 rfl (by decide) ?_
          refine pv_icmp_eq (M := mX7_readPart) (tgt := 39) dX7_readPart_33 36 rfl (by decide) (fun c38 => ?_) (fun c38 => ?_)
          · have c38 := iv_eq (X := v37.toInt) (Y := 38) c38 rfl (by decide)
            refine pv_aload_n (M := mX7_readPart) 0 dX7_readPart_39 40 rfl rfl rfl ?_
            refine mv_get (M := mX7_readPart) (v := .ref lb) dX7_readPart_40 FX7 1 wd281 (by decide) (tl86 hT) rfl R.2.2.2.1 43 rfl ?_
            refine pv_bipush (M := mX7_readPart) (v := 38) dX7_readPart_43 45 rfl (by decide) ?_
            refine pv_iconst (M := mX7_readPart) (v := (-1)) dX7_readPart_45 46 rfl (by decide) ?_
            refine pv_callv (M := mX7_readPart) (as := [.int 38, .int (-1)]) (st := []) (kc2 := 0) (ks2 := 0) dX7_readPart_46 wd567 YX6_emit ⟨wd568, wd569⟩ (mk_get R.2.2.2.2.2.2.1) rfl rfl (s_X6_emit g hT I32 lb R.2.2.2.2.2 38 (-1) (by decide) (by decide)) rfl rfl (Nat.le_of_ble_eq_true rfl) (by decide) rfl rfl 49 rfl (fun rv h1 q39 => ?_)
            obtain ⟨m40, n41, rfl, rfl, I42, K43, rm40⟩ := q39
            have K43c := K43
            have w44 : (m40 86 3).toInt = (m30 86 3).toInt := congrArg Int32.toInt (K43 86 3 (wr_out (by omega)))
            have w45 : (m40 86 2).toInt = (m30 86 2).toInt := congrArg Int32.toInt (K43 86 2 (wr_out (by omega)))
            have K43 := K33.trans (K43.sub (wr_wr (by omega) (by omega)))
            show PV _ _ _ _ _ _ _ 49 [.ref 86, .int 2, .int v2, .int y3] [] _
            refine pv_aload_n (M := mX7_readPart) 0 dX7_readPart_49 50 rfl rfl rfl ?_
            refine pv_dup (M := mX7_readPart) dX7_readPart_50 51 rfl rfl ?_
            refine iv_get (M := mX7_readPart) (l1 := 0) (l2 := 160) dX7_readPart_51 FX7 3 wd283 (by decide) (tl86 hT) rfl I42 rfl 54 rfl (fun v46 ev46 pv46 qv46 => ?_)
            have wv46 : v46.toInt = (m40 86 3).toInt := congrArg Int32.toInt ev46
            refine pv_iconst (M := mX7_readPart) (v := 1) dX7_readPart_54 55 rfl (by decide) ?_
            refine iv_iadd (M := mX7_readPart) (X := v46.toInt) (Y := 1) dX7_readPart_55 56 rfl rfl (by decide) (by omega) (by omega) (fun v47 ev47 => ?_)
            refine iv_put (M := mX7_readPart) (l1 := 0) (l2 := 160) dX7_readPart_56 FX7 3 wd283 (by decide) rfl (tl86 hT) rfl rfl rfl I42 rfl (by omega) (by omega) 59 rfl (fun m48 e51 I49 => ?_)
            have K50 := K43.set e51 (wl_r (by omega) (by omega))
            have w52 : (m48 86 3).toInt = v47.toInt := by rw [e51, up2_eq]
            have w53 : (m48 86 2).toInt = (m40 86 2).toInt := by rw [e51, up2_ne (by omega)]
            refine iv_inc (M := mX7_readPart) (C := 1) dX7_readPart_59 62 rfl rfl (by decide) rfl rfl (by decide) (by omega) (by omega) (fun v54 ev54 => ?_)
            show PV _ _ _ _ _ _ _ 62 [.ref 86, .int 2, .int v2, .int v54] [] _
            refine pv_goto (M := mX7_readPart) (tgt := 10) dX7_readPart_62 (by decide) ?_
            exact ih10 v54 m48 n41 (by first | omega | assumption | exact (iv_rng _).2 | exact (iv_rng _).1 | decide) (by first | omega | assumption | exact (iv_rng _).2 | exact (iv_rng _).1 | decide) (by first | omega | assumption | (show (m 86 3).toInt ≤ (m48 86 3).toInt; omega) | decide) (by first | omega | assumption | (show (m48 86 3).toInt ≤ (m48 86 2).toInt; omega) | decide) (by first | omega | assumption | (show (m48 86 2).toInt = (m 86 2).toInt; omega) | decide) I49 K50 (by omega)
          · have c38 := iv_ne (X := v37.toInt) (Y := 38) c38 rfl (by decide)
            refine pv_goto (M := mX7_readPart) (tgt := 65) dX7_readPart_36 (by decide) ?_
            refine pv_aload_n (M := mX7_readPart) 0 dX7_readPart_65 66 rfl rfl rfl ?_
            refine mv_get (M := mX7_readPart) (v := .ref lb) dX7_readPart_66 FX7 1 wd281 (by decide) (tl86 hT) rfl R.2.2.2.1 69 rfl ?_
            refine pv_bipush (M := mX7_readPart) (v := 38) dX7_readPart_69 71 rfl (by decide) ?_
            refine pv_iload_n (M := mX7_readPart) 2 dX7_readPart_71 72 rfl rfl rfl ?_
            refine pv_callv (M := mX7_readPart) (as := [.int 38, .int v2]) (st := []) (kc2 := 0) (ks2 := 0) dX7_readPart_72 wd678 YX6_aimLeaps ⟨wd679, wd680⟩ (mk_get R.2.2.2.2.2.2.1) rfl rfl (s_X6_aimLeaps g hT I32 lb R.2.2.2.2.2 38 v2) rfl rfl (Nat.le_of_ble_eq_true rfl) (by decide) rfl rfl 75 rfl (fun rv h1 q55 => ?_)
            obtain ⟨m56, n57, rfl, rfl, I58, K59, rm56⟩ := q55
            have K59c := K59
            have w60 : (m56 86 3).toInt = (m30 86 3).toInt := congrArg Int32.toInt (K59 86 3 (wr_out (by omega)))
            have w61 : (m56 86 2).toInt = (m30 86 2).toInt := congrArg Int32.toInt (K59 86 2 (wr_out (by omega)))
            have K59 := K33.trans (K59.sub (wr_wr (by omega) (by omega)))
            show PV _ _ _ _ _ _ _ 75 [.ref 86, .int 2, .int v2, .int y3] [] _
            refine pv_iconst (M := mX7_readPart) (v := 1) dX7_readPart_75 76 rfl (by decide) ?_
            have z62 : (1 : Int32).toInt = 1 := by decide
            exact pv_iret (M := mX7_readPart) dX7_readPart_76 rfl rfl ⟨_, _, _, rfl, rfl, I58, K59, by decide, by decide, (by refine ⟨?_, ?_, ?_⟩ <;> omega)⟩
        · have c35 := iv_eq (X := v34.toInt) (Y := 0) c35 rfl (by decide)
          refine pv_iconst (M := mX7_readPart) (v := 0) dX7_readPart_25 26 rfl (by decide) ?_
          have z63 : (0 : Int32).toInt = 0 := by decide
          exact pv_iret (M := mX7_readPart) dX7_readPart_26 rfl rfl ⟨_, _, _, rfl, rfl, I32, K33, by decide, by decide, (by refine ⟨?_, ?_, ?_⟩ <;> omega)⟩
  have z64 : (0 : Int32).toInt = 0 := by decide
  exact lp9 (((160 - 0) : Int).toNat + 1) 0 m n (by first | omega | assumption | exact (iv_rng _).2 | exact (iv_rng _).1 | decide) (by first | omega | assumption | exact (iv_rng _).2 | exact (iv_rng _).1 | decide) (by first | omega | assumption | (show (m 86 3).toInt ≤ (m 86 3).toInt; omega) | decide) (by first | omega | assumption | (show (m 86 3).toInt ≤ (m 86 2).toInt; omega) | decide) (by first | omega | assumption | (show (m 86 2).toInt = (m 86 2).toInt; omega) | decide) I Kp (by omega)

set_option maxHeartbeats 2000000 in
set_option maxRecDepth 20000 in
theorem s_X7_readCondition_v2 (g : pv_G) {T : List mv_T} {m : Nat → Nat → Int32} {n : Nat → Nat → Int64} {r : Nat → Value} {la lb : Nat} (hT : TX T) (I : IV BB m) (R : RX T r la lb) (hp0 : (m 86 3).toInt ≤ (m 86 2).toInt) : PM g mX7_readCondition yX7_readCondition (sqI T BB (wl [(77, 96, none)]) r m 0 1 (fun m' v => (m 86 3).toInt ≤ (m' 86 3).toInt ∧ (m' 86 3).toInt ≤ (m' 86 2).toInt ∧ (m' 86 2).toInt = (m 86 2).toInt)) 22 0 0 [.ref 86, .int 2] (mk T m n r) := by
  have Kp : fr (wl [(77, 96, none)]) m m := fr.rf
  have R0 := R
  have zR := R.2.2.2.2.1.1
  have zR2 := R.2.2.2.2.2.1
  have z65 : 0 ≤ (m 86 3).toInt ∧ (m 86 3).toInt ≤ 160 := I 86 3
  have z66 : 0 ≤ (m 86 2).toInt ∧ (m 86 2).toInt ≤ 160 := I 86 2
  refine PM.of 2 (lo := [.ref 86, .int 2, pv_U, pv_U]) rfl (by decide) rfl rfl (Nat.le_of_ble_eq_true rfl) ?_
  refine pv_aload_n (M := mX7_readCondition) 0 dX7_readCondition_0 1 rfl rfl rfl ?_
  refine mv_get (M := mX7_readCondition) (v := .ref lb) dX7_readCondition_1 FX7 1 wd281 (by decide) (tl86 hT) rfl R.2.2.2.1 4 rfl ?_
  refine pv_callv (M := mX7_readCondition) (as := []) (st := []) (kc2 := 0) (ks2 := 0) dX7_readCondition_4 wd666 YX6_steps ⟨wd667, wd668⟩ (mk_get R.2.2.2.2.2.2.1) rfl rfl (s_X6_steps g hT I lb R.2.2.2.2.2) rfl rfl (Nat.le_of_ble_eq_true rfl) (by decide) rfl rfl 7 rfl (fun rv h1 q1 => ?_)
  obtain ⟨v2, rfl, rfl, pv2, qv2, rv2⟩ := q1
  show PV _ _ _ _ _ _ _ 7 [.ref 86, .int 2, pv_U, pv_U] [.int v2] _
  refine pv_istore_n (M := mX7_readCondition) 2 (lo2 := [.ref 86, .int 2, .int v2, pv_U]) dX7_readCondition_7 8 rfl rfl (by decide) rfl rfl ?_
  refine pv_iconst (M := mX7_readCondition) (v := 0) dX7_readCondition_8 9 rfl (by decide) ?_
  refine pv_istore_n (M := mX7_readCondition) 3 (lo2 := [.ref 86, .int 2, .int v2, .int 0]) dX7_readCondition_9 10 rfl rfl (by decide) rfl rfl ?_
  have lp9 : ∀ (fuel8 : Nat) (y3 : Int32) (m4 : Nat → Nat → Int32) (n5 : Nat → Nat → Int64), (0 ≤ y3.toInt) → (y3.toInt ≤ 160) → ((m 86 3).toInt ≤ (m4 86 3).toInt) → ((m4 86 3).toInt ≤ (m4 86 2).toInt) → ((m4 86 2).toInt = (m 86 2).toInt) → IV BB m4 → fr (wl [(77, 96, none)]) m m4 → ((160 - y3.toInt) : Int).toNat < fuel8 → PV none g mX7_readCondition (sqI T BB (wl [(77, 96, none)]) r m 0 1 (fun m' v => (m 86 3).toInt ≤ (m' 86 3).toInt ∧ (m' 86 3).toInt ≤ (m' 86 2).toInt ∧ (m' 86 2).toInt = (m 86 2).toInt)) 22 0 0 10 [.ref 86, .int 2, .int v2, .int y3] [] (mk T m4 n5 r) := by
    intro fuel8
    induction fuel8 with
    | zero => intro y3 m4 n5 b11 b12 b13 b14 b15 I6 K7 z16; omega
    | succ fuel8 ih10 =>
      intro y3 m4 n5 b11 b12 b13 b14 b15 I6 K7 z16
      have z17 : 0 ≤ (m4 86 3).toInt ∧ (m4 86 3).toInt ≤ 160 := I6 86 3
      have z18 : 0 ≤ (m4 86 2).toInt ∧ (m4 86 2).toInt ≤ 160 := I6 86 2
      refine pv_iload_n (M := mX7_readCondition) 3 dX7_readCondition_10 11 rfl rfl rfl ?_
      refine pv_sipush (M := mX7_readCondition) (v := 160) dX7_readCondition_11 14 rfl (by decide) ?_
      refine pv_icmp_ge (M := mX7_readCondition) (tgt := 65) dX7_readCondition_14 17 rfl (by decide) (fun c19 => ?_) (fun c19 => ?_)
      · have c19 := iv_le (X := 160) (Y := y3.toInt) c19 (by decide) rfl
        refine pv_aload_n (M := mX7_readCondition) 0 dX7_readCondition_65 66 rfl rfl rfl ?_
        refine mv_get (M := mX7_readCondition) (v := .ref lb) dX7_readCondition_66 FX7 1 wd281 (by decide) (tl86 hT) rfl R.2.2.2.1 69 rfl ?_
        refine pv_bipush (M := mX7_readCondition) (v := 124) dX7_readCondition_69 71 rfl (by decide) ?_
        refine pv_iload_n (M := mX7_readCondition) 2 dX7_readCondition_71 72 rfl rfl rfl ?_
        refine pv_callv (M := mX7_readCondition) (as := [.int 124, .int v2]) (st := []) (kc2 := 0) (ks2 := 0) dX7_readCondition_72 wd678 YX6_aimLeaps ⟨wd679, wd680⟩ (mk_get R.2.2.2.2.2.2.1) rfl rfl (s_X6_aimLeaps g hT I6 lb R.2.2.2.2.2 124 v2) rfl rfl (Nat.le_of_ble_eq_true rfl) (by decide) rfl rfl 75 rfl (fun rv h1 q20 => ?_)
        obtain ⟨m21, n22, rfl, rfl, I23, K24, rm21⟩ := q20
        have K24c := K24
        have w25 : (m21 86 3).toInt = (m4 86 3).toInt := congrArg Int32.toInt (K24 86 3 (wr_out (by omega)))
        have w26 : (m21 86 2).toInt = (m4 86 2).toInt := congrArg Int32.toInt (K24 86 2 (wr_out (by omega)))
        have K24 := K7.trans (K24.sub (wr_wr (by omega) (by omega)))
        show PV _ _ _ _ _ _ _ 75 [.ref 86, .int 2, .int v2, .int y3] [] _
        refine pv_iconst (M := mX7_readCondition) (v := 1) dX7_readCondition_75 76 rfl (by decide) ?_
        have z27 : (1 : Int32).toInt = 1 := by decide
        exact pv_iret (M := mX7_readCondition) dX7_readCondition_76 rfl rfl ⟨_, _, _, rfl, rfl, I23, K24, by decide, by decide, (by refine ⟨?_, ?_, ?_⟩ <;> omega)⟩
      · have c19 := iv_nle (X := 160) (Y := y3.toInt) c19 (by decide) rfl
        refine pv_aload_n (M := mX7_readCondition) 0 dX7_readCondition_17 18 rfl rfl rfl ?_
        refine pv_iload_n (M := mX7_readCondition) 1 dX7_readCondition_18 19 rfl rfl rfl ?_
        have z28 : (2 : Int32).toInt = 2 := by decide
        refine pv_callv (M := mX7_readCondition) (as := [.int 2]) (st := []) (kc2 := 0) (ks2 := 0) dX7_readCondition_19 wd670 YX7_readPart ⟨wd672, wd13⟩ (mk_get (tl86 hT)) rfl rfl (s_X7_readPart_v2 g hT I6 R (by first | omega | assumption | exact (iv_rng _).2 | exact (iv_rng _).1 | decide)) rfl rfl (Nat.le_of_ble_eq_true rfl) (by decide) rfl rfl 22 rfl (fun rv h1 q29 => ?_)
        obtain ⟨m30, n31, v34, rfl, rfl, I32, K33, pv34, qv34, rv34⟩ := q29
        replace rv34 : (m4 86 3).toInt ≤ (m30 86 3).toInt ∧ (m30 86 3).toInt ≤ (m30 86 2).toInt ∧ (m30 86 2).toInt = (m4 86 2).toInt := rv34
        have K33c := K33
        have K33 := K7.trans (K33.sub (fun _ _ q => q))
        show PV _ _ _ _ _ _ _ 22 [.ref 86, .int 2, .int v2, .int y3] [.int v34] _
        refine pv_if_ne (M := mX7_readCondition) (tgt := 27) dX7_readCondition_22 25 rfl (by decide) (fun c35 => ?_) (fun c35 => ?_)
        · have c35 := iv_ne (X := v34.toInt) (Y := 0) c35 rfl (by decide)
          refine pv_aload_n (M := mX7_readCondition) 0 dX7_readCondition_27 28 rfl rfl rfl ?_
          refine pv_callv (M := mX7_readCondition) (as := []) (st := []) (kc2 := 0) (ks2 := 0) dX7_readCondition_28 wd527 YX7_peek ⟨wd529, wd2⟩ (mk_get (tl86 hT)) rfl rfl (s_X7_peek g hT I32 R) rfl rfl (Nat.le_of_ble_eq_true rfl) (by decide) rfl rfl 31 rfl (fun rv h1 q36 => ?_)
          obtain ⟨v37, rfl, rfl, pv37, qv37, rv37⟩ := q36
          replace rv37 : v37.toInt = -1 ∨ (m30 86 3).toInt < (m30 86 2).toInt := rv37
          show PV _ _ _ _ _ _ _ 31 [.ref 86, .int 2, .int v2, .int y3] [.int v37] _
          refine pv_bipush (M := mX7_readCondition) (v := 124) dX7_readCondition_31 33 rfl (by decide) ?_
          refine pv_icmp_eq (M := mX7_readCondition) (tgt := 39) dX7_readCondition_33 36 rfl (by decide) (fun c38 => ?_) (fun c38 => ?_)
          · have c38 := iv_eq (X := v37.toInt) (Y := 124) c38 rfl (by decide)
            refine pv_aload_n (M := mX7_readCondition) 0 dX7_readCondition_39 40 rfl rfl rfl ?_
            refine mv_get (M := mX7_readCondition) (v := .ref lb) dX7_readCondition_40 FX7 1 wd281 (by decide) (tl86 hT) rfl R.2.2.2.1 43 rfl ?_
            refine pv_bipush (M := mX7_readCondition) (v := 124) dX7_readCondition_43 45 rfl (by decide) ?_
            refine pv_iconst (M := mX7_readCondition) (v := (-1)) dX7_readCondition_45 46 rfl (by decide) ?_
            refine pv_callv (M := mX7_readCondition) (as := [.int 124, .int (-1)]) (st := []) (kc2 := 0) (ks2 := 0) dX7_readCondition_46 wd567 YX6_emit ⟨wd568, wd569⟩ (mk_get R.2.2.2.2.2.2.1) rfl rfl (s_X6_emit g hT I32 lb R.2.2.2.2.2 124 (-1) (by decide) (by decide)) rfl rfl (Nat.le_of_ble_eq_true rfl) (by decide) rfl rfl 49 rfl (fun rv h1 q39 => ?_)
            obtain ⟨m40, n41, rfl, rfl, I42, K43, rm40⟩ := q39
            have K43c := K43
            have w44 : (m40 86 3).toInt = (m30 86 3).toInt := congrArg Int32.toInt (K43 86 3 (wr_out (by omega)))
            have w45 : (m40 86 2).toInt = (m30 86 2).toInt := congrArg Int32.toInt (K43 86 2 (wr_out (by omega)))
            have K43 := K33.trans (K43.sub (wr_wr (by omega) (by omega)))
            show PV _ _ _ _ _ _ _ 49 [.ref 86, .int 2, .int v2, .int y3] [] _
            refine pv_aload_n (M := mX7_readCondition) 0 dX7_readCondition_49 50 rfl rfl rfl ?_
            refine pv_dup (M := mX7_readCondition) dX7_readCondition_50 51 rfl rfl ?_
            refine iv_get (M := mX7_readCondition) (l1 := 0) (l2 := 160) dX7_readCondition_51 FX7 3 wd283 (by decide) (tl86 hT) rfl I42 rfl 54 rfl (fun v46 ev46 pv46 qv46 => ?_)
            have wv46 : v46.toInt = (m40 86 3).toInt := congrArg Int32.toInt ev46
            refine pv_iconst (M := mX7_readCondition) (v := 1) dX7_readCondition_54 55 rfl (by decide) ?_
            refine iv_iadd (M := mX7_readCondition) (X := v46.toInt) (Y := 1) dX7_readCondition_55 56 rfl rfl (by decide) (by omega) (by omega) (fun v47 ev47 => ?_)
            refine iv_put (M := mX7_readCondition) (l1 := 0) (l2 := 160) dX7_readCondition_56 FX7 3 wd283 (by decide) rfl (tl86 hT) rfl rfl rfl I42 rfl (by omega) (by omega) 59 rfl (fun m48 e51 I49 => ?_)
            have K50 := K43.set e51 (wl_r (by omega) (by omega))
            have w52 : (m48 86 3).toInt = v47.toInt := by rw [e51, up2_eq]
            have w53 : (m48 86 2).toInt = (m40 86 2).toInt := by rw [e51, up2_ne (by omega)]
            refine iv_inc (M := mX7_readCondition) (C := 1) dX7_readCondition_59 62 rfl rfl (by decide) rfl rfl (by decide) (by omega) (by omega) (fun v54 ev54 => ?_)
            show PV _ _ _ _ _ _ _ 62 [.ref 86, .int 2, .int v2, .int v54] [] _
            refine pv_goto (M := mX7_readCondition) (tgt := 10) dX7_readCondition_62 (by decide) ?_
            exact ih10 v54 m48 n41 (by first | omega | assumption | exact (iv_rng _).2 | exact (iv_rng _).1 | decide) (by first | omega | assumption | exact (iv_rng _).2 | exact (iv_rng _).1 | decide) (by first | omega | assumption | (show (m 86 3).toInt ≤ (m48 86 3).toInt; omega) | decide) (by first | omega | assumption | (show (m48 86 3).toInt ≤ (m48 86 2).toInt; omega) | decide) (by first | omega | assumption | (show (m48 86 2).toInt = (m 86 2).toInt; omega) | decide) I49 K50 (by omega)
          · have c38 := iv_ne (X := v37.toInt) (Y := 124) c38 rfl (by decide)
            refine pv_goto (M := mX7_readCondition) (tgt := 65) dX7_readCondition_36 (by decide) ?_
            refine pv_aload_n (M := mX7_readCondition) 0 dX7_readCondition_65 66 rfl rfl rfl ?_
            refine mv_get (M := mX7_readCondition) (v := .ref lb) dX7_readCondition_66 FX7 1 wd281 (by decide) (tl86 hT) rfl R.2.2.2.1 69 rfl ?_
            refine pv_bipush (M := mX7_readCondition) (v := 124) dX7_readCondition_69 71 rfl (by decide) ?_
            refine pv_iload_n (M := mX7_readCondition) 2 dX7_readCondition_71 72 rfl rfl rfl ?_
            refine pv_callv (M := mX7_readCondition) (as := [.int 124, .int v2]) (st := []) (kc2 := 0) (ks2 := 0) dX7_readCondition_72 wd678 YX6_aimLeaps ⟨wd679, wd680⟩ (mk_get R.2.2.2.2.2.2.1) rfl rfl (s_X6_aimLeaps g hT I32 lb R.2.2.2.2.2 124 v2) rfl rfl (Nat.le_of_ble_eq_true rfl) (by decide) rfl rfl 75 rfl (fun rv h1 q55 => ?_)
            obtain ⟨m56, n57, rfl, rfl, I58, K59, rm56⟩ := q55
            have K59c := K59
            have w60 : (m56 86 3).toInt = (m30 86 3).toInt := congrArg Int32.toInt (K59 86 3 (wr_out (by omega)))
            have w61 : (m56 86 2).toInt = (m30 86 2).toInt := congrArg Int32.toInt (K59 86 2 (wr_out (by omega)))
            have K59 := K33.trans (K59.sub (wr_wr (by omega) (by omega)))
            show PV _ _ _ _ _ _ _ 75 [.ref 86, .int 2, .int v2, .int y3] [] _
            refine pv_iconst (M := mX7_readCondition) (v := 1) dX7_readCondition_75 76 rfl (by decide) ?_
            have z62 : (1 : Int32).toInt = 1 := by decide
            exact pv_iret (M := mX7_readCondition) dX7_readCondition_76 rfl rfl ⟨_, _, _, rfl, rfl, I58, K59, by decide, by decide, (by refine ⟨?_, ?_, ?_⟩ <;> omega)⟩
        · have c35 := iv_eq (X := v34.toInt) (Y := 0) c35 rfl (by decide)
          refine pv_iconst (M := mX7_readCondition) (v := 0) dX7_readCondition_25 26 rfl (by decide) ?_
          have z63 : (0 : Int32).toInt = 0 := by decide
          exact pv_iret (M := mX7_readCondition) dX7_readCondition_26 rfl rfl ⟨_, _, _, rfl, rfl, I32, K33, by decide, by decide, (by refine ⟨?_, ?_, ?_⟩ <;> omega)⟩
  have z64 : (0 : Int32).toInt = 0 := by decide
  exact lp9 (((160 - 0) : Int).toNat + 1) 0 m n (by first | omega | assumption | exact (iv_rng _).2 | exact (iv_rng _).1 | decide) (by first | omega | assumption | exact (iv_rng _).2 | exact (iv_rng _).1 | decide) (by first | omega | assumption | (show (m 86 3).toInt ≤ (m 86 3).toInt; omega) | decide) (by first | omega | assumption | (show (m 86 3).toInt ≤ (m 86 2).toInt; omega) | decide) (by first | omega | assumption | (show (m 86 2).toInt = (m 86 2).toInt; omega) | decide) I Kp (by omega)

set_option maxHeartbeats 2000000 in
set_option maxRecDepth 20000 in
theorem s_X7_readFactor_v1 (g : pv_G) {T : List mv_T} {m : Nat → Nat → Int32} {n : Nat → Nat → Int64} {r : Nat → Value} {la lb : Nat} (hT : TX T) (I : IV BB m) (R : RX T r la lb) (hp0 : (m 86 3).toInt ≤ (m 86 2).toInt) : PM g mX7_readFactor yX7_readFactor (sqI T BB (wl [(77, 96, none)]) r m 0 1 (fun m' v => (m 86 3).toInt ≤ (m' 86 3).toInt ∧ (m' 86 3).toInt ≤ (m' 86 2).toInt ∧ (m' 86 2).toInt = (m 86 2).toInt)) 20 0 0 [.ref 86, .int 1] (mk T m n r) := by
  have Kp : fr (wl [(77, 96, none)]) m m := fr.rf
  have R0 := R
  have zR := R.2.2.2.2.1.1
  have zR2 := R.2.2.2.2.2.1
  have z82 : 0 ≤ (m 86 3).toInt ∧ (m 86 3).toInt ≤ 160 := I 86 3
  have z83 : 0 ≤ (m 86 2).toInt ∧ (m 86 2).toInt ≤ 160 := I 86 2
  refine PM.of 1 (lo := [.ref 86, .int 1, pv_U]) rfl (by decide) rfl rfl (Nat.le_of_ble_eq_true rfl) ?_
  refine pv_aload_n (M := mX7_readFactor) 0 dX7_readFactor_0 1 rfl rfl rfl ?_
  refine pv_callv (M := mX7_readFactor) (as := []) (st := []) (kc2 := 0) (ks2 := 0) dX7_readFactor_1 wd527 YX7_peek ⟨wd529, wd2⟩ (mk_get (tl86 hT)) rfl rfl (s_X7_peek g hT I R) rfl rfl (Nat.le_of_ble_eq_true rfl) (by decide) rfl rfl 4 rfl (fun rv h1 q1 => ?_)
  obtain ⟨v2, rfl, rfl, pv2, qv2, rv2⟩ := q1
  replace rv2 : v2.toInt = -1 ∨ (m 86 3).toInt < (m 86 2).toInt := rv2
  show PV _ _ _ _ _ _ _ 4 [.ref 86, .int 1, pv_U] [.int v2] _
  refine pv_bipush (M := mX7_readFactor) (v := 91) dX7_readFactor_4 6 rfl (by decide) ?_
  refine pv_icmp_ne (M := mX7_readFactor) (tgt := 42) dX7_readFactor_6 9 rfl (by decide) (fun c3 => ?_) (fun c3 => ?_)
  · have c3 := iv_ne (X := v2.toInt) (Y := 91) c3 rfl (by decide)
    refine pv_aload_n (M := mX7_readFactor) 0 dX7_readFactor_42 43 rfl rfl rfl ?_
    refine pv_callv (M := mX7_readFactor) (as := []) (st := []) (kc2 := 0) (ks2 := 0) dX7_readFactor_43 wd559 YX7_digitAhead ⟨wd561, wd9⟩ (mk_get (tl86 hT)) rfl rfl (s_X7_digitAhead g hT I R) rfl rfl (Nat.le_of_ble_eq_true rfl) (by decide) rfl rfl 46 rfl (fun rv h1 q4 => ?_)
    obtain ⟨v5, rfl, rfl, pv5, qv5, rv5⟩ := q4
    replace rv5 : v5 = 0 ∨ ((m 86 3).toInt < (m 86 2).toInt ∧ 48 ≤ (m 87 (m 86 3).toInt.toNat).toInt ∧ (m 87 (m 86 3).toInt.toNat).toInt ≤ 57) := rv5
    show PV _ _ _ _ _ _ _ 46 [.ref 86, .int 1, pv_U] [.int v5] _
    refine pv_if_eq (M := mX7_readFactor) (tgt := 54) dX7_readFactor_46 49 rfl (by decide) (fun c6 => ?_) (fun c6 => ?_)
    · have c6 := iv_eq (X := v5.toInt) (Y := 0) c6 rfl (by decide)
      refine pv_aload_n (M := mX7_readFactor) 0 dX7_readFactor_54 55 rfl rfl rfl ?_
      refine pv_callv (M := mX7_readFactor) (as := []) (st := []) (kc2 := 0) (ks2 := 0) dX7_readFactor_55 wd527 YX7_peek ⟨wd529, wd2⟩ (mk_get (tl86 hT)) rfl rfl (s_X7_peek g hT I R) rfl rfl (Nat.le_of_ble_eq_true rfl) (by decide) rfl rfl 58 rfl (fun rv h1 q7 => ?_)
      obtain ⟨v8, rfl, rfl, pv8, qv8, rv8⟩ := q7
      replace rv8 : v8.toInt = -1 ∨ (m 86 3).toInt < (m 86 2).toInt := rv8
      show PV _ _ _ _ _ _ _ 58 [.ref 86, .int 1, pv_U] [.int v8] _
      refine pv_iconst (M := mX7_readFactor) (v := (-1)) dX7_readFactor_58 59 rfl (by decide) ?_
      refine pv_icmp_ne (M := mX7_readFactor) (tgt := 66) dX7_readFactor_59 62 rfl (by decide) (fun c9 => ?_) (fun c9 => ?_)
      · have c9 := iv_ne (X := v8.toInt) (Y := (-1)) c9 rfl (by decide)
        refine pv_ldcS (M := mX7_readFactor) dX7_readFactor_66 rfl 68 rfl ?_
        refine pv_aload_n (M := mX7_readFactor) 0 dX7_readFactor_68 69 rfl rfl rfl ?_
        refine pv_callv (M := mX7_readFactor) (as := []) (st := [.retAddr (g.2.2.1 6 + 1)]) (kc2 := 0) (ks2 := 0) dX7_readFactor_69 wd527 YX7_peek ⟨wd529, wd2⟩ (mk_get (tl86 hT)) rfl rfl (s_X7_peek g hT I R) rfl rfl (Nat.le_of_ble_eq_true rfl) (by decide) rfl rfl 72 rfl (fun rv h1 q10 => ?_)
        obtain ⟨v11, rfl, rfl, pv11, qv11, rv11⟩ := q10
        replace rv11 : v11.toInt = -1 ∨ (m 86 3).toInt < (m 86 2).toInt := rv11
        show PV _ _ _ _ _ _ _ 72 [.ref 86, .int 1, pv_U] [.int v11, .retAddr (g.2.2.1 6 + 1)] _
        refine iv_i2cU (M := mX7_readFactor) dX7_readFactor_72 73 rfl (fun v12 ev12 => ?_)
        refine pv_callvS (M := mX7_readFactor) (as := [.int v12]) (st := []) (kc2 := 0) (ks2 := 0) dX7_readFactor_73 wd572 YJ0_indexOf_0f7a4 ⟨wd573, wd574⟩ rfl (s_J0_indexOf_0f7a4 g hT I v12) rfl rfl (Nat.le_of_ble_eq_true rfl) (by decide) rfl rfl 76 rfl (fun rv h1 q13 => ?_)
        obtain ⟨v14, rfl, rfl, pv14, qv14, rv14⟩ := q13
        show PV _ _ _ _ _ _ _ 76 [.ref 86, .int 1, pv_U] [.int v14] _
        refine pv_istore_n (M := mX7_readFactor) 2 (lo2 := [.ref 86, .int 1, .int v14]) dX7_readFactor_76 77 rfl rfl (by decide) rfl rfl ?_
        refine pv_iload_n (M := mX7_readFactor) 2 dX7_readFactor_77 78 rfl rfl rfl ?_
        refine pv_if_ge (M := mX7_readFactor) (tgt := 87) dX7_readFactor_78 81 rfl (by decide) (fun c15 => ?_) (fun c15 => ?_)
        · have c15 := iv_le (X := 0) (Y := v14.toInt) c15 (by decide) rfl
          refine pv_aload_n (M := mX7_readFactor) 0 dX7_readFactor_87 88 rfl rfl rfl ?_
          refine mv_get (M := mX7_readFactor) (v := .ref lb) dX7_readFactor_88 FX7 1 wd281 (by decide) (tl86 hT) rfl R.2.2.2.1 91 rfl ?_
          refine pv_bipush (M := mX7_readFactor) (v := 36) dX7_readFactor_91 93 rfl (by decide) ?_
          refine pv_iload_n (M := mX7_readFactor) 2 dX7_readFactor_93 94 rfl rfl rfl ?_
          refine pv_callv (M := mX7_readFactor) (as := [.int 36, .int v14]) (st := []) (kc2 := 0) (ks2 := 0) dX7_readFactor_94 wd567 YX6_emit ⟨wd568, wd569⟩ (mk_get R.2.2.2.2.2.2.1) rfl rfl (s_X6_emit g hT I lb R.2.2.2.2.2 36 v14 (by omega) (by omega)) rfl rfl (Nat.le_of_ble_eq_true rfl) (by decide) rfl rfl 97 rfl (fun rv h1 q16 => ?_)
          obtain ⟨m17, n18, rfl, rfl, I19, K20, rm17⟩ := q16
          have K20c := K20
          have w21 : (m17 86 3).toInt = (m 86 3).toInt := congrArg Int32.toInt (K20 86 3 (wr_out (by omega)))
          have w22 : (m17 86 2).toInt = (m 86 2).toInt := congrArg Int32.toInt (K20 86 2 (wr_out (by omega)))
          have K20 := Kp.trans (K20.sub (wr_wr (by omega) (by omega)))
          show PV _ _ _ _ _ _ _ 97 [.ref 86, .int 1, .int v14] [] _
          refine pv_aload_n (M := mX7_readFactor) 0 dX7_readFactor_97 98 rfl rfl rfl ?_
          refine pv_dup (M := mX7_readFactor) dX7_readFactor_98 99 rfl rfl ?_
          refine iv_get (M := mX7_readFactor) (l1 := 0) (l2 := 160) dX7_readFactor_99 FX7 3 wd283 (by decide) (tl86 hT) rfl I19 rfl 102 rfl (fun v23 ev23 pv23 qv23 => ?_)
          have wv23 : v23.toInt = (m17 86 3).toInt := congrArg Int32.toInt ev23
          refine pv_iconst (M := mX7_readFactor) (v := 1) dX7_readFactor_102 103 rfl (by decide) ?_
          refine iv_iadd (M := mX7_readFactor) (X := v23.toInt) (Y := 1) dX7_readFactor_103 104 rfl rfl (by decide) (by omega) (by omega) (fun v24 ev24 => ?_)
          refine iv_put (M := mX7_readFactor) (l1 := 0) (l2 := 160) dX7_readFactor_104 FX7 3 wd283 (by decide) rfl (tl86 hT) rfl rfl rfl I19 rfl (by omega) (by omega) 107 rfl (fun m25 e28 I26 => ?_)
          have K27 := K20.set e28 (wl_r (by omega) (by omega))
          have w29 : (m25 86 3).toInt = v24.toInt := by rw [e28, up2_eq]
          have w30 : (m25 86 2).toInt = (m17 86 2).toInt := by rw [e28, up2_ne (by omega)]
          refine pv_iconst (M := mX7_readFactor) (v := 1) dX7_readFactor_107 108 rfl (by decide) ?_
          have z31 : (1 : Int32).toInt = 1 := by decide
          exact pv_iret (M := mX7_readFactor) dX7_readFactor_108 rfl rfl ⟨_, _, _, rfl, rfl, I26, K27, by decide, by decide, (by refine ⟨?_, ?_, ?_⟩ <;> omega)⟩
        · have c15 := iv_nle (X := 0) (Y := v14.toInt) c15 (by decide) rfl
          refine pv_aload_n (M := mX7_readFactor) 0 dX7_readFactor_81 82 rfl rfl rfl ?_
          refine pv_iconst (M := mX7_readFactor) (v := 1) dX7_readFactor_82 83 rfl (by decide) ?_
          have z32 : (1 : Int32).toInt = 1 := by decide
          refine pv_callv (M := mX7_readFactor) (as := [.int 1]) (st := []) (kc2 := 0) (ks2 := 0) dX7_readFactor_83 wd531 YX7_fail ⟨wd533, wd3⟩ (mk_get (tl86 hT)) rfl rfl (s_X7_fail g hT I R 1 (by first | omega | assumption | exact (iv_rng _).2 | exact (iv_rng _).1 | decide)) rfl rfl (Nat.le_of_ble_eq_true rfl) (by decide) rfl rfl 86 rfl (fun rv h1 q33 => ?_)
          obtain ⟨m34, n35, v38, rfl, rfl, I36, K37, pv38, qv38, rv38⟩ := q33
          replace rv38 : v38.toInt = 0 ∧ (m 86 3).toInt ≤ (m34 86 3).toInt ∧ (m34 86 3).toInt ≤ (m34 86 2).toInt ∧ (m34 86 2).toInt = (m 86 2).toInt := rv38
          have K37c := K37
          have K37 := Kp.trans (K37.sub (fun _ _ q => q))
          show PV _ _ _ _ _ _ _ 86 [.ref 86, .int 1, .int v14] [.int v38] _
          exact pv_iret (M := mX7_readFactor) dX7_readFactor_86 rfl (iv_nz (by omega) (by omega)) ⟨_, _, _, rfl, rfl, I36, K37, by omega, by omega, (by refine ⟨?_, ?_, ?_⟩ <;> omega)⟩
      · have c9 := iv_eq (X := v8.toInt) (Y := (-1)) c9 rfl (by decide)
        refine pv_iconst (M := mX7_readFactor) (v := (-1)) dX7_readFactor_62 63 rfl (by decide) ?_
        refine pv_goto (M := mX7_readFactor) (tgt := 76) dX7_readFactor_63 (by decide) ?_
        refine pv_istore_n (M := mX7_readFactor) 2 (lo2 := [.ref 86, .int 1, .int (-1)]) dX7_readFactor_76 77 rfl rfl (by decide) rfl rfl ?_
        refine pv_iload_n (M := mX7_readFactor) 2 dX7_readFactor_77 78 rfl rfl rfl ?_
        refine pv_if_ge (M := mX7_readFactor) (tgt := 87) dX7_readFactor_78 81 rfl (by decide) (fun q => absurd q (by decide)) (fun _ => ?_)
        refine pv_aload_n (M := mX7_readFactor) 0 dX7_readFactor_81 82 rfl rfl rfl ?_
        refine pv_iconst (M := mX7_readFactor) (v := 1) dX7_readFactor_82 83 rfl (by decide) ?_
        have z40 : (1 : Int32).toInt = 1 := by decide
        refine pv_callv (M := mX7_readFactor) (as := [.int 1]) (st := []) (kc2 := 0) (ks2 := 0) dX7_readFactor_83 wd531 YX7_fail ⟨wd533, wd3⟩ (mk_get (tl86 hT)) rfl rfl (s_X7_fail g hT I R 1 (by first | omega | assumption | exact (iv_rng _).2 | exact (iv_rng _).1 | decide)) rfl rfl (Nat.le_of_ble_eq_true rfl) (by decide) rfl rfl 86 rfl (fun rv h1 q41 => ?_)
        obtain ⟨m42, n43, v46, rfl, rfl, I44, K45, pv46, qv46, rv46⟩ := q41
        replace rv46 : v46.toInt = 0 ∧ (m 86 3).toInt ≤ (m42 86 3).toInt ∧ (m42 86 3).toInt ≤ (m42 86 2).toInt ∧ (m42 86 2).toInt = (m 86 2).toInt := rv46
        have K45c := K45
        have K45 := Kp.trans (K45.sub (fun _ _ q => q))
        show PV _ _ _ _ _ _ _ 86 [.ref 86, .int 1, .int (-1)] [.int v46] _
        exact pv_iret (M := mX7_readFactor) dX7_readFactor_86 rfl (iv_nz (by omega) (by omega)) ⟨_, _, _, rfl, rfl, I44, K45, by omega, by omega, (by refine ⟨?_, ?_, ?_⟩ <;> omega)⟩
    · have pc6 := rv5.resolve_left c6
      have c6 := iv_ne (X := v5.toInt) (Y := 0) c6 rfl (by decide)
      refine pv_aload_n (M := mX7_readFactor) 0 dX7_readFactor_49 50 rfl rfl rfl ?_
      refine pv_callv (M := mX7_readFactor) (as := []) (st := []) (kc2 := 0) (ks2 := 0) dX7_readFactor_50 wd563 YX7_readNumber ⟨wd565, wd10⟩ (mk_get (tl86 hT)) rfl rfl (s_X7_readNumber g hT I R (by first | omega | assumption | exact (iv_rng _).2 | exact (iv_rng _).1 | decide)) rfl rfl (Nat.le_of_ble_eq_true rfl) (by decide) rfl rfl 53 rfl (fun rv h1 q47 => ?_)
      obtain ⟨m48, n49, v52, rfl, rfl, I50, K51, pv52, qv52, rv52⟩ := q47
      replace rv52 : (m 86 3).toInt ≤ (m48 86 3).toInt ∧ (m48 86 3).toInt ≤ (m48 86 2).toInt ∧ (m48 86 2).toInt = (m 86 2).toInt := rv52
      have K51c := K51
      have K51 := Kp.trans (K51.sub (fun _ _ q => q))
      show PV _ _ _ _ _ _ _ 53 [.ref 86, .int 1, pv_U] [.int v52] _
      exact pv_iret (M := mX7_readFactor) dX7_readFactor_53 rfl (iv_nz (by omega) (by omega)) ⟨_, _, _, rfl, rfl, I50, K51, by omega, by omega, (by refine ⟨?_, ?_, ?_⟩ <;> omega)⟩
  · have c3 := iv_eq (X := v2.toInt) (Y := 91) c3 rfl (by decide)
    refine pv_aload_n (M := mX7_readFactor) 0 dX7_readFactor_9 10 rfl rfl rfl ?_
    refine pv_iload_n (M := mX7_readFactor) 1 dX7_readFactor_10 11 rfl rfl rfl ?_
    have z53 : (1 : Int32).toInt = 1 := by decide
    refine pv_callv (M := mX7_readFactor) (as := [.int 1]) (st := []) (kc2 := 0) (ks2 := 0) dX7_readFactor_11 wd551 YX7_open ⟨wd553, wd7⟩ (mk_get (tl86 hT)) rfl rfl (s_X7_open g hT I R 1 (by first | omega | assumption | exact (iv_rng _).2 | exact (iv_rng _).1 | decide)) rfl rfl (Nat.le_of_ble_eq_true rfl) (by decide) rfl rfl 14 rfl (fun rv h1 q54 => ?_)
    obtain ⟨m55, n56, v59, rfl, rfl, I57, K58, pv59, qv59, rv59⟩ := q54
    replace rv59 : (v59 = 0 ∨ (1 : Int) ≤ 5) ∧ (m 86 3).toInt ≤ (m55 86 3).toInt ∧ (m55 86 3).toInt ≤ (m55 86 2).toInt ∧ (m55 86 2).toInt = (m 86 2).toInt := by have q_ := rv59; (try rw [z53] at q_); exact q_
    have K58c := K58
    have K58 := Kp.trans (K58.sub (fun _ _ q => q))
    show PV _ _ _ _ _ _ _ 14 [.ref 86, .int 1, pv_U] [.int v59] _
    refine pv_if_eq (M := mX7_readFactor) (tgt := 40) dX7_readFactor_14 17 rfl (by decide) (fun c60 => ?_) (fun c60 => ?_)
    · have c60 := iv_eq (X := v59.toInt) (Y := 0) c60 rfl (by decide)
      refine pv_iconst (M := mX7_readFactor) (v := 0) dX7_readFactor_40 41 rfl (by decide) ?_
      have z61 : (0 : Int32).toInt = 0 := by decide
      exact pv_iret (M := mX7_readFactor) dX7_readFactor_41 rfl rfl ⟨_, _, _, rfl, rfl, I57, K58, by decide, by decide, (by refine ⟨?_, ?_, ?_⟩ <;> omega)⟩
    · have pc60 := rv59.1.resolve_left c60
      have c60 := iv_ne (X := v59.toInt) (Y := 0) c60 rfl (by decide)
      refine pv_aload_n (M := mX7_readFactor) 0 dX7_readFactor_17 18 rfl rfl rfl ?_
      refine pv_iload_n (M := mX7_readFactor) 1 dX7_readFactor_18 19 rfl rfl rfl ?_
      refine pv_iconst (M := mX7_readFactor) (v := 1) dX7_readFactor_19 20 rfl (by decide) ?_
      refine pv_iadd (M := mX7_readFactor) (v := 2) dX7_readFactor_20 21 rfl (by decide) ?_
      have z63 : (2 : Int32).toInt = 2 := by decide
      refine pv_callv (M := mX7_readFactor) (as := [.int 2]) (st := []) (kc2 := 0) (ks2 := 0) dX7_readFactor_21 wd539 YX7_readSum ⟨wd541, wd4⟩ (mk_get (tl86 hT)) rfl rfl (s_X7_readSum_v2 g hT I57 R (by first | omega | assumption | exact (iv_rng _).2 | exact (iv_rng _).1 | decide)) rfl rfl (Nat.le_of_ble_eq_true rfl) (by decide) rfl rfl 24 rfl (fun rv h1 q64 => ?_)
      obtain ⟨m65, n66, v69, rfl, rfl, I67, K68, pv69, qv69, rv69⟩ := q64
      replace rv69 : (m55 86 3).toInt ≤ (m65 86 3).toInt ∧ (m65 86 3).toInt ≤ (m65 86 2).toInt ∧ (m65 86 2).toInt = (m55 86 2).toInt := rv69
      have K68c := K68
      have K68 := K58.trans (K68.sub (fun _ _ q => q))
      show PV _ _ _ _ _ _ _ 24 [.ref 86, .int 1, pv_U] [.int v69] _
      refine pv_if_eq (M := mX7_readFactor) (tgt := 40) dX7_readFactor_24 27 rfl (by decide) (fun c70 => ?_) (fun c70 => ?_)
      · have c70 := iv_eq (X := v69.toInt) (Y := 0) c70 rfl (by decide)
        refine pv_iconst (M := mX7_readFactor) (v := 0) dX7_readFactor_40 41 rfl (by decide) ?_
        have z71 : (0 : Int32).toInt = 0 := by decide
        exact pv_iret (M := mX7_readFactor) dX7_readFactor_41 rfl rfl ⟨_, _, _, rfl, rfl, I67, K68, by decide, by decide, (by refine ⟨?_, ?_, ?_⟩ <;> omega)⟩
      · have c70 := iv_ne (X := v69.toInt) (Y := 0) c70 rfl (by decide)
        refine pv_aload_n (M := mX7_readFactor) 0 dX7_readFactor_27 28 rfl rfl rfl ?_
        refine pv_bipush (M := mX7_readFactor) (v := 93) dX7_readFactor_28 30 rfl (by decide) ?_
        have z72 : (93 : Int32).toInt = 93 := by decide
        refine pv_callv (M := mX7_readFactor) (as := [.int 93]) (st := []) (kc2 := 0) (ks2 := 0) dX7_readFactor_30 wd555 YX7_pass ⟨wd557, wd8⟩ (mk_get (tl86 hT)) rfl rfl (s_X7_pass g hT I67 R 93 (by decide) (by decide) (by first | omega | assumption | exact (iv_rng _).2 | exact (iv_rng _).1 | decide)) rfl rfl (Nat.le_of_ble_eq_true rfl) (by decide) rfl rfl 33 rfl (fun rv h1 q73 => ?_)
        obtain ⟨m74, n75, v78, rfl, rfl, I76, K77, pv78, qv78, rv78⟩ := q73
        replace rv78 : (m65 86 3).toInt ≤ (m74 86 3).toInt ∧ (m74 86 3).toInt ≤ (m74 86 2).toInt ∧ (m74 86 2).toInt = (m65 86 2).toInt := rv78
        have K77c := K77
        have K77 := K68.trans (K77.sub (fun _ _ q => q))
        show PV _ _ _ _ _ _ _ 33 [.ref 86, .int 1, pv_U] [.int v78] _
        refine pv_if_eq (M := mX7_readFactor) (tgt := 40) dX7_readFactor_33 36 rfl (by decide) (fun c79 => ?_) (fun c79 => ?_)
        · have c79 := iv_eq (X := v78.toInt) (Y := 0) c79 rfl (by decide)
          refine pv_iconst (M := mX7_readFactor) (v := 0) dX7_readFactor_40 41 rfl (by decide) ?_
          have z80 : (0 : Int32).toInt = 0 := by decide
          exact pv_iret (M := mX7_readFactor) dX7_readFactor_41 rfl rfl ⟨_, _, _, rfl, rfl, I76, K77, by decide, by decide, (by refine ⟨?_, ?_, ?_⟩ <;> omega)⟩
        · have c79 := iv_ne (X := v78.toInt) (Y := 0) c79 rfl (by decide)
          refine pv_iconst (M := mX7_readFactor) (v := 1) dX7_readFactor_36 37 rfl (by decide) ?_
          refine pv_goto (M := mX7_readFactor) (tgt := 41) dX7_readFactor_37 (by decide) ?_
          have z81 : (1 : Int32).toInt = 1 := by decide
          exact pv_iret (M := mX7_readFactor) dX7_readFactor_41 rfl rfl ⟨_, _, _, rfl, rfl, I76, K77, by decide, by decide, (by refine ⟨?_, ?_, ?_⟩ <;> omega)⟩

set_option maxHeartbeats 2000000 in
set_option maxRecDepth 20000 in
theorem s_X7_readTerm_v1 (g : pv_G) {T : List mv_T} {m : Nat → Nat → Int32} {n : Nat → Nat → Int64} {r : Nat → Value} {la lb : Nat} (hT : TX T) (I : IV BB m) (R : RX T r la lb) (hp0 : (m 86 3).toInt ≤ (m 86 2).toInt) : PM g mX7_readTerm yX7_readTerm (sqI T BB (wl [(77, 96, none)]) r m 0 1 (fun m' v => (m 86 3).toInt ≤ (m' 86 3).toInt ∧ (m' 86 3).toInt ≤ (m' 86 2).toInt ∧ (m' 86 2).toInt = (m 86 2).toInt)) 21 0 0 [.ref 86, .int 1] (mk T m n r) := by
  have Kp : fr (wl [(77, 96, none)]) m m := fr.rf
  have R0 := R
  have zR := R.2.2.2.2.1.1
  have zR2 := R.2.2.2.2.2.1
  have z60 : 0 ≤ (m 86 3).toInt ∧ (m 86 3).toInt ≤ 160 := I 86 3
  have z61 : 0 ≤ (m 86 2).toInt ∧ (m 86 2).toInt ≤ 160 := I 86 2
  refine PM.of 2 (lo := [.ref 86, .int 1, pv_U, pv_U]) rfl (by decide) rfl rfl (Nat.le_of_ble_eq_true rfl) ?_
  refine pv_aload_n (M := mX7_readTerm) 0 dX7_readTerm_0 1 rfl rfl rfl ?_
  refine pv_iload_n (M := mX7_readTerm) 1 dX7_readTerm_1 2 rfl rfl rfl ?_
  have z1 : (1 : Int32).toInt = 1 := by decide
  refine pv_callv (M := mX7_readTerm) (as := [.int 1]) (st := []) (kc2 := 0) (ks2 := 0) dX7_readTerm_2 wd547 YX7_readFactor ⟨wd549, wd6⟩ (mk_get (tl86 hT)) rfl rfl (s_X7_readFactor_v1 g hT I R (by first | omega | assumption | exact (iv_rng _).2 | exact (iv_rng _).1 | decide)) rfl rfl (Nat.le_of_ble_eq_true rfl) (by decide) rfl rfl 5 rfl (fun rv h1 q2 => ?_)
  obtain ⟨m3, n4, v7, rfl, rfl, I5, K6, pv7, qv7, rv7⟩ := q2
  replace rv7 : (m 86 3).toInt ≤ (m3 86 3).toInt ∧ (m3 86 3).toInt ≤ (m3 86 2).toInt ∧ (m3 86 2).toInt = (m 86 2).toInt := rv7
  have K6c := K6
  have K6 := Kp.trans (K6.sub (fun _ _ q => q))
  show PV _ _ _ _ _ _ _ 5 [.ref 86, .int 1, pv_U, pv_U] [.int v7] _
  refine pv_if_ne (M := mX7_readTerm) (tgt := 10) dX7_readTerm_5 8 rfl (by decide) (fun c8 => ?_) (fun c8 => ?_)
  · have c8 := iv_ne (X := v7.toInt) (Y := 0) c8 rfl (by decide)
    refine pv_iconst (M := mX7_readTerm) (v := 0) dX7_readTerm_10 11 rfl (by decide) ?_
    refine pv_istore_n (M := mX7_readTerm) 2 (lo2 := [.ref 86, .int 1, .int 0, pv_U]) dX7_readTerm_11 12 rfl rfl (by decide) rfl rfl ?_
    have lp15 : ∀ (fuel14 : Nat) (y9 : Int32) (m10 : Nat → Nat → Int32) (n11 : Nat → Nat → Int64), (0 ≤ y9.toInt) → (y9.toInt ≤ 160) → ((m 86 3).toInt ≤ (m10 86 3).toInt) → ((m10 86 3).toInt ≤ (m10 86 2).toInt) → ((m10 86 2).toInt = (m 86 2).toInt) → IV BB m10 → fr (wl [(77, 96, none)]) m m10 → ((160 - y9.toInt) : Int).toNat < fuel14 → PV none g mX7_readTerm (sqI T BB (wl [(77, 96, none)]) r m 0 1 (fun m' v => (m 86 3).toInt ≤ (m' 86 3).toInt ∧ (m' 86 3).toInt ≤ (m' 86 2).toInt ∧ (m' 86 2).toInt = (m 86 2).toInt)) 21 0 0 12 [.ref 86, .int 1, .int y9, pv_U] [] (mk T m10 n11 r) := by
      intro fuel14
      induction fuel14 with
      | zero => intro y9 m10 n11 b17 b18 b19 b20 b21 I12 K13 z22; omega
      | succ fuel14 ih16 =>
        intro y9 m10 n11 b17 b18 b19 b20 b21 I12 K13 z22
        have z23 : 0 ≤ (m10 86 3).toInt ∧ (m10 86 3).toInt ≤ 160 := I12 86 3
        have z24 : 0 ≤ (m10 86 2).toInt ∧ (m10 86 2).toInt ≤ 160 := I12 86 2
        refine pv_iload_n (M := mX7_readTerm) 2 dX7_readTerm_12 13 rfl rfl rfl ?_
        refine pv_sipush (M := mX7_readTerm) (v := 160) dX7_readTerm_13 16 rfl (by decide) ?_
        refine pv_icmp_ge (M := mX7_readTerm) (tgt := 66) dX7_readTerm_16 19 rfl (by decide) (fun c25 => ?_) (fun c25 => ?_)
        · have c25 := iv_le (X := 160) (Y := y9.toInt) c25 (by decide) rfl
          refine pv_iconst (M := mX7_readTerm) (v := 1) dX7_readTerm_66 67 rfl (by decide) ?_
          have z26 : (1 : Int32).toInt = 1 := by decide
          exact pv_iret (M := mX7_readTerm) dX7_readTerm_67 rfl rfl ⟨_, _, _, rfl, rfl, I12, K13, by decide, by decide, (by refine ⟨?_, ?_, ?_⟩ <;> omega)⟩
        · have c25 := iv_nle (X := 160) (Y := y9.toInt) c25 (by decide) rfl
          refine pv_aload_n (M := mX7_readTerm) 0 dX7_readTerm_19 20 rfl rfl rfl ?_
          refine pv_callv (M := mX7_readTerm) (as := []) (st := []) (kc2 := 0) (ks2 := 0) dX7_readTerm_20 wd654 YX7_timesAhead ⟨wd656, wd11⟩ (mk_get (tl86 hT)) rfl rfl (s_X7_timesAhead g hT I12 R) rfl rfl (Nat.le_of_ble_eq_true rfl) (by decide) rfl rfl 23 rfl (fun rv h1 q27 => ?_)
          obtain ⟨v28, rfl, rfl, pv28, qv28, rv28⟩ := q27
          replace rv28 : v28 = 0 ∨ (m10 86 3).toInt < (m10 86 2).toInt := rv28
          show PV _ _ _ _ _ _ _ 23 [.ref 86, .int 1, .int y9, pv_U] [.int v28] _
          refine pv_if_eq (M := mX7_readTerm) (tgt := 66) dX7_readTerm_23 26 rfl (by decide) (fun c29 => ?_) (fun c29 => ?_)
          · have c29 := iv_eq (X := v28.toInt) (Y := 0) c29 rfl (by decide)
            refine pv_iconst (M := mX7_readTerm) (v := 1) dX7_readTerm_66 67 rfl (by decide) ?_
            have z30 : (1 : Int32).toInt = 1 := by decide
            exact pv_iret (M := mX7_readTerm) dX7_readTerm_67 rfl rfl ⟨_, _, _, rfl, rfl, I12, K13, by decide, by decide, (by refine ⟨?_, ?_, ?_⟩ <;> omega)⟩
          · have pc29 := rv28.resolve_left c29
            have c29 := iv_ne (X := v28.toInt) (Y := 0) c29 rfl (by decide)
            refine pv_aload_n (M := mX7_readTerm) 0 dX7_readTerm_26 27 rfl rfl rfl ?_
            refine pv_callv (M := mX7_readTerm) (as := []) (st := []) (kc2 := 0) (ks2 := 0) dX7_readTerm_27 wd527 YX7_peek ⟨wd529, wd2⟩ (mk_get (tl86 hT)) rfl rfl (s_X7_peek g hT I12 R) rfl rfl (Nat.le_of_ble_eq_true rfl) (by decide) rfl rfl 30 rfl (fun rv h1 q31 => ?_)
            obtain ⟨v32, rfl, rfl, pv32, qv32, rv32⟩ := q31
            replace rv32 : v32.toInt = -1 ∨ (m10 86 3).toInt < (m10 86 2).toInt := rv32
            show PV _ _ _ _ _ _ _ 30 [.ref 86, .int 1, .int y9, pv_U] [.int v32] _
            refine pv_istore_n (M := mX7_readTerm) 3 (lo2 := [.ref 86, .int 1, .int y9, .int v32]) dX7_readTerm_30 31 rfl rfl (by decide) rfl rfl ?_
            refine pv_aload_n (M := mX7_readTerm) 0 dX7_readTerm_31 32 rfl rfl rfl ?_
            refine pv_dup (M := mX7_readTerm) dX7_readTerm_32 33 rfl rfl ?_
            refine iv_get (M := mX7_readTerm) (l1 := 0) (l2 := 160) dX7_readTerm_33 FX7 3 wd283 (by decide) (tl86 hT) rfl I12 rfl 36 rfl (fun v33 ev33 pv33 qv33 => ?_)
            have wv33 : v33.toInt = (m10 86 3).toInt := congrArg Int32.toInt ev33
            refine pv_iconst (M := mX7_readTerm) (v := 1) dX7_readTerm_36 37 rfl (by decide) ?_
            refine iv_iadd (M := mX7_readTerm) (X := v33.toInt) (Y := 1) dX7_readTerm_37 38 rfl rfl (by decide) (by omega) (by omega) (fun v34 ev34 => ?_)
            refine iv_put (M := mX7_readTerm) (l1 := 0) (l2 := 160) dX7_readTerm_38 FX7 3 wd283 (by decide) rfl (tl86 hT) rfl rfl rfl I12 rfl (by omega) (by omega) 41 rfl (fun m35 e38 I36 => ?_)
            have K37 := K13.set e38 (wl_r (by omega) (by omega))
            have w39 : (m35 86 3).toInt = v34.toInt := by rw [e38, up2_eq]
            have w40 : (m35 86 2).toInt = (m10 86 2).toInt := by rw [e38, up2_ne (by omega)]
            refine pv_aload_n (M := mX7_readTerm) 0 dX7_readTerm_41 42 rfl rfl rfl ?_
            refine pv_iload_n (M := mX7_readTerm) 1 dX7_readTerm_42 43 rfl rfl rfl ?_
            have z41 : (1 : Int32).toInt = 1 := by decide
            refine pv_callv (M := mX7_readTerm) (as := [.int 1]) (st := []) (kc2 := 0) (ks2 := 0) dX7_readTerm_43 wd547 YX7_readFactor ⟨wd549, wd6⟩ (mk_get (tl86 hT)) rfl rfl (s_X7_readFactor_v1 g hT I36 R (by first | omega | assumption | exact (iv_rng _).2 | exact (iv_rng _).1 | decide)) rfl rfl (Nat.le_of_ble_eq_true rfl) (by decide) rfl rfl 46 rfl (fun rv h1 q42 => ?_)
            obtain ⟨m43, n44, v47, rfl, rfl, I45, K46, pv47, qv47, rv47⟩ := q42
            replace rv47 : (m35 86 3).toInt ≤ (m43 86 3).toInt ∧ (m43 86 3).toInt ≤ (m43 86 2).toInt ∧ (m43 86 2).toInt = (m35 86 2).toInt := rv47
            have K46c := K46
            have K46 := K37.trans (K46.sub (fun _ _ q => q))
            show PV _ _ _ _ _ _ _ 46 [.ref 86, .int 1, .int y9, .int v32] [.int v47] _
            refine pv_if_ne (M := mX7_readTerm) (tgt := 51) dX7_readTerm_46 49 rfl (by decide) (fun c48 => ?_) (fun c48 => ?_)
            · have c48 := iv_ne (X := v47.toInt) (Y := 0) c48 rfl (by decide)
              refine pv_aload_n (M := mX7_readTerm) 0 dX7_readTerm_51 52 rfl rfl rfl ?_
              refine mv_get (M := mX7_readTerm) (v := .ref lb) dX7_readTerm_52 FX7 1 wd281 (by decide) (tl86 hT) rfl R.2.2.2.1 55 rfl ?_
              refine pv_iload_n (M := mX7_readTerm) 3 dX7_readTerm_55 56 rfl rfl rfl ?_
              refine pv_iconst (M := mX7_readTerm) (v := 0) dX7_readTerm_56 57 rfl (by decide) ?_
              refine pv_callv (M := mX7_readTerm) (as := [.int v32, .int 0]) (st := []) (kc2 := 0) (ks2 := 0) dX7_readTerm_57 wd567 YX6_emit ⟨wd568, wd569⟩ (mk_get R.2.2.2.2.2.2.1) rfl rfl (s_X6_emit g hT I45 lb R.2.2.2.2.2 v32 0 (by decide) (by decide)) rfl rfl (Nat.le_of_ble_eq_true rfl) (by decide) rfl rfl 60 rfl (fun rv h1 q49 => ?_)
              obtain ⟨m50, n51, rfl, rfl, I52, K53, rm50⟩ := q49
              have K53c := K53
              have w54 : (m50 86 3).toInt = (m43 86 3).toInt := congrArg Int32.toInt (K53 86 3 (wr_out (by omega)))
              have w55 : (m50 86 2).toInt = (m43 86 2).toInt := congrArg Int32.toInt (K53 86 2 (wr_out (by omega)))
              have K53 := K46.trans (K53.sub (wr_wr (by omega) (by omega)))
              show PV _ _ _ _ _ _ _ 60 [.ref 86, .int 1, .int y9, .int v32] [] _
              refine iv_inc (M := mX7_readTerm) (C := 1) dX7_readTerm_60 63 rfl rfl (by decide) rfl rfl (by decide) (by omega) (by omega) (fun v56 ev56 => ?_)
              show PV _ _ _ _ _ _ _ 63 [.ref 86, .int 1, .int v56, .int v32] [] _
              refine pv_goto (M := mX7_readTerm) (tgt := 12) dX7_readTerm_63 (by decide) ?_
              refine pv_fg (lo2 := [.ref 86, .int 1, .int v56, pv_U]) ⟨Or.inr rfl, ⟨Or.inr rfl, ⟨Or.inr rfl, ⟨Or.inl rfl, trivial⟩⟩⟩⟩ ?_
              exact ih16 v56 m50 n51 (by first | omega | assumption | exact (iv_rng _).2 | exact (iv_rng _).1 | decide) (by first | omega | assumption | exact (iv_rng _).2 | exact (iv_rng _).1 | decide) (by first | omega | assumption | (show (m 86 3).toInt ≤ (m50 86 3).toInt; omega) | decide) (by first | omega | assumption | (show (m50 86 3).toInt ≤ (m50 86 2).toInt; omega) | decide) (by first | omega | assumption | (show (m50 86 2).toInt = (m 86 2).toInt; omega) | decide) I52 K53 (by omega)
            · have c48 := iv_eq (X := v47.toInt) (Y := 0) c48 rfl (by decide)
              refine pv_iconst (M := mX7_readTerm) (v := 0) dX7_readTerm_49 50 rfl (by decide) ?_
              have z57 : (0 : Int32).toInt = 0 := by decide
              exact pv_iret (M := mX7_readTerm) dX7_readTerm_50 rfl rfl ⟨_, _, _, rfl, rfl, I45, K46, by decide, by decide, (by refine ⟨?_, ?_, ?_⟩ <;> omega)⟩
    have z58 : (0 : Int32).toInt = 0 := by decide
    exact lp15 (((160 - 0) : Int).toNat + 1) 0 m3 n4 (by first | omega | assumption | exact (iv_rng _).2 | exact (iv_rng _).1 | decide) (by first | omega | assumption | exact (iv_rng _).2 | exact (iv_rng _).1 | decide) (by first | omega | assumption | (show (m 86 3).toInt ≤ (m3 86 3).toInt; omega) | decide) (by first | omega | assumption | (show (m3 86 3).toInt ≤ (m3 86 2).toInt; omega) | decide) (by first | omega | assumption | (show (m3 86 2).toInt = (m 86 2).toInt; omega) | decide) I5 K6 (by omega)
  · have c8 := iv_eq (X := v7.toInt) (Y := 0) c8 rfl (by decide)
    refine pv_iconst (M := mX7_readTerm) (v := 0) dX7_readTerm_8 9 rfl (by decide) ?_
    have z59 : (0 : Int32).toInt = 0 := by decide
    exact pv_iret (M := mX7_readTerm) dX7_readTerm_9 rfl rfl ⟨_, _, _, rfl, rfl, I5, K6, by decide, by decide, (by refine ⟨?_, ?_, ?_⟩ <;> omega)⟩

set_option maxHeartbeats 2000000 in
set_option maxRecDepth 20000 in
theorem s_X7_readSum_v1 (g : pv_G) {T : List mv_T} {m : Nat → Nat → Int32} {n : Nat → Nat → Int64} {r : Nat → Value} {la lb : Nat} (hT : TX T) (I : IV BB m) (R : RX T r la lb) (hp0 : (m 86 3).toInt ≤ (m 86 2).toInt) : PM g mX7_readSum yX7_readSum (sqI T BB (wl [(77, 96, none)]) r m 0 1 (fun m' v => (m 86 3).toInt ≤ (m' 86 3).toInt ∧ (m' 86 3).toInt ≤ (m' 86 2).toInt ∧ (m' 86 2).toInt = (m 86 2).toInt)) 22 0 0 [.ref 86, .int 1] (mk T m n r) := by
  have Kp : fr (wl [(77, 96, none)]) m m := fr.rf
  have R0 := R
  have zR := R.2.2.2.2.1.1
  have zR2 := R.2.2.2.2.2.1
  have z90 : 0 ≤ (m 86 3).toInt ∧ (m 86 3).toInt ≤ 160 := I 86 3
  have z91 : 0 ≤ (m 86 2).toInt ∧ (m 86 2).toInt ≤ 160 := I 86 2
  refine PM.of 2 (lo := [.ref 86, .int 1, pv_U, pv_U]) rfl (by decide) rfl rfl (Nat.le_of_ble_eq_true rfl) ?_
  refine pv_aload_n (M := mX7_readSum) 0 dX7_readSum_0 1 rfl rfl rfl ?_
  refine pv_iload_n (M := mX7_readSum) 1 dX7_readSum_1 2 rfl rfl rfl ?_
  have z1 : (1 : Int32).toInt = 1 := by decide
  refine pv_callv (M := mX7_readSum) (as := [.int 1]) (st := []) (kc2 := 0) (ks2 := 0) dX7_readSum_2 wd543 YX7_readTerm ⟨wd545, wd5⟩ (mk_get (tl86 hT)) rfl rfl (s_X7_readTerm_v1 g hT I R (by first | omega | assumption | exact (iv_rng _).2 | exact (iv_rng _).1 | decide)) rfl rfl (Nat.le_of_ble_eq_true rfl) (by decide) rfl rfl 5 rfl (fun rv h1 q2 => ?_)
  obtain ⟨m3, n4, v7, rfl, rfl, I5, K6, pv7, qv7, rv7⟩ := q2
  replace rv7 : (m 86 3).toInt ≤ (m3 86 3).toInt ∧ (m3 86 3).toInt ≤ (m3 86 2).toInt ∧ (m3 86 2).toInt = (m 86 2).toInt := rv7
  have K6c := K6
  have K6 := Kp.trans (K6.sub (fun _ _ q => q))
  show PV _ _ _ _ _ _ _ 5 [.ref 86, .int 1, pv_U, pv_U] [.int v7] _
  refine pv_if_ne (M := mX7_readSum) (tgt := 10) dX7_readSum_5 8 rfl (by decide) (fun c8 => ?_) (fun c8 => ?_)
  · have c8 := iv_ne (X := v7.toInt) (Y := 0) c8 rfl (by decide)
    refine pv_iconst (M := mX7_readSum) (v := 0) dX7_readSum_10 11 rfl (by decide) ?_
    refine pv_istore_n (M := mX7_readSum) 2 (lo2 := [.ref 86, .int 1, .int 0, pv_U]) dX7_readSum_11 12 rfl rfl (by decide) rfl rfl ?_
    have lp15 : ∀ (fuel14 : Nat) (y9 : Int32) (m10 : Nat → Nat → Int32) (n11 : Nat → Nat → Int64), (0 ≤ y9.toInt) → (y9.toInt ≤ 160) → ((m 86 3).toInt ≤ (m10 86 3).toInt) → ((m10 86 3).toInt ≤ (m10 86 2).toInt) → ((m10 86 2).toInt = (m 86 2).toInt) → IV BB m10 → fr (wl [(77, 96, none)]) m m10 → ((160 - y9.toInt) : Int).toNat < fuel14 → PV none g mX7_readSum (sqI T BB (wl [(77, 96, none)]) r m 0 1 (fun m' v => (m 86 3).toInt ≤ (m' 86 3).toInt ∧ (m' 86 3).toInt ≤ (m' 86 2).toInt ∧ (m' 86 2).toInt = (m 86 2).toInt)) 22 0 0 12 [.ref 86, .int 1, .int y9, pv_U] [] (mk T m10 n11 r) := by
      intro fuel14
      induction fuel14 with
      | zero => intro y9 m10 n11 b17 b18 b19 b20 b21 I12 K13 z22; omega
      | succ fuel14 ih16 =>
        intro y9 m10 n11 b17 b18 b19 b20 b21 I12 K13 z22
        have z23 : 0 ≤ (m10 86 3).toInt ∧ (m10 86 3).toInt ≤ 160 := I12 86 3
        have z24 : 0 ≤ (m10 86 2).toInt ∧ (m10 86 2).toInt ≤ 160 := I12 86 2
        refine pv_iload_n (M := mX7_readSum) 2 dX7_readSum_12 13 rfl rfl rfl ?_
        refine pv_sipush (M := mX7_readSum) (v := 160) dX7_readSum_13 16 rfl (by decide) ?_
        refine pv_icmp_ge (M := mX7_readSum) (tgt := 77) dX7_readSum_16 19 rfl (by decide) (fun c25 => ?_) (fun c25 => ?_)
        · have c25 := iv_le (X := 160) (Y := y9.toInt) c25 (by decide) rfl
          refine pv_iconst (M := mX7_readSum) (v := 1) dX7_readSum_77 78 rfl (by decide) ?_
          have z26 : (1 : Int32).toInt = 1 := by decide
          exact pv_iret (M := mX7_readSum) dX7_readSum_78 rfl rfl ⟨_, _, _, rfl, rfl, I12, K13, by decide, by decide, (by refine ⟨?_, ?_, ?_⟩ <;> omega)⟩
        · have c25 := iv_nle (X := 160) (Y := y9.toInt) c25 (by decide) rfl
          refine pv_aload_n (M := mX7_readSum) 0 dX7_readSum_19 20 rfl rfl rfl ?_
          refine pv_callv (M := mX7_readSum) (as := []) (st := []) (kc2 := 0) (ks2 := 0) dX7_readSum_20 wd527 YX7_peek ⟨wd529, wd2⟩ (mk_get (tl86 hT)) rfl rfl (s_X7_peek g hT I12 R) rfl rfl (Nat.le_of_ble_eq_true rfl) (by decide) rfl rfl 23 rfl (fun rv h1 q27 => ?_)
          obtain ⟨v28, rfl, rfl, pv28, qv28, rv28⟩ := q27
          replace rv28 : v28.toInt = -1 ∨ (m10 86 3).toInt < (m10 86 2).toInt := rv28
          show PV _ _ _ _ _ _ _ 23 [.ref 86, .int 1, .int y9, pv_U] [.int v28] _
          refine pv_bipush (M := mX7_readSum) (v := 43) dX7_readSum_23 25 rfl (by decide) ?_
          refine pv_icmp_eq (M := mX7_readSum) (tgt := 37) dX7_readSum_25 28 rfl (by decide) (fun c29 => ?_) (fun c29 => ?_)
          · have c29 := iv_eq (X := v28.toInt) (Y := 43) c29 rfl (by decide)
            refine pv_aload_n (M := mX7_readSum) 0 dX7_readSum_37 38 rfl rfl rfl ?_
            refine pv_callv (M := mX7_readSum) (as := []) (st := []) (kc2 := 0) (ks2 := 0) dX7_readSum_38 wd527 YX7_peek ⟨wd529, wd2⟩ (mk_get (tl86 hT)) rfl rfl (s_X7_peek g hT I12 R) rfl rfl (Nat.le_of_ble_eq_true rfl) (by decide) rfl rfl 41 rfl (fun rv h1 q30 => ?_)
            obtain ⟨v31, rfl, rfl, pv31, qv31, rv31⟩ := q30
            replace rv31 : v31.toInt = -1 ∨ (m10 86 3).toInt < (m10 86 2).toInt := rv31
            show PV _ _ _ _ _ _ _ 41 [.ref 86, .int 1, .int y9, pv_U] [.int v31] _
            refine pv_istore_n (M := mX7_readSum) 3 (lo2 := [.ref 86, .int 1, .int y9, .int v31]) dX7_readSum_41 42 rfl rfl (by decide) rfl rfl ?_
            refine pv_aload_n (M := mX7_readSum) 0 dX7_readSum_42 43 rfl rfl rfl ?_
            refine pv_dup (M := mX7_readSum) dX7_readSum_43 44 rfl rfl ?_
            refine iv_get (M := mX7_readSum) (l1 := 0) (l2 := 160) dX7_readSum_44 FX7 3 wd283 (by decide) (tl86 hT) rfl I12 rfl 47 rfl (fun v32 ev32 pv32 qv32 => ?_)
            have wv32 : v32.toInt = (m10 86 3).toInt := congrArg Int32.toInt ev32
            refine pv_iconst (M := mX7_readSum) (v := 1) dX7_readSum_47 48 rfl (by decide) ?_
            refine iv_iadd (M := mX7_readSum) (X := v32.toInt) (Y := 1) dX7_readSum_48 49 rfl rfl (by decide) (by omega) (by omega) (fun v33 ev33 => ?_)
            refine iv_put (M := mX7_readSum) (l1 := 0) (l2 := 160) dX7_readSum_49 FX7 3 wd283 (by decide) rfl (tl86 hT) rfl rfl rfl I12 rfl (by omega) (by omega) 52 rfl (fun m34 e37 I35 => ?_)
            have K36 := K13.set e37 (wl_r (by omega) (by omega))
            have w38 : (m34 86 3).toInt = v33.toInt := by rw [e37, up2_eq]
            have w39 : (m34 86 2).toInt = (m10 86 2).toInt := by rw [e37, up2_ne (by omega)]
            refine pv_aload_n (M := mX7_readSum) 0 dX7_readSum_52 53 rfl rfl rfl ?_
            refine pv_iload_n (M := mX7_readSum) 1 dX7_readSum_53 54 rfl rfl rfl ?_
            have z40 : (1 : Int32).toInt = 1 := by decide
            refine pv_callv (M := mX7_readSum) (as := [.int 1]) (st := []) (kc2 := 0) (ks2 := 0) dX7_readSum_54 wd543 YX7_readTerm ⟨wd545, wd5⟩ (mk_get (tl86 hT)) rfl rfl (s_X7_readTerm_v1 g hT I35 R (by first | omega | assumption | exact (iv_rng _).2 | exact (iv_rng _).1 | decide)) rfl rfl (Nat.le_of_ble_eq_true rfl) (by decide) rfl rfl 57 rfl (fun rv h1 q41 => ?_)
            obtain ⟨m42, n43, v46, rfl, rfl, I44, K45, pv46, qv46, rv46⟩ := q41
            replace rv46 : (m34 86 3).toInt ≤ (m42 86 3).toInt ∧ (m42 86 3).toInt ≤ (m42 86 2).toInt ∧ (m42 86 2).toInt = (m34 86 2).toInt := rv46
            have K45c := K45
            have K45 := K36.trans (K45.sub (fun _ _ q => q))
            show PV _ _ _ _ _ _ _ 57 [.ref 86, .int 1, .int y9, .int v31] [.int v46] _
            refine pv_if_ne (M := mX7_readSum) (tgt := 62) dX7_readSum_57 60 rfl (by decide) (fun c47 => ?_) (fun c47 => ?_)
            · have c47 := iv_ne (X := v46.toInt) (Y := 0) c47 rfl (by decide)
              refine pv_aload_n (M := mX7_readSum) 0 dX7_readSum_62 63 rfl rfl rfl ?_
              refine mv_get (M := mX7_readSum) (v := .ref lb) dX7_readSum_63 FX7 1 wd281 (by decide) (tl86 hT) rfl R.2.2.2.1 66 rfl ?_
              refine pv_iload_n (M := mX7_readSum) 3 dX7_readSum_66 67 rfl rfl rfl ?_
              refine pv_iconst (M := mX7_readSum) (v := 0) dX7_readSum_67 68 rfl (by decide) ?_
              refine pv_callv (M := mX7_readSum) (as := [.int v31, .int 0]) (st := []) (kc2 := 0) (ks2 := 0) dX7_readSum_68 wd567 YX6_emit ⟨wd568, wd569⟩ (mk_get R.2.2.2.2.2.2.1) rfl rfl (s_X6_emit g hT I44 lb R.2.2.2.2.2 v31 0 (by decide) (by decide)) rfl rfl (Nat.le_of_ble_eq_true rfl) (by decide) rfl rfl 71 rfl (fun rv h1 q48 => ?_)
              obtain ⟨m49, n50, rfl, rfl, I51, K52, rm49⟩ := q48
              have K52c := K52
              have w53 : (m49 86 3).toInt = (m42 86 3).toInt := congrArg Int32.toInt (K52 86 3 (wr_out (by omega)))
              have w54 : (m49 86 2).toInt = (m42 86 2).toInt := congrArg Int32.toInt (K52 86 2 (wr_out (by omega)))
              have K52 := K45.trans (K52.sub (wr_wr (by omega) (by omega)))
              show PV _ _ _ _ _ _ _ 71 [.ref 86, .int 1, .int y9, .int v31] [] _
              refine iv_inc (M := mX7_readSum) (C := 1) dX7_readSum_71 74 rfl rfl (by decide) rfl rfl (by decide) (by omega) (by omega) (fun v55 ev55 => ?_)
              show PV _ _ _ _ _ _ _ 74 [.ref 86, .int 1, .int v55, .int v31] [] _
              refine pv_goto (M := mX7_readSum) (tgt := 12) dX7_readSum_74 (by decide) ?_
              refine pv_fg (lo2 := [.ref 86, .int 1, .int v55, pv_U]) ⟨Or.inr rfl, ⟨Or.inr rfl, ⟨Or.inr rfl, ⟨Or.inl rfl, trivial⟩⟩⟩⟩ ?_
              exact ih16 v55 m49 n50 (by first | omega | assumption | exact (iv_rng _).2 | exact (iv_rng _).1 | decide) (by first | omega | assumption | exact (iv_rng _).2 | exact (iv_rng _).1 | decide) (by first | omega | assumption | (show (m 86 3).toInt ≤ (m49 86 3).toInt; omega) | decide) (by first | omega | assumption | (show (m49 86 3).toInt ≤ (m49 86 2).toInt; omega) | decide) (by first | omega | assumption | (show (m49 86 2).toInt = (m 86 2).toInt; omega) | decide) I51 K52 (by omega)
            · have c47 := iv_eq (X := v46.toInt) (Y := 0) c47 rfl (by decide)
              refine pv_iconst (M := mX7_readSum) (v := 0) dX7_readSum_60 61 rfl (by decide) ?_
              have z56 : (0 : Int32).toInt = 0 := by decide
              exact pv_iret (M := mX7_readSum) dX7_readSum_61 rfl rfl ⟨_, _, _, rfl, rfl, I44, K45, by decide, by decide, (by refine ⟨?_, ?_, ?_⟩ <;> omega)⟩
          · have c29 := iv_ne (X := v28.toInt) (Y := 43) c29 rfl (by decide)
            refine pv_aload_n (M := mX7_readSum) 0 dX7_readSum_28 29 rfl rfl rfl ?_
            refine pv_callv (M := mX7_readSum) (as := []) (st := []) (kc2 := 0) (ks2 := 0) dX7_readSum_29 wd527 YX7_peek ⟨wd529, wd2⟩ (mk_get (tl86 hT)) rfl rfl (s_X7_peek g hT I12 R) rfl rfl (Nat.le_of_ble_eq_true rfl) (by decide) rfl rfl 32 rfl (fun rv h1 q57 => ?_)
            obtain ⟨v58, rfl, rfl, pv58, qv58, rv58⟩ := q57
            replace rv58 : v58.toInt = -1 ∨ (m10 86 3).toInt < (m10 86 2).toInt := rv58
            show PV _ _ _ _ _ _ _ 32 [.ref 86, .int 1, .int y9, pv_U] [.int v58] _
            refine pv_bipush (M := mX7_readSum) (v := 45) dX7_readSum_32 34 rfl (by decide) ?_
            refine pv_icmp_ne (M := mX7_readSum) (tgt := 77) dX7_readSum_34 37 rfl (by decide) (fun c59 => ?_) (fun c59 => ?_)
            · have c59 := iv_ne (X := v58.toInt) (Y := 45) c59 rfl (by decide)
              refine pv_iconst (M := mX7_readSum) (v := 1) dX7_readSum_77 78 rfl (by decide) ?_
              have z60 : (1 : Int32).toInt = 1 := by decide
              exact pv_iret (M := mX7_readSum) dX7_readSum_78 rfl rfl ⟨_, _, _, rfl, rfl, I12, K13, by decide, by decide, (by refine ⟨?_, ?_, ?_⟩ <;> omega)⟩
            · have c59 := iv_eq (X := v58.toInt) (Y := 45) c59 rfl (by decide)
              refine pv_aload_n (M := mX7_readSum) 0 dX7_readSum_37 38 rfl rfl rfl ?_
              refine pv_callv (M := mX7_readSum) (as := []) (st := []) (kc2 := 0) (ks2 := 0) dX7_readSum_38 wd527 YX7_peek ⟨wd529, wd2⟩ (mk_get (tl86 hT)) rfl rfl (s_X7_peek g hT I12 R) rfl rfl (Nat.le_of_ble_eq_true rfl) (by decide) rfl rfl 41 rfl (fun rv h1 q61 => ?_)
              obtain ⟨v62, rfl, rfl, pv62, qv62, rv62⟩ := q61
              replace rv62 : v62.toInt = -1 ∨ (m10 86 3).toInt < (m10 86 2).toInt := rv62
              show PV _ _ _ _ _ _ _ 41 [.ref 86, .int 1, .int y9, pv_U] [.int v62] _
              refine pv_istore_n (M := mX7_readSum) 3 (lo2 := [.ref 86, .int 1, .int y9, .int v62]) dX7_readSum_41 42 rfl rfl (by decide) rfl rfl ?_
              refine pv_aload_n (M := mX7_readSum) 0 dX7_readSum_42 43 rfl rfl rfl ?_
              refine pv_dup (M := mX7_readSum) dX7_readSum_43 44 rfl rfl ?_
              refine iv_get (M := mX7_readSum) (l1 := 0) (l2 := 160) dX7_readSum_44 FX7 3 wd283 (by decide) (tl86 hT) rfl I12 rfl 47 rfl (fun v63 ev63 pv63 qv63 => ?_)
              have wv63 : v63.toInt = (m10 86 3).toInt := congrArg Int32.toInt ev63
              refine pv_iconst (M := mX7_readSum) (v := 1) dX7_readSum_47 48 rfl (by decide) ?_
              refine iv_iadd (M := mX7_readSum) (X := v63.toInt) (Y := 1) dX7_readSum_48 49 rfl rfl (by decide) (by omega) (by omega) (fun v64 ev64 => ?_)
              refine iv_put (M := mX7_readSum) (l1 := 0) (l2 := 160) dX7_readSum_49 FX7 3 wd283 (by decide) rfl (tl86 hT) rfl rfl rfl I12 rfl (by omega) (by omega) 52 rfl (fun m65 e68 I66 => ?_)
              have K67 := K13.set e68 (wl_r (by omega) (by omega))
              have w69 : (m65 86 3).toInt = v64.toInt := by rw [e68, up2_eq]
              have w70 : (m65 86 2).toInt = (m10 86 2).toInt := by rw [e68, up2_ne (by omega)]
              refine pv_aload_n (M := mX7_readSum) 0 dX7_readSum_52 53 rfl rfl rfl ?_
              refine pv_iload_n (M := mX7_readSum) 1 dX7_readSum_53 54 rfl rfl rfl ?_
              have z71 : (1 : Int32).toInt = 1 := by decide
              refine pv_callv (M := mX7_readSum) (as := [.int 1]) (st := []) (kc2 := 0) (ks2 := 0) dX7_readSum_54 wd543 YX7_readTerm ⟨wd545, wd5⟩ (mk_get (tl86 hT)) rfl rfl (s_X7_readTerm_v1 g hT I66 R (by first | omega | assumption | exact (iv_rng _).2 | exact (iv_rng _).1 | decide)) rfl rfl (Nat.le_of_ble_eq_true rfl) (by decide) rfl rfl 57 rfl (fun rv h1 q72 => ?_)
              obtain ⟨m73, n74, v77, rfl, rfl, I75, K76, pv77, qv77, rv77⟩ := q72
              replace rv77 : (m65 86 3).toInt ≤ (m73 86 3).toInt ∧ (m73 86 3).toInt ≤ (m73 86 2).toInt ∧ (m73 86 2).toInt = (m65 86 2).toInt := rv77
              have K76c := K76
              have K76 := K67.trans (K76.sub (fun _ _ q => q))
              show PV _ _ _ _ _ _ _ 57 [.ref 86, .int 1, .int y9, .int v62] [.int v77] _
              refine pv_if_ne (M := mX7_readSum) (tgt := 62) dX7_readSum_57 60 rfl (by decide) (fun c78 => ?_) (fun c78 => ?_)
              · have c78 := iv_ne (X := v77.toInt) (Y := 0) c78 rfl (by decide)
                refine pv_aload_n (M := mX7_readSum) 0 dX7_readSum_62 63 rfl rfl rfl ?_
                refine mv_get (M := mX7_readSum) (v := .ref lb) dX7_readSum_63 FX7 1 wd281 (by decide) (tl86 hT) rfl R.2.2.2.1 66 rfl ?_
                refine pv_iload_n (M := mX7_readSum) 3 dX7_readSum_66 67 rfl rfl rfl ?_
                refine pv_iconst (M := mX7_readSum) (v := 0) dX7_readSum_67 68 rfl (by decide) ?_
                refine pv_callv (M := mX7_readSum) (as := [.int v62, .int 0]) (st := []) (kc2 := 0) (ks2 := 0) dX7_readSum_68 wd567 YX6_emit ⟨wd568, wd569⟩ (mk_get R.2.2.2.2.2.2.1) rfl rfl (s_X6_emit g hT I75 lb R.2.2.2.2.2 v62 0 (by decide) (by decide)) rfl rfl (Nat.le_of_ble_eq_true rfl) (by decide) rfl rfl 71 rfl (fun rv h1 q79 => ?_)
                obtain ⟨m80, n81, rfl, rfl, I82, K83, rm80⟩ := q79
                have K83c := K83
                have w84 : (m80 86 3).toInt = (m73 86 3).toInt := congrArg Int32.toInt (K83 86 3 (wr_out (by omega)))
                have w85 : (m80 86 2).toInt = (m73 86 2).toInt := congrArg Int32.toInt (K83 86 2 (wr_out (by omega)))
                have K83 := K76.trans (K83.sub (wr_wr (by omega) (by omega)))
                show PV _ _ _ _ _ _ _ 71 [.ref 86, .int 1, .int y9, .int v62] [] _
                refine iv_inc (M := mX7_readSum) (C := 1) dX7_readSum_71 74 rfl rfl (by decide) rfl rfl (by decide) (by omega) (by omega) (fun v86 ev86 => ?_)
                show PV _ _ _ _ _ _ _ 74 [.ref 86, .int 1, .int v86, .int v62] [] _
                refine pv_goto (M := mX7_readSum) (tgt := 12) dX7_readSum_74 (by decide) ?_
                refine pv_fg (lo2 := [.ref 86, .int 1, .int v86, pv_U]) ⟨Or.inr rfl, ⟨Or.inr rfl, ⟨Or.inr rfl, ⟨Or.inl rfl, trivial⟩⟩⟩⟩ ?_
                exact ih16 v86 m80 n81 (by first | omega | assumption | exact (iv_rng _).2 | exact (iv_rng _).1 | decide) (by first | omega | assumption | exact (iv_rng _).2 | exact (iv_rng _).1 | decide) (by first | omega | assumption | (show (m 86 3).toInt ≤ (m80 86 3).toInt; omega) | decide) (by first | omega | assumption | (show (m80 86 3).toInt ≤ (m80 86 2).toInt; omega) | decide) (by first | omega | assumption | (show (m80 86 2).toInt = (m 86 2).toInt; omega) | decide) I82 K83 (by omega)
              · have c78 := iv_eq (X := v77.toInt) (Y := 0) c78 rfl (by decide)
                refine pv_iconst (M := mX7_readSum) (v := 0) dX7_readSum_60 61 rfl (by decide) ?_
                have z87 : (0 : Int32).toInt = 0 := by decide
                exact pv_iret (M := mX7_readSum) dX7_readSum_61 rfl rfl ⟨_, _, _, rfl, rfl, I75, K76, by decide, by decide, (by refine ⟨?_, ?_, ?_⟩ <;> omega)⟩
    have z88 : (0 : Int32).toInt = 0 := by decide
    exact lp15 (((160 - 0) : Int).toNat + 1) 0 m3 n4 (by first | omega | assumption | exact (iv_rng _).2 | exact (iv_rng _).1 | decide) (by first | omega | assumption | exact (iv_rng _).2 | exact (iv_rng _).1 | decide) (by first | omega | assumption | (show (m 86 3).toInt ≤ (m3 86 3).toInt; omega) | decide) (by first | omega | assumption | (show (m3 86 3).toInt ≤ (m3 86 2).toInt; omega) | decide) (by first | omega | assumption | (show (m3 86 2).toInt = (m 86 2).toInt; omega) | decide) I5 K6 (by omega)
  · have c8 := iv_eq (X := v7.toInt) (Y := 0) c8 rfl (by decide)
    refine pv_iconst (M := mX7_readSum) (v := 0) dX7_readSum_8 9 rfl (by decide) ?_
    have z89 : (0 : Int32).toInt = 0 := by decide
    exact pv_iret (M := mX7_readSum) dX7_readSum_9 rfl rfl ⟨_, _, _, rfl, rfl, I5, K6, by decide, by decide, (by refine ⟨?_, ?_, ?_⟩ <;> omega)⟩

set_option maxHeartbeats 2000000 in
set_option maxRecDepth 20000 in
theorem s_X7_readPiece_v1 (g : pv_G) {T : List mv_T} {m : Nat → Nat → Int32} {n : Nat → Nat → Int64} {r : Nat → Value} {la lb : Nat} (hT : TX T) (I : IV BB m) (R : RX T r la lb) (hp0 : (m 86 3).toInt ≤ (m 86 2).toInt) : PM g mX7_readPiece yX7_readPiece (sqI T BB (wl [(77, 96, none)]) r m 0 1 (fun m' v => (m 86 3).toInt ≤ (m' 86 3).toInt ∧ (m' 86 3).toInt ≤ (m' 86 2).toInt ∧ (m' 86 2).toInt = (m 86 2).toInt)) 23 0 0 [.ref 86, .int 1] (mk T m n r) := by
  have Kp : fr (wl [(77, 96, none)]) m m := fr.rf
  have R0 := R
  have zR := R.2.2.2.2.1.1
  have zR2 := R.2.2.2.2.2.1
  have z159 : 0 ≤ (m 86 3).toInt ∧ (m 86 3).toInt ≤ 160 := I 86 3
  have z160 : 0 ≤ (m 86 2).toInt ∧ (m 86 2).toInt ≤ 160 := I 86 2
  refine PM.of 1 (lo := [.ref 86, .int 1, pv_U]) rfl (by decide) rfl rfl (Nat.le_of_ble_eq_true rfl) ?_
  refine pv_aload_n (M := mX7_readPiece) 0 dX7_readPiece_0 1 rfl rfl rfl ?_
  refine pv_callv (M := mX7_readPiece) (as := []) (st := []) (kc2 := 0) (ks2 := 0) dX7_readPiece_1 wd527 YX7_peek ⟨wd529, wd2⟩ (mk_get (tl86 hT)) rfl rfl (s_X7_peek g hT I R) rfl rfl (Nat.le_of_ble_eq_true rfl) (by decide) rfl rfl 4 rfl (fun rv h1 q1 => ?_)
  obtain ⟨v2, rfl, rfl, pv2, qv2, rv2⟩ := q1
  replace rv2 : v2.toInt = -1 ∨ (m 86 3).toInt < (m 86 2).toInt := rv2
  show PV _ _ _ _ _ _ _ 4 [.ref 86, .int 1, pv_U] [.int v2] _
  refine pv_bipush (M := mX7_readPiece) (v := 33) dX7_readPiece_4 6 rfl (by decide) ?_
  refine pv_icmp_ne (M := mX7_readPiece) (tgt := 41) dX7_readPiece_6 9 rfl (by decide) (fun c3 => ?_) (fun c3 => ?_)
  · have c3 := iv_ne (X := v2.toInt) (Y := 33) c3 rfl (by decide)
    refine pv_aload_n (M := mX7_readPiece) 0 dX7_readPiece_41 42 rfl rfl rfl ?_
    refine pv_callv (M := mX7_readPiece) (as := []) (st := []) (kc2 := 0) (ks2 := 0) dX7_readPiece_42 wd527 YX7_peek ⟨wd529, wd2⟩ (mk_get (tl86 hT)) rfl rfl (s_X7_peek g hT I R) rfl rfl (Nat.le_of_ble_eq_true rfl) (by decide) rfl rfl 45 rfl (fun rv h1 q4 => ?_)
    obtain ⟨v5, rfl, rfl, pv5, qv5, rv5⟩ := q4
    replace rv5 : v5.toInt = -1 ∨ (m 86 3).toInt < (m 86 2).toInt := rv5
    show PV _ _ _ _ _ _ _ 45 [.ref 86, .int 1, pv_U] [.int v5] _
    refine pv_bipush (M := mX7_readPiece) (v := 40) dX7_readPiece_45 47 rfl (by decide) ?_
    refine pv_icmp_ne (M := mX7_readPiece) (tgt := 83) dX7_readPiece_47 50 rfl (by decide) (fun c6 => ?_) (fun c6 => ?_)
    · have c6 := iv_ne (X := v5.toInt) (Y := 40) c6 rfl (by decide)
      refine pv_aload_n (M := mX7_readPiece) 0 dX7_readPiece_83 84 rfl rfl rfl ?_
      refine pv_iload_n (M := mX7_readPiece) 1 dX7_readPiece_84 85 rfl rfl rfl ?_
      have z7 : (1 : Int32).toInt = 1 := by decide
      refine pv_callv (M := mX7_readPiece) (as := [.int 1]) (st := []) (kc2 := 0) (ks2 := 0) dX7_readPiece_85 wd539 YX7_readSum ⟨wd541, wd4⟩ (mk_get (tl86 hT)) rfl rfl (s_X7_readSum_v1 g hT I R (by first | omega | assumption | exact (iv_rng _).2 | exact (iv_rng _).1 | decide)) rfl rfl (Nat.le_of_ble_eq_true rfl) (by decide) rfl rfl 88 rfl (fun rv h1 q8 => ?_)
      obtain ⟨m9, n10, v13, rfl, rfl, I11, K12, pv13, qv13, rv13⟩ := q8
      replace rv13 : (m 86 3).toInt ≤ (m9 86 3).toInt ∧ (m9 86 3).toInt ≤ (m9 86 2).toInt ∧ (m9 86 2).toInt = (m 86 2).toInt := rv13
      have K12c := K12
      have K12 := Kp.trans (K12.sub (fun _ _ q => q))
      show PV _ _ _ _ _ _ _ 88 [.ref 86, .int 1, pv_U] [.int v13] _
      refine pv_if_ne (M := mX7_readPiece) (tgt := 93) dX7_readPiece_88 91 rfl (by decide) (fun c14 => ?_) (fun c14 => ?_)
      · have c14 := iv_ne (X := v13.toInt) (Y := 0) c14 rfl (by decide)
        refine pv_aload_n (M := mX7_readPiece) 0 dX7_readPiece_93 94 rfl rfl rfl ?_
        refine pv_callv (M := mX7_readPiece) (as := []) (st := []) (kc2 := 0) (ks2 := 0) dX7_readPiece_94 wd527 YX7_peek ⟨wd529, wd2⟩ (mk_get (tl86 hT)) rfl rfl (s_X7_peek g hT I11 R) rfl rfl (Nat.le_of_ble_eq_true rfl) (by decide) rfl rfl 97 rfl (fun rv h1 q15 => ?_)
        obtain ⟨v16, rfl, rfl, pv16, qv16, rv16⟩ := q15
        replace rv16 : v16.toInt = -1 ∨ (m9 86 3).toInt < (m9 86 2).toInt := rv16
        show PV _ _ _ _ _ _ _ 97 [.ref 86, .int 1, pv_U] [.int v16] _
        refine pv_istore_n (M := mX7_readPiece) 2 (lo2 := [.ref 86, .int 1, .int v16]) dX7_readPiece_97 98 rfl rfl (by decide) rfl rfl ?_
        refine pv_iload_n (M := mX7_readPiece) 2 dX7_readPiece_98 99 rfl rfl rfl ?_
        refine pv_bipush (M := mX7_readPiece) (v := 60) dX7_readPiece_99 101 rfl (by decide) ?_
        refine pv_icmp_eq (M := mX7_readPiece) (tgt := 122) dX7_readPiece_101 104 rfl (by decide) (fun c17 => ?_) (fun c17 => ?_)
        · have c17 := iv_eq (X := v16.toInt) (Y := 60) c17 rfl (by decide)
          refine pv_aload_n (M := mX7_readPiece) 0 dX7_readPiece_122 123 rfl rfl rfl ?_
          refine pv_dup (M := mX7_readPiece) dX7_readPiece_123 124 rfl rfl ?_
          refine iv_get (M := mX7_readPiece) (l1 := 0) (l2 := 160) dX7_readPiece_124 FX7 3 wd283 (by decide) (tl86 hT) rfl I11 rfl 127 rfl (fun v18 ev18 pv18 qv18 => ?_)
          have wv18 : v18.toInt = (m9 86 3).toInt := congrArg Int32.toInt ev18
          refine pv_iconst (M := mX7_readPiece) (v := 1) dX7_readPiece_127 128 rfl (by decide) ?_
          refine iv_iadd (M := mX7_readPiece) (X := v18.toInt) (Y := 1) dX7_readPiece_128 129 rfl rfl (by decide) (by omega) (by omega) (fun v19 ev19 => ?_)
          refine iv_put (M := mX7_readPiece) (l1 := 0) (l2 := 160) dX7_readPiece_129 FX7 3 wd283 (by decide) rfl (tl86 hT) rfl rfl rfl I11 rfl (by omega) (by omega) 132 rfl (fun m20 e23 I21 => ?_)
          have K22 := K12.set e23 (wl_r (by omega) (by omega))
          have w24 : (m20 86 3).toInt = v19.toInt := by rw [e23, up2_eq]
          have w25 : (m20 86 2).toInt = (m9 86 2).toInt := by rw [e23, up2_ne (by omega)]
          refine pv_aload_n (M := mX7_readPiece) 0 dX7_readPiece_132 133 rfl rfl rfl ?_
          refine pv_iload_n (M := mX7_readPiece) 1 dX7_readPiece_133 134 rfl rfl rfl ?_
          have z26 : (1 : Int32).toInt = 1 := by decide
          refine pv_callv (M := mX7_readPiece) (as := [.int 1]) (st := []) (kc2 := 0) (ks2 := 0) dX7_readPiece_134 wd539 YX7_readSum ⟨wd541, wd4⟩ (mk_get (tl86 hT)) rfl rfl (s_X7_readSum_v1 g hT I21 R (by first | omega | assumption | exact (iv_rng _).2 | exact (iv_rng _).1 | decide)) rfl rfl (Nat.le_of_ble_eq_true rfl) (by decide) rfl rfl 137 rfl (fun rv h1 q27 => ?_)
          obtain ⟨m28, n29, v32, rfl, rfl, I30, K31, pv32, qv32, rv32⟩ := q27
          replace rv32 : (m20 86 3).toInt ≤ (m28 86 3).toInt ∧ (m28 86 3).toInt ≤ (m28 86 2).toInt ∧ (m28 86 2).toInt = (m20 86 2).toInt := rv32
          have K31c := K31
          have K31 := K22.trans (K31.sub (fun _ _ q => q))
          show PV _ _ _ _ _ _ _ 137 [.ref 86, .int 1, .int v16] [.int v32] _
          refine pv_if_ne (M := mX7_readPiece) (tgt := 142) dX7_readPiece_137 140 rfl (by decide) (fun c33 => ?_) (fun c33 => ?_)
          · have c33 := iv_ne (X := v32.toInt) (Y := 0) c33 rfl (by decide)
            refine pv_aload_n (M := mX7_readPiece) 0 dX7_readPiece_142 143 rfl rfl rfl ?_
            refine mv_get (M := mX7_readPiece) (v := .ref lb) dX7_readPiece_143 FX7 1 wd281 (by decide) (tl86 hT) rfl R.2.2.2.1 146 rfl ?_
            refine pv_iload_n (M := mX7_readPiece) 2 dX7_readPiece_146 147 rfl rfl rfl ?_
            refine pv_iconst (M := mX7_readPiece) (v := 0) dX7_readPiece_147 148 rfl (by decide) ?_
            refine pv_callv (M := mX7_readPiece) (as := [.int v16, .int 0]) (st := []) (kc2 := 0) (ks2 := 0) dX7_readPiece_148 wd567 YX6_emit ⟨wd568, wd569⟩ (mk_get R.2.2.2.2.2.2.1) rfl rfl (s_X6_emit g hT I30 lb R.2.2.2.2.2 v16 0 (by decide) (by decide)) rfl rfl (Nat.le_of_ble_eq_true rfl) (by decide) rfl rfl 151 rfl (fun rv h1 q34 => ?_)
            obtain ⟨m35, n36, rfl, rfl, I37, K38, rm35⟩ := q34
            have K38c := K38
            have w39 : (m35 86 3).toInt = (m28 86 3).toInt := congrArg Int32.toInt (K38 86 3 (wr_out (by omega)))
            have w40 : (m35 86 2).toInt = (m28 86 2).toInt := congrArg Int32.toInt (K38 86 2 (wr_out (by omega)))
            have K38 := K31.trans (K38.sub (wr_wr (by omega) (by omega)))
            show PV _ _ _ _ _ _ _ 151 [.ref 86, .int 1, .int v16] [] _
            refine pv_iconst (M := mX7_readPiece) (v := 1) dX7_readPiece_151 152 rfl (by decide) ?_
            have z41 : (1 : Int32).toInt = 1 := by decide
            exact pv_iret (M := mX7_readPiece) dX7_readPiece_152 rfl rfl ⟨_, _, _, rfl, rfl, I37, K38, by decide, by decide, (by refine ⟨?_, ?_, ?_⟩ <;> omega)⟩
          · have c33 := iv_eq (X := v32.toInt) (Y := 0) c33 rfl (by decide)
            refine pv_iconst (M := mX7_readPiece) (v := 0) dX7_readPiece_140 141 rfl (by decide) ?_
            have z42 : (0 : Int32).toInt = 0 := by decide
            exact pv_iret (M := mX7_readPiece) dX7_readPiece_141 rfl rfl ⟨_, _, _, rfl, rfl, I30, K31, by decide, by decide, (by refine ⟨?_, ?_, ?_⟩ <;> omega)⟩
        · have c17 := iv_ne (X := v16.toInt) (Y := 60) c17 rfl (by decide)
          refine pv_iload_n (M := mX7_readPiece) 2 dX7_readPiece_104 105 rfl rfl rfl ?_
          refine pv_bipush (M := mX7_readPiece) (v := 62) dX7_readPiece_105 107 rfl (by decide) ?_
          refine pv_icmp_eq (M := mX7_readPiece) (tgt := 122) dX7_readPiece_107 110 rfl (by decide) (fun c43 => ?_) (fun c43 => ?_)
          · have c43 := iv_eq (X := v16.toInt) (Y := 62) c43 rfl (by decide)
            refine pv_aload_n (M := mX7_readPiece) 0 dX7_readPiece_122 123 rfl rfl rfl ?_
            refine pv_dup (M := mX7_readPiece) dX7_readPiece_123 124 rfl rfl ?_
            refine iv_get (M := mX7_readPiece) (l1 := 0) (l2 := 160) dX7_readPiece_124 FX7 3 wd283 (by decide) (tl86 hT) rfl I11 rfl 127 rfl (fun v44 ev44 pv44 qv44 => ?_)
            have wv44 : v44.toInt = (m9 86 3).toInt := congrArg Int32.toInt ev44
            refine pv_iconst (M := mX7_readPiece) (v := 1) dX7_readPiece_127 128 rfl (by decide) ?_
            refine iv_iadd (M := mX7_readPiece) (X := v44.toInt) (Y := 1) dX7_readPiece_128 129 rfl rfl (by decide) (by omega) (by omega) (fun v45 ev45 => ?_)
            refine iv_put (M := mX7_readPiece) (l1 := 0) (l2 := 160) dX7_readPiece_129 FX7 3 wd283 (by decide) rfl (tl86 hT) rfl rfl rfl I11 rfl (by omega) (by omega) 132 rfl (fun m46 e49 I47 => ?_)
            have K48 := K12.set e49 (wl_r (by omega) (by omega))
            have w50 : (m46 86 3).toInt = v45.toInt := by rw [e49, up2_eq]
            have w51 : (m46 86 2).toInt = (m9 86 2).toInt := by rw [e49, up2_ne (by omega)]
            refine pv_aload_n (M := mX7_readPiece) 0 dX7_readPiece_132 133 rfl rfl rfl ?_
            refine pv_iload_n (M := mX7_readPiece) 1 dX7_readPiece_133 134 rfl rfl rfl ?_
            have z52 : (1 : Int32).toInt = 1 := by decide
            refine pv_callv (M := mX7_readPiece) (as := [.int 1]) (st := []) (kc2 := 0) (ks2 := 0) dX7_readPiece_134 wd539 YX7_readSum ⟨wd541, wd4⟩ (mk_get (tl86 hT)) rfl rfl (s_X7_readSum_v1 g hT I47 R (by first | omega | assumption | exact (iv_rng _).2 | exact (iv_rng _).1 | decide)) rfl rfl (Nat.le_of_ble_eq_true rfl) (by decide) rfl rfl 137 rfl (fun rv h1 q53 => ?_)
            obtain ⟨m54, n55, v58, rfl, rfl, I56, K57, pv58, qv58, rv58⟩ := q53
            replace rv58 : (m46 86 3).toInt ≤ (m54 86 3).toInt ∧ (m54 86 3).toInt ≤ (m54 86 2).toInt ∧ (m54 86 2).toInt = (m46 86 2).toInt := rv58
            have K57c := K57
            have K57 := K48.trans (K57.sub (fun _ _ q => q))
            show PV _ _ _ _ _ _ _ 137 [.ref 86, .int 1, .int v16] [.int v58] _
            refine pv_if_ne (M := mX7_readPiece) (tgt := 142) dX7_readPiece_137 140 rfl (by decide) (fun c59 => ?_) (fun c59 => ?_)
            · have c59 := iv_ne (X := v58.toInt) (Y := 0) c59 rfl (by decide)
              refine pv_aload_n (M := mX7_readPiece) 0 dX7_readPiece_142 143 rfl rfl rfl ?_
              refine mv_get (M := mX7_readPiece) (v := .ref lb) dX7_readPiece_143 FX7 1 wd281 (by decide) (tl86 hT) rfl R.2.2.2.1 146 rfl ?_
              refine pv_iload_n (M := mX7_readPiece) 2 dX7_readPiece_146 147 rfl rfl rfl ?_
              refine pv_iconst (M := mX7_readPiece) (v := 0) dX7_readPiece_147 148 rfl (by decide) ?_
              refine pv_callv (M := mX7_readPiece) (as := [.int v16, .int 0]) (st := []) (kc2 := 0) (ks2 := 0) dX7_readPiece_148 wd567 YX6_emit ⟨wd568, wd569⟩ (mk_get R.2.2.2.2.2.2.1) rfl rfl (s_X6_emit g hT I56 lb R.2.2.2.2.2 v16 0 (by decide) (by decide)) rfl rfl (Nat.le_of_ble_eq_true rfl) (by decide) rfl rfl 151 rfl (fun rv h1 q60 => ?_)
              obtain ⟨m61, n62, rfl, rfl, I63, K64, rm61⟩ := q60
              have K64c := K64
              have w65 : (m61 86 3).toInt = (m54 86 3).toInt := congrArg Int32.toInt (K64 86 3 (wr_out (by omega)))
              have w66 : (m61 86 2).toInt = (m54 86 2).toInt := congrArg Int32.toInt (K64 86 2 (wr_out (by omega)))
              have K64 := K57.trans (K64.sub (wr_wr (by omega) (by omega)))
              show PV _ _ _ _ _ _ _ 151 [.ref 86, .int 1, .int v16] [] _
              refine pv_iconst (M := mX7_readPiece) (v := 1) dX7_readPiece_151 152 rfl (by decide) ?_
              have z67 : (1 : Int32).toInt = 1 := by decide
              exact pv_iret (M := mX7_readPiece) dX7_readPiece_152 rfl rfl ⟨_, _, _, rfl, rfl, I63, K64, by decide, by decide, (by refine ⟨?_, ?_, ?_⟩ <;> omega)⟩
            · have c59 := iv_eq (X := v58.toInt) (Y := 0) c59 rfl (by decide)
              refine pv_iconst (M := mX7_readPiece) (v := 0) dX7_readPiece_140 141 rfl (by decide) ?_
              have z68 : (0 : Int32).toInt = 0 := by decide
              exact pv_iret (M := mX7_readPiece) dX7_readPiece_141 rfl rfl ⟨_, _, _, rfl, rfl, I56, K57, by decide, by decide, (by refine ⟨?_, ?_, ?_⟩ <;> omega)⟩
          · have c43 := iv_ne (X := v16.toInt) (Y := 62) c43 rfl (by decide)
            refine pv_iload_n (M := mX7_readPiece) 2 dX7_readPiece_110 111 rfl rfl rfl ?_
            refine pv_bipush (M := mX7_readPiece) (v := 61) dX7_readPiece_111 113 rfl (by decide) ?_
            refine pv_icmp_eq (M := mX7_readPiece) (tgt := 122) dX7_readPiece_113 116 rfl (by decide) (fun c69 => ?_) (fun c69 => ?_)
            · have c69 := iv_eq (X := v16.toInt) (Y := 61) c69 rfl (by decide)
              refine pv_aload_n (M := mX7_readPiece) 0 dX7_readPiece_122 123 rfl rfl rfl ?_
              refine pv_dup (M := mX7_readPiece) dX7_readPiece_123 124 rfl rfl ?_
              refine iv_get (M := mX7_readPiece) (l1 := 0) (l2 := 160) dX7_readPiece_124 FX7 3 wd283 (by decide) (tl86 hT) rfl I11 rfl 127 rfl (fun v70 ev70 pv70 qv70 => ?_)
              have wv70 : v70.toInt = (m9 86 3).toInt := congrArg Int32.toInt ev70
              refine pv_iconst (M := mX7_readPiece) (v := 1) dX7_readPiece_127 128 rfl (by decide) ?_
              refine iv_iadd (M := mX7_readPiece) (X := v70.toInt) (Y := 1) dX7_readPiece_128 129 rfl rfl (by decide) (by omega) (by omega) (fun v71 ev71 => ?_)
              refine iv_put (M := mX7_readPiece) (l1 := 0) (l2 := 160) dX7_readPiece_129 FX7 3 wd283 (by decide) rfl (tl86 hT) rfl rfl rfl I11 rfl (by omega) (by omega) 132 rfl (fun m72 e75 I73 => ?_)
              have K74 := K12.set e75 (wl_r (by omega) (by omega))
              have w76 : (m72 86 3).toInt = v71.toInt := by rw [e75, up2_eq]
              have w77 : (m72 86 2).toInt = (m9 86 2).toInt := by rw [e75, up2_ne (by omega)]
              refine pv_aload_n (M := mX7_readPiece) 0 dX7_readPiece_132 133 rfl rfl rfl ?_
              refine pv_iload_n (M := mX7_readPiece) 1 dX7_readPiece_133 134 rfl rfl rfl ?_
              have z78 : (1 : Int32).toInt = 1 := by decide
              refine pv_callv (M := mX7_readPiece) (as := [.int 1]) (st := []) (kc2 := 0) (ks2 := 0) dX7_readPiece_134 wd539 YX7_readSum ⟨wd541, wd4⟩ (mk_get (tl86 hT)) rfl rfl (s_X7_readSum_v1 g hT I73 R (by first | omega | assumption | exact (iv_rng _).2 | exact (iv_rng _).1 | decide)) rfl rfl (Nat.le_of_ble_eq_true rfl) (by decide) rfl rfl 137 rfl (fun rv h1 q79 => ?_)
              obtain ⟨m80, n81, v84, rfl, rfl, I82, K83, pv84, qv84, rv84⟩ := q79
              replace rv84 : (m72 86 3).toInt ≤ (m80 86 3).toInt ∧ (m80 86 3).toInt ≤ (m80 86 2).toInt ∧ (m80 86 2).toInt = (m72 86 2).toInt := rv84
              have K83c := K83
              have K83 := K74.trans (K83.sub (fun _ _ q => q))
              show PV _ _ _ _ _ _ _ 137 [.ref 86, .int 1, .int v16] [.int v84] _
              refine pv_if_ne (M := mX7_readPiece) (tgt := 142) dX7_readPiece_137 140 rfl (by decide) (fun c85 => ?_) (fun c85 => ?_)
              · have c85 := iv_ne (X := v84.toInt) (Y := 0) c85 rfl (by decide)
                refine pv_aload_n (M := mX7_readPiece) 0 dX7_readPiece_142 143 rfl rfl rfl ?_
                refine mv_get (M := mX7_readPiece) (v := .ref lb) dX7_readPiece_143 FX7 1 wd281 (by decide) (tl86 hT) rfl R.2.2.2.1 146 rfl ?_
                refine pv_iload_n (M := mX7_readPiece) 2 dX7_readPiece_146 147 rfl rfl rfl ?_
                refine pv_iconst (M := mX7_readPiece) (v := 0) dX7_readPiece_147 148 rfl (by decide) ?_
                refine pv_callv (M := mX7_readPiece) (as := [.int v16, .int 0]) (st := []) (kc2 := 0) (ks2 := 0) dX7_readPiece_148 wd567 YX6_emit ⟨wd568, wd569⟩ (mk_get R.2.2.2.2.2.2.1) rfl rfl (s_X6_emit g hT I82 lb R.2.2.2.2.2 v16 0 (by decide) (by decide)) rfl rfl (Nat.le_of_ble_eq_true rfl) (by decide) rfl rfl 151 rfl (fun rv h1 q86 => ?_)
                obtain ⟨m87, n88, rfl, rfl, I89, K90, rm87⟩ := q86
                have K90c := K90
                have w91 : (m87 86 3).toInt = (m80 86 3).toInt := congrArg Int32.toInt (K90 86 3 (wr_out (by omega)))
                have w92 : (m87 86 2).toInt = (m80 86 2).toInt := congrArg Int32.toInt (K90 86 2 (wr_out (by omega)))
                have K90 := K83.trans (K90.sub (wr_wr (by omega) (by omega)))
                show PV _ _ _ _ _ _ _ 151 [.ref 86, .int 1, .int v16] [] _
                refine pv_iconst (M := mX7_readPiece) (v := 1) dX7_readPiece_151 152 rfl (by decide) ?_
                have z93 : (1 : Int32).toInt = 1 := by decide
                exact pv_iret (M := mX7_readPiece) dX7_readPiece_152 rfl rfl ⟨_, _, _, rfl, rfl, I89, K90, by decide, by decide, (by refine ⟨?_, ?_, ?_⟩ <;> omega)⟩
              · have c85 := iv_eq (X := v84.toInt) (Y := 0) c85 rfl (by decide)
                refine pv_iconst (M := mX7_readPiece) (v := 0) dX7_readPiece_140 141 rfl (by decide) ?_
                have z94 : (0 : Int32).toInt = 0 := by decide
                exact pv_iret (M := mX7_readPiece) dX7_readPiece_141 rfl rfl ⟨_, _, _, rfl, rfl, I82, K83, by decide, by decide, (by refine ⟨?_, ?_, ?_⟩ <;> omega)⟩
            · have c69 := iv_ne (X := v16.toInt) (Y := 61) c69 rfl (by decide)
              refine pv_aload_n (M := mX7_readPiece) 0 dX7_readPiece_116 117 rfl rfl rfl ?_
              refine pv_iconst (M := mX7_readPiece) (v := 1) dX7_readPiece_117 118 rfl (by decide) ?_
              have z95 : (1 : Int32).toInt = 1 := by decide
              refine pv_callv (M := mX7_readPiece) (as := [.int 1]) (st := []) (kc2 := 0) (ks2 := 0) dX7_readPiece_118 wd531 YX7_fail ⟨wd533, wd3⟩ (mk_get (tl86 hT)) rfl rfl (s_X7_fail g hT I11 R 1 (by first | omega | assumption | exact (iv_rng _).2 | exact (iv_rng _).1 | decide)) rfl rfl (Nat.le_of_ble_eq_true rfl) (by decide) rfl rfl 121 rfl (fun rv h1 q96 => ?_)
              obtain ⟨m97, n98, v101, rfl, rfl, I99, K100, pv101, qv101, rv101⟩ := q96
              replace rv101 : v101.toInt = 0 ∧ (m9 86 3).toInt ≤ (m97 86 3).toInt ∧ (m97 86 3).toInt ≤ (m97 86 2).toInt ∧ (m97 86 2).toInt = (m9 86 2).toInt := rv101
              have K100c := K100
              have K100 := K12.trans (K100.sub (fun _ _ q => q))
              show PV _ _ _ _ _ _ _ 121 [.ref 86, .int 1, .int v16] [.int v101] _
              exact pv_iret (M := mX7_readPiece) dX7_readPiece_121 rfl (iv_nz (by omega) (by omega)) ⟨_, _, _, rfl, rfl, I99, K100, by omega, by omega, (by refine ⟨?_, ?_, ?_⟩ <;> omega)⟩
      · have c14 := iv_eq (X := v13.toInt) (Y := 0) c14 rfl (by decide)
        refine pv_iconst (M := mX7_readPiece) (v := 0) dX7_readPiece_91 92 rfl (by decide) ?_
        have z102 : (0 : Int32).toInt = 0 := by decide
        exact pv_iret (M := mX7_readPiece) dX7_readPiece_92 rfl rfl ⟨_, _, _, rfl, rfl, I11, K12, by decide, by decide, (by refine ⟨?_, ?_, ?_⟩ <;> omega)⟩
    · have c6 := iv_eq (X := v5.toInt) (Y := 40) c6 rfl (by decide)
      refine pv_aload_n (M := mX7_readPiece) 0 dX7_readPiece_50 51 rfl rfl rfl ?_
      refine pv_iload_n (M := mX7_readPiece) 1 dX7_readPiece_51 52 rfl rfl rfl ?_
      have z103 : (1 : Int32).toInt = 1 := by decide
      refine pv_callv (M := mX7_readPiece) (as := [.int 1]) (st := []) (kc2 := 0) (ks2 := 0) dX7_readPiece_52 wd551 YX7_open ⟨wd553, wd7⟩ (mk_get (tl86 hT)) rfl rfl (s_X7_open g hT I R 1 (by first | omega | assumption | exact (iv_rng _).2 | exact (iv_rng _).1 | decide)) rfl rfl (Nat.le_of_ble_eq_true rfl) (by decide) rfl rfl 55 rfl (fun rv h1 q104 => ?_)
      obtain ⟨m105, n106, v109, rfl, rfl, I107, K108, pv109, qv109, rv109⟩ := q104
      replace rv109 : (v109 = 0 ∨ (1 : Int) ≤ 5) ∧ (m 86 3).toInt ≤ (m105 86 3).toInt ∧ (m105 86 3).toInt ≤ (m105 86 2).toInt ∧ (m105 86 2).toInt = (m 86 2).toInt := by have q_ := rv109; (try rw [z103] at q_); exact q_
      have K108c := K108
      have K108 := Kp.trans (K108.sub (fun _ _ q => q))
      show PV _ _ _ _ _ _ _ 55 [.ref 86, .int 1, pv_U] [.int v109] _
      refine pv_if_eq (M := mX7_readPiece) (tgt := 81) dX7_readPiece_55 58 rfl (by decide) (fun c110 => ?_) (fun c110 => ?_)
      · have c110 := iv_eq (X := v109.toInt) (Y := 0) c110 rfl (by decide)
        refine pv_iconst (M := mX7_readPiece) (v := 0) dX7_readPiece_81 82 rfl (by decide) ?_
        have z111 : (0 : Int32).toInt = 0 := by decide
        exact pv_iret (M := mX7_readPiece) dX7_readPiece_82 rfl rfl ⟨_, _, _, rfl, rfl, I107, K108, by decide, by decide, (by refine ⟨?_, ?_, ?_⟩ <;> omega)⟩
      · have pc110 := rv109.1.resolve_left c110
        have c110 := iv_ne (X := v109.toInt) (Y := 0) c110 rfl (by decide)
        refine pv_aload_n (M := mX7_readPiece) 0 dX7_readPiece_58 59 rfl rfl rfl ?_
        refine pv_iload_n (M := mX7_readPiece) 1 dX7_readPiece_59 60 rfl rfl rfl ?_
        refine pv_iconst (M := mX7_readPiece) (v := 1) dX7_readPiece_60 61 rfl (by decide) ?_
        refine pv_iadd (M := mX7_readPiece) (v := 2) dX7_readPiece_61 62 rfl (by decide) ?_
        have z113 : (2 : Int32).toInt = 2 := by decide
        refine pv_callv (M := mX7_readPiece) (as := [.int 2]) (st := []) (kc2 := 0) (ks2 := 0) dX7_readPiece_62 wd662 YX7_readCondition ⟨wd664, wd12⟩ (mk_get (tl86 hT)) rfl rfl (s_X7_readCondition_v2 g hT I107 R (by first | omega | assumption | exact (iv_rng _).2 | exact (iv_rng _).1 | decide)) rfl rfl (Nat.le_of_ble_eq_true rfl) (by decide) rfl rfl 65 rfl (fun rv h1 q114 => ?_)
        obtain ⟨m115, n116, v119, rfl, rfl, I117, K118, pv119, qv119, rv119⟩ := q114
        replace rv119 : (m105 86 3).toInt ≤ (m115 86 3).toInt ∧ (m115 86 3).toInt ≤ (m115 86 2).toInt ∧ (m115 86 2).toInt = (m105 86 2).toInt := rv119
        have K118c := K118
        have K118 := K108.trans (K118.sub (fun _ _ q => q))
        show PV _ _ _ _ _ _ _ 65 [.ref 86, .int 1, pv_U] [.int v119] _
        refine pv_if_eq (M := mX7_readPiece) (tgt := 81) dX7_readPiece_65 68 rfl (by decide) (fun c120 => ?_) (fun c120 => ?_)
        · have c120 := iv_eq (X := v119.toInt) (Y := 0) c120 rfl (by decide)
          refine pv_iconst (M := mX7_readPiece) (v := 0) dX7_readPiece_81 82 rfl (by decide) ?_
          have z121 : (0 : Int32).toInt = 0 := by decide
          exact pv_iret (M := mX7_readPiece) dX7_readPiece_82 rfl rfl ⟨_, _, _, rfl, rfl, I117, K118, by decide, by decide, (by refine ⟨?_, ?_, ?_⟩ <;> omega)⟩
        · have c120 := iv_ne (X := v119.toInt) (Y := 0) c120 rfl (by decide)
          refine pv_aload_n (M := mX7_readPiece) 0 dX7_readPiece_68 69 rfl rfl rfl ?_
          refine pv_bipush (M := mX7_readPiece) (v := 41) dX7_readPiece_69 71 rfl (by decide) ?_
          have z122 : (41 : Int32).toInt = 41 := by decide
          refine pv_callv (M := mX7_readPiece) (as := [.int 41]) (st := []) (kc2 := 0) (ks2 := 0) dX7_readPiece_71 wd555 YX7_pass ⟨wd557, wd8⟩ (mk_get (tl86 hT)) rfl rfl (s_X7_pass g hT I117 R 41 (by decide) (by decide) (by first | omega | assumption | exact (iv_rng _).2 | exact (iv_rng _).1 | decide)) rfl rfl (Nat.le_of_ble_eq_true rfl) (by decide) rfl rfl 74 rfl (fun rv h1 q123 => ?_)
          obtain ⟨m124, n125, v128, rfl, rfl, I126, K127, pv128, qv128, rv128⟩ := q123
          replace rv128 : (m115 86 3).toInt ≤ (m124 86 3).toInt ∧ (m124 86 3).toInt ≤ (m124 86 2).toInt ∧ (m124 86 2).toInt = (m115 86 2).toInt := rv128
          have K127c := K127
          have K127 := K118.trans (K127.sub (fun _ _ q => q))
          show PV _ _ _ _ _ _ _ 74 [.ref 86, .int 1, pv_U] [.int v128] _
          refine pv_if_eq (M := mX7_readPiece) (tgt := 81) dX7_readPiece_74 77 rfl (by decide) (fun c129 => ?_) (fun c129 => ?_)
          · have c129 := iv_eq (X := v128.toInt) (Y := 0) c129 rfl (by decide)
            refine pv_iconst (M := mX7_readPiece) (v := 0) dX7_readPiece_81 82 rfl (by decide) ?_
            have z130 : (0 : Int32).toInt = 0 := by decide
            exact pv_iret (M := mX7_readPiece) dX7_readPiece_82 rfl rfl ⟨_, _, _, rfl, rfl, I126, K127, by decide, by decide, (by refine ⟨?_, ?_, ?_⟩ <;> omega)⟩
          · have c129 := iv_ne (X := v128.toInt) (Y := 0) c129 rfl (by decide)
            refine pv_iconst (M := mX7_readPiece) (v := 1) dX7_readPiece_77 78 rfl (by decide) ?_
            refine pv_goto (M := mX7_readPiece) (tgt := 82) dX7_readPiece_78 (by decide) ?_
            have z131 : (1 : Int32).toInt = 1 := by decide
            exact pv_iret (M := mX7_readPiece) dX7_readPiece_82 rfl rfl ⟨_, _, _, rfl, rfl, I126, K127, by decide, by decide, (by refine ⟨?_, ?_, ?_⟩ <;> omega)⟩
  · have c3 := iv_eq (X := v2.toInt) (Y := 33) c3 rfl (by decide)
    refine pv_aload_n (M := mX7_readPiece) 0 dX7_readPiece_9 10 rfl rfl rfl ?_
    refine pv_iload_n (M := mX7_readPiece) 1 dX7_readPiece_10 11 rfl rfl rfl ?_
    have z132 : (1 : Int32).toInt = 1 := by decide
    refine pv_callv (M := mX7_readPiece) (as := [.int 1]) (st := []) (kc2 := 0) (ks2 := 0) dX7_readPiece_11 wd551 YX7_open ⟨wd553, wd7⟩ (mk_get (tl86 hT)) rfl rfl (s_X7_open g hT I R 1 (by first | omega | assumption | exact (iv_rng _).2 | exact (iv_rng _).1 | decide)) rfl rfl (Nat.le_of_ble_eq_true rfl) (by decide) rfl rfl 14 rfl (fun rv h1 q133 => ?_)
    obtain ⟨m134, n135, v138, rfl, rfl, I136, K137, pv138, qv138, rv138⟩ := q133
    replace rv138 : (v138 = 0 ∨ (1 : Int) ≤ 5) ∧ (m 86 3).toInt ≤ (m134 86 3).toInt ∧ (m134 86 3).toInt ≤ (m134 86 2).toInt ∧ (m134 86 2).toInt = (m 86 2).toInt := by have q_ := rv138; (try rw [z132] at q_); exact q_
    have K137c := K137
    have K137 := Kp.trans (K137.sub (fun _ _ q => q))
    show PV _ _ _ _ _ _ _ 14 [.ref 86, .int 1, pv_U] [.int v138] _
    refine pv_if_eq (M := mX7_readPiece) (tgt := 27) dX7_readPiece_14 17 rfl (by decide) (fun c139 => ?_) (fun c139 => ?_)
    · have c139 := iv_eq (X := v138.toInt) (Y := 0) c139 rfl (by decide)
      refine pv_iconst (M := mX7_readPiece) (v := 0) dX7_readPiece_27 28 rfl (by decide) ?_
      have z140 : (0 : Int32).toInt = 0 := by decide
      exact pv_iret (M := mX7_readPiece) dX7_readPiece_28 rfl rfl ⟨_, _, _, rfl, rfl, I136, K137, by decide, by decide, (by refine ⟨?_, ?_, ?_⟩ <;> omega)⟩
    · have pc139 := rv138.1.resolve_left c139
      have c139 := iv_ne (X := v138.toInt) (Y := 0) c139 rfl (by decide)
      refine pv_aload_n (M := mX7_readPiece) 0 dX7_readPiece_17 18 rfl rfl rfl ?_
      refine pv_iload_n (M := mX7_readPiece) 1 dX7_readPiece_18 19 rfl rfl rfl ?_
      refine pv_iconst (M := mX7_readPiece) (v := 1) dX7_readPiece_19 20 rfl (by decide) ?_
      refine pv_iadd (M := mX7_readPiece) (v := 2) dX7_readPiece_20 21 rfl (by decide) ?_
      have z142 : (2 : Int32).toInt = 2 := by decide
      refine pv_callv (M := mX7_readPiece) (as := [.int 2]) (st := []) (kc2 := 0) (ks2 := 0) dX7_readPiece_21 wd674 YX7_readPiece ⟨wd676, wd14⟩ (mk_get (tl86 hT)) rfl rfl (s_X7_readPiece_v2 g hT I136 R (by first | omega | assumption | exact (iv_rng _).2 | exact (iv_rng _).1 | decide)) rfl rfl (Nat.le_of_ble_eq_true rfl) (by decide) rfl rfl 24 rfl (fun rv h1 q143 => ?_)
      obtain ⟨m144, n145, v148, rfl, rfl, I146, K147, pv148, qv148, rv148⟩ := q143
      replace rv148 : (m134 86 3).toInt ≤ (m144 86 3).toInt ∧ (m144 86 3).toInt ≤ (m144 86 2).toInt ∧ (m144 86 2).toInt = (m134 86 2).toInt := rv148
      have K147c := K147
      have K147 := K137.trans (K147.sub (fun _ _ q => q))
      show PV _ _ _ _ _ _ _ 24 [.ref 86, .int 1, pv_U] [.int v148] _
      refine pv_if_ne (M := mX7_readPiece) (tgt := 29) dX7_readPiece_24 27 rfl (by decide) (fun c149 => ?_) (fun c149 => ?_)
      · have c149 := iv_ne (X := v148.toInt) (Y := 0) c149 rfl (by decide)
        refine pv_aload_n (M := mX7_readPiece) 0 dX7_readPiece_29 30 rfl rfl rfl ?_
        refine mv_get (M := mX7_readPiece) (v := .ref lb) dX7_readPiece_30 FX7 1 wd281 (by decide) (tl86 hT) rfl R.2.2.2.1 33 rfl ?_
        refine pv_bipush (M := mX7_readPiece) (v := 33) dX7_readPiece_33 35 rfl (by decide) ?_
        refine pv_iconst (M := mX7_readPiece) (v := 0) dX7_readPiece_35 36 rfl (by decide) ?_
        refine pv_callv (M := mX7_readPiece) (as := [.int 33, .int 0]) (st := []) (kc2 := 0) (ks2 := 0) dX7_readPiece_36 wd567 YX6_emit ⟨wd568, wd569⟩ (mk_get R.2.2.2.2.2.2.1) rfl rfl (s_X6_emit g hT I146 lb R.2.2.2.2.2 33 0 (by decide) (by decide)) rfl rfl (Nat.le_of_ble_eq_true rfl) (by decide) rfl rfl 39 rfl (fun rv h1 q150 => ?_)
        obtain ⟨m151, n152, rfl, rfl, I153, K154, rm151⟩ := q150
        have K154c := K154
        have w155 : (m151 86 3).toInt = (m144 86 3).toInt := congrArg Int32.toInt (K154 86 3 (wr_out (by omega)))
        have w156 : (m151 86 2).toInt = (m144 86 2).toInt := congrArg Int32.toInt (K154 86 2 (wr_out (by omega)))
        have K154 := K147.trans (K154.sub (wr_wr (by omega) (by omega)))
        show PV _ _ _ _ _ _ _ 39 [.ref 86, .int 1, pv_U] [] _
        refine pv_iconst (M := mX7_readPiece) (v := 1) dX7_readPiece_39 40 rfl (by decide) ?_
        have z157 : (1 : Int32).toInt = 1 := by decide
        exact pv_iret (M := mX7_readPiece) dX7_readPiece_40 rfl rfl ⟨_, _, _, rfl, rfl, I153, K154, by decide, by decide, (by refine ⟨?_, ?_, ?_⟩ <;> omega)⟩
      · have c149 := iv_eq (X := v148.toInt) (Y := 0) c149 rfl (by decide)
        refine pv_iconst (M := mX7_readPiece) (v := 0) dX7_readPiece_27 28 rfl (by decide) ?_
        have z158 : (0 : Int32).toInt = 0 := by decide
        exact pv_iret (M := mX7_readPiece) dX7_readPiece_28 rfl rfl ⟨_, _, _, rfl, rfl, I146, K147, by decide, by decide, (by refine ⟨?_, ?_, ?_⟩ <;> omega)⟩

set_option maxHeartbeats 2000000 in
set_option maxRecDepth 20000 in
theorem s_X7_readPart_v1 (g : pv_G) {T : List mv_T} {m : Nat → Nat → Int32} {n : Nat → Nat → Int64} {r : Nat → Value} {la lb : Nat} (hT : TX T) (I : IV BB m) (R : RX T r la lb) (hp0 : (m 86 3).toInt ≤ (m 86 2).toInt) : PM g mX7_readPart yX7_readPart (sqI T BB (wl [(77, 96, none)]) r m 0 1 (fun m' v => (m 86 3).toInt ≤ (m' 86 3).toInt ∧ (m' 86 3).toInt ≤ (m' 86 2).toInt ∧ (m' 86 2).toInt = (m 86 2).toInt)) 24 0 0 [.ref 86, .int 1] (mk T m n r) := by
  have Kp : fr (wl [(77, 96, none)]) m m := fr.rf
  have R0 := R
  have zR := R.2.2.2.2.1.1
  have zR2 := R.2.2.2.2.2.1
  have z65 : 0 ≤ (m 86 3).toInt ∧ (m 86 3).toInt ≤ 160 := I 86 3
  have z66 : 0 ≤ (m 86 2).toInt ∧ (m 86 2).toInt ≤ 160 := I 86 2
  refine PM.of 2 (lo := [.ref 86, .int 1, pv_U, pv_U]) rfl (by decide) rfl rfl (Nat.le_of_ble_eq_true rfl) ?_
  refine pv_aload_n (M := mX7_readPart) 0 dX7_readPart_0 1 rfl rfl rfl ?_
  refine mv_get (M := mX7_readPart) (v := .ref lb) dX7_readPart_1 FX7 1 wd281 (by decide) (tl86 hT) rfl R.2.2.2.1 4 rfl ?_
  refine pv_callv (M := mX7_readPart) (as := []) (st := []) (kc2 := 0) (ks2 := 0) dX7_readPart_4 wd666 YX6_steps ⟨wd667, wd668⟩ (mk_get R.2.2.2.2.2.2.1) rfl rfl (s_X6_steps g hT I lb R.2.2.2.2.2) rfl rfl (Nat.le_of_ble_eq_true rfl) (by decide) rfl rfl 7 rfl (fun rv h1 q1 => ?_)
  obtain ⟨v2, rfl, rfl, pv2, qv2, rv2⟩ := q1
  show PV _ _ _ _ _ _ _ 7 [.ref 86, .int 1, pv_U, pv_U] [.int v2] _
  refine pv_istore_n (M := mX7_readPart) 2 (lo2 := [.ref 86, .int 1, .int v2, pv_U]) dX7_readPart_7 8 rfl rfl (by decide) rfl rfl ?_
  refine pv_iconst (M := mX7_readPart) (v := 0) dX7_readPart_8 9 rfl (by decide) ?_
  refine pv_istore_n (M := mX7_readPart) 3 (lo2 := [.ref 86, .int 1, .int v2, .int 0]) dX7_readPart_9 10 rfl rfl (by decide) rfl rfl ?_
  have lp9 : ∀ (fuel8 : Nat) (y3 : Int32) (m4 : Nat → Nat → Int32) (n5 : Nat → Nat → Int64), (0 ≤ y3.toInt) → (y3.toInt ≤ 160) → ((m 86 3).toInt ≤ (m4 86 3).toInt) → ((m4 86 3).toInt ≤ (m4 86 2).toInt) → ((m4 86 2).toInt = (m 86 2).toInt) → IV BB m4 → fr (wl [(77, 96, none)]) m m4 → ((160 - y3.toInt) : Int).toNat < fuel8 → PV none g mX7_readPart (sqI T BB (wl [(77, 96, none)]) r m 0 1 (fun m' v => (m 86 3).toInt ≤ (m' 86 3).toInt ∧ (m' 86 3).toInt ≤ (m' 86 2).toInt ∧ (m' 86 2).toInt = (m 86 2).toInt)) 24 0 0 10 [.ref 86, .int 1, .int v2, .int y3] [] (mk T m4 n5 r) := by
    intro fuel8
    induction fuel8 with
    | zero => intro y3 m4 n5 b11 b12 b13 b14 b15 I6 K7 z16; omega
    | succ fuel8 ih10 =>
      intro y3 m4 n5 b11 b12 b13 b14 b15 I6 K7 z16
      have z17 : 0 ≤ (m4 86 3).toInt ∧ (m4 86 3).toInt ≤ 160 := I6 86 3
      have z18 : 0 ≤ (m4 86 2).toInt ∧ (m4 86 2).toInt ≤ 160 := I6 86 2
      refine pv_iload_n (M := mX7_readPart) 3 dX7_readPart_10 11 rfl rfl rfl ?_
      refine pv_sipush (M := mX7_readPart) (v := 160) dX7_readPart_11 14 rfl (by decide) ?_
      refine pv_icmp_ge (M := mX7_readPart) (tgt := 65) dX7_readPart_14 17 rfl (by decide) (fun c19 => ?_) (fun c19 => ?_)
      · have c19 := iv_le (X := 160) (Y := y3.toInt) c19 (by decide) rfl
        refine pv_aload_n (M := mX7_readPart) 0 dX7_readPart_65 66 rfl rfl rfl ?_
        refine mv_get (M := mX7_readPart) (v := .ref lb) dX7_readPart_66 FX7 1 wd281 (by decide) (tl86 hT) rfl R.2.2.2.1 69 rfl ?_
        refine pv_bipush (M := mX7_readPart) (v := 38) dX7_readPart_69 71 rfl (by decide) ?_
        refine pv_iload_n (M := mX7_readPart) 2 dX7_readPart_71 72 rfl rfl rfl ?_
        refine pv_callv (M := mX7_readPart) (as := [.int 38, .int v2]) (st := []) (kc2 := 0) (ks2 := 0) dX7_readPart_72 wd678 YX6_aimLeaps ⟨wd679, wd680⟩ (mk_get R.2.2.2.2.2.2.1) rfl rfl (s_X6_aimLeaps g hT I6 lb R.2.2.2.2.2 38 v2) rfl rfl (Nat.le_of_ble_eq_true rfl) (by decide) rfl rfl 75 rfl (fun rv h1 q20 => ?_)
        obtain ⟨m21, n22, rfl, rfl, I23, K24, rm21⟩ := q20
        have K24c := K24
        have w25 : (m21 86 3).toInt = (m4 86 3).toInt := congrArg Int32.toInt (K24 86 3 (wr_out (by omega)))
        have w26 : (m21 86 2).toInt = (m4 86 2).toInt := congrArg Int32.toInt (K24 86 2 (wr_out (by omega)))
        have K24 := K7.trans (K24.sub (wr_wr (by omega) (by omega)))
        show PV _ _ _ _ _ _ _ 75 [.ref 86, .int 1, .int v2, .int y3] [] _
        refine pv_iconst (M := mX7_readPart) (v := 1) dX7_readPart_75 76 rfl (by decide) ?_
        have z27 : (1 : Int32).toInt = 1 := by decide
        exact pv_iret (M := mX7_readPart) dX7_readPart_76 rfl rfl ⟨_, _, _, rfl, rfl, I23, K24, by decide, by decide, (by refine ⟨?_, ?_, ?_⟩ <;> omega)⟩
      · have c19 := iv_nle (X := 160) (Y := y3.toInt) c19 (by decide) rfl
        refine pv_aload_n (M := mX7_readPart) 0 dX7_readPart_17 18 rfl rfl rfl ?_
        refine pv_iload_n (M := mX7_readPart) 1 dX7_readPart_18 19 rfl rfl rfl ?_
        have z28 : (1 : Int32).toInt = 1 := by decide
        refine pv_callv (M := mX7_readPart) (as := [.int 1]) (st := []) (kc2 := 0) (ks2 := 0) dX7_readPart_19 wd674 YX7_readPiece ⟨wd676, wd14⟩ (mk_get (tl86 hT)) rfl rfl (s_X7_readPiece_v1 g hT I6 R (by first | omega | assumption | exact (iv_rng _).2 | exact (iv_rng _).1 | decide)) rfl rfl (Nat.le_of_ble_eq_true rfl) (by decide) rfl rfl 22 rfl (fun rv h1 q29 => ?_)
        obtain ⟨m30, n31, v34, rfl, rfl, I32, K33, pv34, qv34, rv34⟩ := q29
        replace rv34 : (m4 86 3).toInt ≤ (m30 86 3).toInt ∧ (m30 86 3).toInt ≤ (m30 86 2).toInt ∧ (m30 86 2).toInt = (m4 86 2).toInt := rv34
        have K33c := K33
        have K33 := K7.trans (K33.sub (fun _ _ q => q))
        show PV _ _ _ _ _ _ _ 22 [.ref 86, .int 1, .int v2, .int y3] [.int v34] _
        refine pv_if_ne (M := mX7_readPart) (tgt := 27) dX7_readPart_22 25 rfl (by decide) (fun c35 => ?_) (fun c35 => ?_)
        · have c35 := iv_ne (X := v34.toInt) (Y := 0) c35 rfl (by decide)
          refine pv_aload_n (M := mX7_readPart) 0 dX7_readPart_27 28 rfl rfl rfl ?_
          refine pv_callv (M := mX7_readPart) (as := []) (st := []) (kc2 := 0) (ks2 := 0) dX7_readPart_28 wd527 YX7_peek ⟨wd529, wd2⟩ (mk_get (tl86 hT)) rfl rfl (s_X7_peek g hT I32 R) rfl rfl (Nat.le_of_ble_eq_true rfl) (by decide) rfl rfl 31 rfl (fun rv h1 q36 => ?_)
          obtain ⟨v37, rfl, rfl, pv37, qv37, rv37⟩ := q36
          replace rv37 : v37.toInt = -1 ∨ (m30 86 3).toInt < (m30 86 2).toInt := rv37
          show PV _ _ _ _ _ _ _ 31 [.ref 86, .int 1, .int v2, .int y3] [.int v37] _
          refine pv_bipush (M := mX7_readPart) (v := 38) dX7_readPart_31 33 rfl (by decide) ?_
          refine pv_icmp_eq (M := mX7_readPart) (tgt := 39) dX7_readPart_33 36 rfl (by decide) (fun c38 => ?_) (fun c38 => ?_)
          · have c38 := iv_eq (X := v37.toInt) (Y := 38) c38 rfl (by decide)
            refine pv_aload_n (M := mX7_readPart) 0 dX7_readPart_39 40 rfl rfl rfl ?_
            refine mv_get (M := mX7_readPart) (v := .ref lb) dX7_readPart_40 FX7 1 wd281 (by decide) (tl86 hT) rfl R.2.2.2.1 43 rfl ?_
            refine pv_bipush (M := mX7_readPart) (v := 38) dX7_readPart_43 45 rfl (by decide) ?_
            refine pv_iconst (M := mX7_readPart) (v := (-1)) dX7_readPart_45 46 rfl (by decide) ?_
            refine pv_callv (M := mX7_readPart) (as := [.int 38, .int (-1)]) (st := []) (kc2 := 0) (ks2 := 0) dX7_readPart_46 wd567 YX6_emit ⟨wd568, wd569⟩ (mk_get R.2.2.2.2.2.2.1) rfl rfl (s_X6_emit g hT I32 lb R.2.2.2.2.2 38 (-1) (by decide) (by decide)) rfl rfl (Nat.le_of_ble_eq_true rfl) (by decide) rfl rfl 49 rfl (fun rv h1 q39 => ?_)
            obtain ⟨m40, n41, rfl, rfl, I42, K43, rm40⟩ := q39
            have K43c := K43
            have w44 : (m40 86 3).toInt = (m30 86 3).toInt := congrArg Int32.toInt (K43 86 3 (wr_out (by omega)))
            have w45 : (m40 86 2).toInt = (m30 86 2).toInt := congrArg Int32.toInt (K43 86 2 (wr_out (by omega)))
            have K43 := K33.trans (K43.sub (wr_wr (by omega) (by omega)))
            show PV _ _ _ _ _ _ _ 49 [.ref 86, .int 1, .int v2, .int y3] [] _
            refine pv_aload_n (M := mX7_readPart) 0 dX7_readPart_49 50 rfl rfl rfl ?_
            refine pv_dup (M := mX7_readPart) dX7_readPart_50 51 rfl rfl ?_
            refine iv_get (M := mX7_readPart) (l1 := 0) (l2 := 160) dX7_readPart_51 FX7 3 wd283 (by decide) (tl86 hT) rfl I42 rfl 54 rfl (fun v46 ev46 pv46 qv46 => ?_)
            have wv46 : v46.toInt = (m40 86 3).toInt := congrArg Int32.toInt ev46
            refine pv_iconst (M := mX7_readPart) (v := 1) dX7_readPart_54 55 rfl (by decide) ?_
            refine iv_iadd (M := mX7_readPart) (X := v46.toInt) (Y := 1) dX7_readPart_55 56 rfl rfl (by decide) (by omega) (by omega) (fun v47 ev47 => ?_)
            refine iv_put (M := mX7_readPart) (l1 := 0) (l2 := 160) dX7_readPart_56 FX7 3 wd283 (by decide) rfl (tl86 hT) rfl rfl rfl I42 rfl (by omega) (by omega) 59 rfl (fun m48 e51 I49 => ?_)
            have K50 := K43.set e51 (wl_r (by omega) (by omega))
            have w52 : (m48 86 3).toInt = v47.toInt := by rw [e51, up2_eq]
            have w53 : (m48 86 2).toInt = (m40 86 2).toInt := by rw [e51, up2_ne (by omega)]
            refine iv_inc (M := mX7_readPart) (C := 1) dX7_readPart_59 62 rfl rfl (by decide) rfl rfl (by decide) (by omega) (by omega) (fun v54 ev54 => ?_)
            show PV _ _ _ _ _ _ _ 62 [.ref 86, .int 1, .int v2, .int v54] [] _
            refine pv_goto (M := mX7_readPart) (tgt := 10) dX7_readPart_62 (by decide) ?_
            exact ih10 v54 m48 n41 (by first | omega | assumption | exact (iv_rng _).2 | exact (iv_rng _).1 | decide) (by first | omega | assumption | exact (iv_rng _).2 | exact (iv_rng _).1 | decide) (by first | omega | assumption | (show (m 86 3).toInt ≤ (m48 86 3).toInt; omega) | decide) (by first | omega | assumption | (show (m48 86 3).toInt ≤ (m48 86 2).toInt; omega) | decide) (by first | omega | assumption | (show (m48 86 2).toInt = (m 86 2).toInt; omega) | decide) I49 K50 (by omega)
          · have c38 := iv_ne (X := v37.toInt) (Y := 38) c38 rfl (by decide)
            refine pv_goto (M := mX7_readPart) (tgt := 65) dX7_readPart_36 (by decide) ?_
            refine pv_aload_n (M := mX7_readPart) 0 dX7_readPart_65 66 rfl rfl rfl ?_
            refine mv_get (M := mX7_readPart) (v := .ref lb) dX7_readPart_66 FX7 1 wd281 (by decide) (tl86 hT) rfl R.2.2.2.1 69 rfl ?_
            refine pv_bipush (M := mX7_readPart) (v := 38) dX7_readPart_69 71 rfl (by decide) ?_
            refine pv_iload_n (M := mX7_readPart) 2 dX7_readPart_71 72 rfl rfl rfl ?_
            refine pv_callv (M := mX7_readPart) (as := [.int 38, .int v2]) (st := []) (kc2 := 0) (ks2 := 0) dX7_readPart_72 wd678 YX6_aimLeaps ⟨wd679, wd680⟩ (mk_get R.2.2.2.2.2.2.1) rfl rfl (s_X6_aimLeaps g hT I32 lb R.2.2.2.2.2 38 v2) rfl rfl (Nat.le_of_ble_eq_true rfl) (by decide) rfl rfl 75 rfl (fun rv h1 q55 => ?_)
            obtain ⟨m56, n57, rfl, rfl, I58, K59, rm56⟩ := q55
            have K59c := K59
            have w60 : (m56 86 3).toInt = (m30 86 3).toInt := congrArg Int32.toInt (K59 86 3 (wr_out (by omega)))
            have w61 : (m56 86 2).toInt = (m30 86 2).toInt := congrArg Int32.toInt (K59 86 2 (wr_out (by omega)))
            have K59 := K33.trans (K59.sub (wr_wr (by omega) (by omega)))
            show PV _ _ _ _ _ _ _ 75 [.ref 86, .int 1, .int v2, .int y3] [] _
            refine pv_iconst (M := mX7_readPart) (v := 1) dX7_readPart_75 76 rfl (by decide) ?_
            have z62 : (1 : Int32).toInt = 1 := by decide
            exact pv_iret (M := mX7_readPart) dX7_readPart_76 rfl rfl ⟨_, _, _, rfl, rfl, I58, K59, by decide, by decide, (by refine ⟨?_, ?_, ?_⟩ <;> omega)⟩
        · have c35 := iv_eq (X := v34.toInt) (Y := 0) c35 rfl (by decide)
          refine pv_iconst (M := mX7_readPart) (v := 0) dX7_readPart_25 26 rfl (by decide) ?_
          have z63 : (0 : Int32).toInt = 0 := by decide
          exact pv_iret (M := mX7_readPart) dX7_readPart_26 rfl rfl ⟨_, _, _, rfl, rfl, I32, K33, by decide, by decide, (by refine ⟨?_, ?_, ?_⟩ <;> omega)⟩
  have z64 : (0 : Int32).toInt = 0 := by decide
  exact lp9 (((160 - 0) : Int).toNat + 1) 0 m n (by first | omega | assumption | exact (iv_rng _).2 | exact (iv_rng _).1 | decide) (by first | omega | assumption | exact (iv_rng _).2 | exact (iv_rng _).1 | decide) (by first | omega | assumption | (show (m 86 3).toInt ≤ (m 86 3).toInt; omega) | decide) (by first | omega | assumption | (show (m 86 3).toInt ≤ (m 86 2).toInt; omega) | decide) (by first | omega | assumption | (show (m 86 2).toInt = (m 86 2).toInt; omega) | decide) I Kp (by omega)

set_option maxHeartbeats 2000000 in
set_option maxRecDepth 20000 in
theorem s_X7_readCondition_v1 (g : pv_G) {T : List mv_T} {m : Nat → Nat → Int32} {n : Nat → Nat → Int64} {r : Nat → Value} {la lb : Nat} (hT : TX T) (I : IV BB m) (R : RX T r la lb) (hp0 : (m 86 3).toInt ≤ (m 86 2).toInt) : PM g mX7_readCondition yX7_readCondition (sqI T BB (wl [(77, 96, none)]) r m 0 1 (fun m' v => (m 86 3).toInt ≤ (m' 86 3).toInt ∧ (m' 86 3).toInt ≤ (m' 86 2).toInt ∧ (m' 86 2).toInt = (m 86 2).toInt)) 25 0 0 [.ref 86, .int 1] (mk T m n r) := by
  have Kp : fr (wl [(77, 96, none)]) m m := fr.rf
  have R0 := R
  have zR := R.2.2.2.2.1.1
  have zR2 := R.2.2.2.2.2.1
  have z65 : 0 ≤ (m 86 3).toInt ∧ (m 86 3).toInt ≤ 160 := I 86 3
  have z66 : 0 ≤ (m 86 2).toInt ∧ (m 86 2).toInt ≤ 160 := I 86 2
  refine PM.of 2 (lo := [.ref 86, .int 1, pv_U, pv_U]) rfl (by decide) rfl rfl (Nat.le_of_ble_eq_true rfl) ?_
  refine pv_aload_n (M := mX7_readCondition) 0 dX7_readCondition_0 1 rfl rfl rfl ?_
  refine mv_get (M := mX7_readCondition) (v := .ref lb) dX7_readCondition_1 FX7 1 wd281 (by decide) (tl86 hT) rfl R.2.2.2.1 4 rfl ?_
  refine pv_callv (M := mX7_readCondition) (as := []) (st := []) (kc2 := 0) (ks2 := 0) dX7_readCondition_4 wd666 YX6_steps ⟨wd667, wd668⟩ (mk_get R.2.2.2.2.2.2.1) rfl rfl (s_X6_steps g hT I lb R.2.2.2.2.2) rfl rfl (Nat.le_of_ble_eq_true rfl) (by decide) rfl rfl 7 rfl (fun rv h1 q1 => ?_)
  obtain ⟨v2, rfl, rfl, pv2, qv2, rv2⟩ := q1
  show PV _ _ _ _ _ _ _ 7 [.ref 86, .int 1, pv_U, pv_U] [.int v2] _
  refine pv_istore_n (M := mX7_readCondition) 2 (lo2 := [.ref 86, .int 1, .int v2, pv_U]) dX7_readCondition_7 8 rfl rfl (by decide) rfl rfl ?_
  refine pv_iconst (M := mX7_readCondition) (v := 0) dX7_readCondition_8 9 rfl (by decide) ?_
  refine pv_istore_n (M := mX7_readCondition) 3 (lo2 := [.ref 86, .int 1, .int v2, .int 0]) dX7_readCondition_9 10 rfl rfl (by decide) rfl rfl ?_
  have lp9 : ∀ (fuel8 : Nat) (y3 : Int32) (m4 : Nat → Nat → Int32) (n5 : Nat → Nat → Int64), (0 ≤ y3.toInt) → (y3.toInt ≤ 160) → ((m 86 3).toInt ≤ (m4 86 3).toInt) → ((m4 86 3).toInt ≤ (m4 86 2).toInt) → ((m4 86 2).toInt = (m 86 2).toInt) → IV BB m4 → fr (wl [(77, 96, none)]) m m4 → ((160 - y3.toInt) : Int).toNat < fuel8 → PV none g mX7_readCondition (sqI T BB (wl [(77, 96, none)]) r m 0 1 (fun m' v => (m 86 3).toInt ≤ (m' 86 3).toInt ∧ (m' 86 3).toInt ≤ (m' 86 2).toInt ∧ (m' 86 2).toInt = (m 86 2).toInt)) 25 0 0 10 [.ref 86, .int 1, .int v2, .int y3] [] (mk T m4 n5 r) := by
    intro fuel8
    induction fuel8 with
    | zero => intro y3 m4 n5 b11 b12 b13 b14 b15 I6 K7 z16; omega
    | succ fuel8 ih10 =>
      intro y3 m4 n5 b11 b12 b13 b14 b15 I6 K7 z16
      have z17 : 0 ≤ (m4 86 3).toInt ∧ (m4 86 3).toInt ≤ 160 := I6 86 3
      have z18 : 0 ≤ (m4 86 2).toInt ∧ (m4 86 2).toInt ≤ 160 := I6 86 2
      refine pv_iload_n (M := mX7_readCondition) 3 dX7_readCondition_10 11 rfl rfl rfl ?_
      refine pv_sipush (M := mX7_readCondition) (v := 160) dX7_readCondition_11 14 rfl (by decide) ?_
      refine pv_icmp_ge (M := mX7_readCondition) (tgt := 65) dX7_readCondition_14 17 rfl (by decide) (fun c19 => ?_) (fun c19 => ?_)
      · have c19 := iv_le (X := 160) (Y := y3.toInt) c19 (by decide) rfl
        refine pv_aload_n (M := mX7_readCondition) 0 dX7_readCondition_65 66 rfl rfl rfl ?_
        refine mv_get (M := mX7_readCondition) (v := .ref lb) dX7_readCondition_66 FX7 1 wd281 (by decide) (tl86 hT) rfl R.2.2.2.1 69 rfl ?_
        refine pv_bipush (M := mX7_readCondition) (v := 124) dX7_readCondition_69 71 rfl (by decide) ?_
        refine pv_iload_n (M := mX7_readCondition) 2 dX7_readCondition_71 72 rfl rfl rfl ?_
        refine pv_callv (M := mX7_readCondition) (as := [.int 124, .int v2]) (st := []) (kc2 := 0) (ks2 := 0) dX7_readCondition_72 wd678 YX6_aimLeaps ⟨wd679, wd680⟩ (mk_get R.2.2.2.2.2.2.1) rfl rfl (s_X6_aimLeaps g hT I6 lb R.2.2.2.2.2 124 v2) rfl rfl (Nat.le_of_ble_eq_true rfl) (by decide) rfl rfl 75 rfl (fun rv h1 q20 => ?_)
        obtain ⟨m21, n22, rfl, rfl, I23, K24, rm21⟩ := q20
        have K24c := K24
        have w25 : (m21 86 3).toInt = (m4 86 3).toInt := congrArg Int32.toInt (K24 86 3 (wr_out (by omega)))
        have w26 : (m21 86 2).toInt = (m4 86 2).toInt := congrArg Int32.toInt (K24 86 2 (wr_out (by omega)))
        have K24 := K7.trans (K24.sub (wr_wr (by omega) (by omega)))
        show PV _ _ _ _ _ _ _ 75 [.ref 86, .int 1, .int v2, .int y3] [] _
        refine pv_iconst (M := mX7_readCondition) (v := 1) dX7_readCondition_75 76 rfl (by decide) ?_
        have z27 : (1 : Int32).toInt = 1 := by decide
        exact pv_iret (M := mX7_readCondition) dX7_readCondition_76 rfl rfl ⟨_, _, _, rfl, rfl, I23, K24, by decide, by decide, (by refine ⟨?_, ?_, ?_⟩ <;> omega)⟩
      · have c19 := iv_nle (X := 160) (Y := y3.toInt) c19 (by decide) rfl
        refine pv_aload_n (M := mX7_readCondition) 0 dX7_readCondition_17 18 rfl rfl rfl ?_
        refine pv_iload_n (M := mX7_readCondition) 1 dX7_readCondition_18 19 rfl rfl rfl ?_
        have z28 : (1 : Int32).toInt = 1 := by decide
        refine pv_callv (M := mX7_readCondition) (as := [.int 1]) (st := []) (kc2 := 0) (ks2 := 0) dX7_readCondition_19 wd670 YX7_readPart ⟨wd672, wd13⟩ (mk_get (tl86 hT)) rfl rfl (s_X7_readPart_v1 g hT I6 R (by first | omega | assumption | exact (iv_rng _).2 | exact (iv_rng _).1 | decide)) rfl rfl (Nat.le_of_ble_eq_true rfl) (by decide) rfl rfl 22 rfl (fun rv h1 q29 => ?_)
        obtain ⟨m30, n31, v34, rfl, rfl, I32, K33, pv34, qv34, rv34⟩ := q29
        replace rv34 : (m4 86 3).toInt ≤ (m30 86 3).toInt ∧ (m30 86 3).toInt ≤ (m30 86 2).toInt ∧ (m30 86 2).toInt = (m4 86 2).toInt := rv34
        have K33c := K33
        have K33 := K7.trans (K33.sub (fun _ _ q => q))
        show PV _ _ _ _ _ _ _ 22 [.ref 86, .int 1, .int v2, .int y3] [.int v34] _
        refine pv_if_ne (M := mX7_readCondition) (tgt := 27) dX7_readCondition_22 25 rfl (by decide) (fun c35 => ?_) (fun c35 => ?_)
        · have c35 := iv_ne (X := v34.toInt) (Y := 0) c35 rfl (by decide)
          refine pv_aload_n (M := mX7_readCondition) 0 dX7_readCondition_27 28 rfl rfl rfl ?_
          refine pv_callv (M := mX7_readCondition) (as := []) (st := []) (kc2 := 0) (ks2 := 0) dX7_readCondition_28 wd527 YX7_peek ⟨wd529, wd2⟩ (mk_get (tl86 hT)) rfl rfl (s_X7_peek g hT I32 R) rfl rfl (Nat.le_of_ble_eq_true rfl) (by decide) rfl rfl 31 rfl (fun rv h1 q36 => ?_)
          obtain ⟨v37, rfl, rfl, pv37, qv37, rv37⟩ := q36
          replace rv37 : v37.toInt = -1 ∨ (m30 86 3).toInt < (m30 86 2).toInt := rv37
          show PV _ _ _ _ _ _ _ 31 [.ref 86, .int 1, .int v2, .int y3] [.int v37] _
          refine pv_bipush (M := mX7_readCondition) (v := 124) dX7_readCondition_31 33 rfl (by decide) ?_
          refine pv_icmp_eq (M := mX7_readCondition) (tgt := 39) dX7_readCondition_33 36 rfl (by decide) (fun c38 => ?_) (fun c38 => ?_)
          · have c38 := iv_eq (X := v37.toInt) (Y := 124) c38 rfl (by decide)
            refine pv_aload_n (M := mX7_readCondition) 0 dX7_readCondition_39 40 rfl rfl rfl ?_
            refine mv_get (M := mX7_readCondition) (v := .ref lb) dX7_readCondition_40 FX7 1 wd281 (by decide) (tl86 hT) rfl R.2.2.2.1 43 rfl ?_
            refine pv_bipush (M := mX7_readCondition) (v := 124) dX7_readCondition_43 45 rfl (by decide) ?_
            refine pv_iconst (M := mX7_readCondition) (v := (-1)) dX7_readCondition_45 46 rfl (by decide) ?_
            refine pv_callv (M := mX7_readCondition) (as := [.int 124, .int (-1)]) (st := []) (kc2 := 0) (ks2 := 0) dX7_readCondition_46 wd567 YX6_emit ⟨wd568, wd569⟩ (mk_get R.2.2.2.2.2.2.1) rfl rfl (s_X6_emit g hT I32 lb R.2.2.2.2.2 124 (-1) (by decide) (by decide)) rfl rfl (Nat.le_of_ble_eq_true rfl) (by decide) rfl rfl 49 rfl (fun rv h1 q39 => ?_)
            obtain ⟨m40, n41, rfl, rfl, I42, K43, rm40⟩ := q39
            have K43c := K43
            have w44 : (m40 86 3).toInt = (m30 86 3).toInt := congrArg Int32.toInt (K43 86 3 (wr_out (by omega)))
            have w45 : (m40 86 2).toInt = (m30 86 2).toInt := congrArg Int32.toInt (K43 86 2 (wr_out (by omega)))
            have K43 := K33.trans (K43.sub (wr_wr (by omega) (by omega)))
            show PV _ _ _ _ _ _ _ 49 [.ref 86, .int 1, .int v2, .int y3] [] _
            refine pv_aload_n (M := mX7_readCondition) 0 dX7_readCondition_49 50 rfl rfl rfl ?_
            refine pv_dup (M := mX7_readCondition) dX7_readCondition_50 51 rfl rfl ?_
            refine iv_get (M := mX7_readCondition) (l1 := 0) (l2 := 160) dX7_readCondition_51 FX7 3 wd283 (by decide) (tl86 hT) rfl I42 rfl 54 rfl (fun v46 ev46 pv46 qv46 => ?_)
            have wv46 : v46.toInt = (m40 86 3).toInt := congrArg Int32.toInt ev46
            refine pv_iconst (M := mX7_readCondition) (v := 1) dX7_readCondition_54 55 rfl (by decide) ?_
            refine iv_iadd (M := mX7_readCondition) (X := v46.toInt) (Y := 1) dX7_readCondition_55 56 rfl rfl (by decide) (by omega) (by omega) (fun v47 ev47 => ?_)
            refine iv_put (M := mX7_readCondition) (l1 := 0) (l2 := 160) dX7_readCondition_56 FX7 3 wd283 (by decide) rfl (tl86 hT) rfl rfl rfl I42 rfl (by omega) (by omega) 59 rfl (fun m48 e51 I49 => ?_)
            have K50 := K43.set e51 (wl_r (by omega) (by omega))
            have w52 : (m48 86 3).toInt = v47.toInt := by rw [e51, up2_eq]
            have w53 : (m48 86 2).toInt = (m40 86 2).toInt := by rw [e51, up2_ne (by omega)]
            refine iv_inc (M := mX7_readCondition) (C := 1) dX7_readCondition_59 62 rfl rfl (by decide) rfl rfl (by decide) (by omega) (by omega) (fun v54 ev54 => ?_)
            show PV _ _ _ _ _ _ _ 62 [.ref 86, .int 1, .int v2, .int v54] [] _
            refine pv_goto (M := mX7_readCondition) (tgt := 10) dX7_readCondition_62 (by decide) ?_
            exact ih10 v54 m48 n41 (by first | omega | assumption | exact (iv_rng _).2 | exact (iv_rng _).1 | decide) (by first | omega | assumption | exact (iv_rng _).2 | exact (iv_rng _).1 | decide) (by first | omega | assumption | (show (m 86 3).toInt ≤ (m48 86 3).toInt; omega) | decide) (by first | omega | assumption | (show (m48 86 3).toInt ≤ (m48 86 2).toInt; omega) | decide) (by first | omega | assumption | (show (m48 86 2).toInt = (m 86 2).toInt; omega) | decide) I49 K50 (by omega)
          · have c38 := iv_ne (X := v37.toInt) (Y := 124) c38 rfl (by decide)
            refine pv_goto (M := mX7_readCondition) (tgt := 65) dX7_readCondition_36 (by decide) ?_
            refine pv_aload_n (M := mX7_readCondition) 0 dX7_readCondition_65 66 rfl rfl rfl ?_
            refine mv_get (M := mX7_readCondition) (v := .ref lb) dX7_readCondition_66 FX7 1 wd281 (by decide) (tl86 hT) rfl R.2.2.2.1 69 rfl ?_
            refine pv_bipush (M := mX7_readCondition) (v := 124) dX7_readCondition_69 71 rfl (by decide) ?_
            refine pv_iload_n (M := mX7_readCondition) 2 dX7_readCondition_71 72 rfl rfl rfl ?_
            refine pv_callv (M := mX7_readCondition) (as := [.int 124, .int v2]) (st := []) (kc2 := 0) (ks2 := 0) dX7_readCondition_72 wd678 YX6_aimLeaps ⟨wd679, wd680⟩ (mk_get R.2.2.2.2.2.2.1) rfl rfl (s_X6_aimLeaps g hT I32 lb R.2.2.2.2.2 124 v2) rfl rfl (Nat.le_of_ble_eq_true rfl) (by decide) rfl rfl 75 rfl (fun rv h1 q55 => ?_)
            obtain ⟨m56, n57, rfl, rfl, I58, K59, rm56⟩ := q55
            have K59c := K59
            have w60 : (m56 86 3).toInt = (m30 86 3).toInt := congrArg Int32.toInt (K59 86 3 (wr_out (by omega)))
            have w61 : (m56 86 2).toInt = (m30 86 2).toInt := congrArg Int32.toInt (K59 86 2 (wr_out (by omega)))
            have K59 := K33.trans (K59.sub (wr_wr (by omega) (by omega)))
            show PV _ _ _ _ _ _ _ 75 [.ref 86, .int 1, .int v2, .int y3] [] _
            refine pv_iconst (M := mX7_readCondition) (v := 1) dX7_readCondition_75 76 rfl (by decide) ?_
            have z62 : (1 : Int32).toInt = 1 := by decide
            exact pv_iret (M := mX7_readCondition) dX7_readCondition_76 rfl rfl ⟨_, _, _, rfl, rfl, I58, K59, by decide, by decide, (by refine ⟨?_, ?_, ?_⟩ <;> omega)⟩
        · have c35 := iv_eq (X := v34.toInt) (Y := 0) c35 rfl (by decide)
          refine pv_iconst (M := mX7_readCondition) (v := 0) dX7_readCondition_25 26 rfl (by decide) ?_
          have z63 : (0 : Int32).toInt = 0 := by decide
          exact pv_iret (M := mX7_readCondition) dX7_readCondition_26 rfl rfl ⟨_, _, _, rfl, rfl, I32, K33, by decide, by decide, (by refine ⟨?_, ?_, ?_⟩ <;> omega)⟩
  have z64 : (0 : Int32).toInt = 0 := by decide
  exact lp9 (((160 - 0) : Int).toNat + 1) 0 m n (by first | omega | assumption | exact (iv_rng _).2 | exact (iv_rng _).1 | decide) (by first | omega | assumption | exact (iv_rng _).2 | exact (iv_rng _).1 | decide) (by first | omega | assumption | (show (m 86 3).toInt ≤ (m 86 3).toInt; omega) | decide) (by first | omega | assumption | (show (m 86 3).toInt ≤ (m 86 2).toInt; omega) | decide) (by first | omega | assumption | (show (m 86 2).toInt = (m 86 2).toInt; omega) | decide) I Kp (by omega)

set_option maxHeartbeats 2000000 in
set_option maxRecDepth 20000 in
theorem s_X7_readFactor_v0 (g : pv_G) {T : List mv_T} {m : Nat → Nat → Int32} {n : Nat → Nat → Int64} {r : Nat → Value} {la lb : Nat} (hT : TX T) (I : IV BB m) (R : RX T r la lb) (hp0 : (m 86 3).toInt ≤ (m 86 2).toInt) : PM g mX7_readFactor yX7_readFactor (sqI T BB (wl [(77, 96, none)]) r m 0 1 (fun m' v => (m 86 3).toInt ≤ (m' 86 3).toInt ∧ (m' 86 3).toInt ≤ (m' 86 2).toInt ∧ (m' 86 2).toInt = (m 86 2).toInt)) 23 0 0 [.ref 86, .int 0] (mk T m n r) := by
  have Kp : fr (wl [(77, 96, none)]) m m := fr.rf
  have R0 := R
  have zR := R.2.2.2.2.1.1
  have zR2 := R.2.2.2.2.2.1
  have z82 : 0 ≤ (m 86 3).toInt ∧ (m 86 3).toInt ≤ 160 := I 86 3
  have z83 : 0 ≤ (m 86 2).toInt ∧ (m 86 2).toInt ≤ 160 := I 86 2
  refine PM.of 1 (lo := [.ref 86, .int 0, pv_U]) rfl (by decide) rfl rfl (Nat.le_of_ble_eq_true rfl) ?_
  refine pv_aload_n (M := mX7_readFactor) 0 dX7_readFactor_0 1 rfl rfl rfl ?_
  refine pv_callv (M := mX7_readFactor) (as := []) (st := []) (kc2 := 0) (ks2 := 0) dX7_readFactor_1 wd527 YX7_peek ⟨wd529, wd2⟩ (mk_get (tl86 hT)) rfl rfl (s_X7_peek g hT I R) rfl rfl (Nat.le_of_ble_eq_true rfl) (by decide) rfl rfl 4 rfl (fun rv h1 q1 => ?_)
  obtain ⟨v2, rfl, rfl, pv2, qv2, rv2⟩ := q1
  replace rv2 : v2.toInt = -1 ∨ (m 86 3).toInt < (m 86 2).toInt := rv2
  show PV _ _ _ _ _ _ _ 4 [.ref 86, .int 0, pv_U] [.int v2] _
  refine pv_bipush (M := mX7_readFactor) (v := 91) dX7_readFactor_4 6 rfl (by decide) ?_
  refine pv_icmp_ne (M := mX7_readFactor) (tgt := 42) dX7_readFactor_6 9 rfl (by decide) (fun c3 => ?_) (fun c3 => ?_)
  · have c3 := iv_ne (X := v2.toInt) (Y := 91) c3 rfl (by decide)
    refine pv_aload_n (M := mX7_readFactor) 0 dX7_readFactor_42 43 rfl rfl rfl ?_
    refine pv_callv (M := mX7_readFactor) (as := []) (st := []) (kc2 := 0) (ks2 := 0) dX7_readFactor_43 wd559 YX7_digitAhead ⟨wd561, wd9⟩ (mk_get (tl86 hT)) rfl rfl (s_X7_digitAhead g hT I R) rfl rfl (Nat.le_of_ble_eq_true rfl) (by decide) rfl rfl 46 rfl (fun rv h1 q4 => ?_)
    obtain ⟨v5, rfl, rfl, pv5, qv5, rv5⟩ := q4
    replace rv5 : v5 = 0 ∨ ((m 86 3).toInt < (m 86 2).toInt ∧ 48 ≤ (m 87 (m 86 3).toInt.toNat).toInt ∧ (m 87 (m 86 3).toInt.toNat).toInt ≤ 57) := rv5
    show PV _ _ _ _ _ _ _ 46 [.ref 86, .int 0, pv_U] [.int v5] _
    refine pv_if_eq (M := mX7_readFactor) (tgt := 54) dX7_readFactor_46 49 rfl (by decide) (fun c6 => ?_) (fun c6 => ?_)
    · have c6 := iv_eq (X := v5.toInt) (Y := 0) c6 rfl (by decide)
      refine pv_aload_n (M := mX7_readFactor) 0 dX7_readFactor_54 55 rfl rfl rfl ?_
      refine pv_callv (M := mX7_readFactor) (as := []) (st := []) (kc2 := 0) (ks2 := 0) dX7_readFactor_55 wd527 YX7_peek ⟨wd529, wd2⟩ (mk_get (tl86 hT)) rfl rfl (s_X7_peek g hT I R) rfl rfl (Nat.le_of_ble_eq_true rfl) (by decide) rfl rfl 58 rfl (fun rv h1 q7 => ?_)
      obtain ⟨v8, rfl, rfl, pv8, qv8, rv8⟩ := q7
      replace rv8 : v8.toInt = -1 ∨ (m 86 3).toInt < (m 86 2).toInt := rv8
      show PV _ _ _ _ _ _ _ 58 [.ref 86, .int 0, pv_U] [.int v8] _
      refine pv_iconst (M := mX7_readFactor) (v := (-1)) dX7_readFactor_58 59 rfl (by decide) ?_
      refine pv_icmp_ne (M := mX7_readFactor) (tgt := 66) dX7_readFactor_59 62 rfl (by decide) (fun c9 => ?_) (fun c9 => ?_)
      · have c9 := iv_ne (X := v8.toInt) (Y := (-1)) c9 rfl (by decide)
        refine pv_ldcS (M := mX7_readFactor) dX7_readFactor_66 rfl 68 rfl ?_
        refine pv_aload_n (M := mX7_readFactor) 0 dX7_readFactor_68 69 rfl rfl rfl ?_
        refine pv_callv (M := mX7_readFactor) (as := []) (st := [.retAddr (g.2.2.1 6 + 1)]) (kc2 := 0) (ks2 := 0) dX7_readFactor_69 wd527 YX7_peek ⟨wd529, wd2⟩ (mk_get (tl86 hT)) rfl rfl (s_X7_peek g hT I R) rfl rfl (Nat.le_of_ble_eq_true rfl) (by decide) rfl rfl 72 rfl (fun rv h1 q10 => ?_)
        obtain ⟨v11, rfl, rfl, pv11, qv11, rv11⟩ := q10
        replace rv11 : v11.toInt = -1 ∨ (m 86 3).toInt < (m 86 2).toInt := rv11
        show PV _ _ _ _ _ _ _ 72 [.ref 86, .int 0, pv_U] [.int v11, .retAddr (g.2.2.1 6 + 1)] _
        refine iv_i2cU (M := mX7_readFactor) dX7_readFactor_72 73 rfl (fun v12 ev12 => ?_)
        refine pv_callvS (M := mX7_readFactor) (as := [.int v12]) (st := []) (kc2 := 0) (ks2 := 0) dX7_readFactor_73 wd572 YJ0_indexOf_0f7a4 ⟨wd573, wd574⟩ rfl (s_J0_indexOf_0f7a4 g hT I v12) rfl rfl (Nat.le_of_ble_eq_true rfl) (by decide) rfl rfl 76 rfl (fun rv h1 q13 => ?_)
        obtain ⟨v14, rfl, rfl, pv14, qv14, rv14⟩ := q13
        show PV _ _ _ _ _ _ _ 76 [.ref 86, .int 0, pv_U] [.int v14] _
        refine pv_istore_n (M := mX7_readFactor) 2 (lo2 := [.ref 86, .int 0, .int v14]) dX7_readFactor_76 77 rfl rfl (by decide) rfl rfl ?_
        refine pv_iload_n (M := mX7_readFactor) 2 dX7_readFactor_77 78 rfl rfl rfl ?_
        refine pv_if_ge (M := mX7_readFactor) (tgt := 87) dX7_readFactor_78 81 rfl (by decide) (fun c15 => ?_) (fun c15 => ?_)
        · have c15 := iv_le (X := 0) (Y := v14.toInt) c15 (by decide) rfl
          refine pv_aload_n (M := mX7_readFactor) 0 dX7_readFactor_87 88 rfl rfl rfl ?_
          refine mv_get (M := mX7_readFactor) (v := .ref lb) dX7_readFactor_88 FX7 1 wd281 (by decide) (tl86 hT) rfl R.2.2.2.1 91 rfl ?_
          refine pv_bipush (M := mX7_readFactor) (v := 36) dX7_readFactor_91 93 rfl (by decide) ?_
          refine pv_iload_n (M := mX7_readFactor) 2 dX7_readFactor_93 94 rfl rfl rfl ?_
          refine pv_callv (M := mX7_readFactor) (as := [.int 36, .int v14]) (st := []) (kc2 := 0) (ks2 := 0) dX7_readFactor_94 wd567 YX6_emit ⟨wd568, wd569⟩ (mk_get R.2.2.2.2.2.2.1) rfl rfl (s_X6_emit g hT I lb R.2.2.2.2.2 36 v14 (by omega) (by omega)) rfl rfl (Nat.le_of_ble_eq_true rfl) (by decide) rfl rfl 97 rfl (fun rv h1 q16 => ?_)
          obtain ⟨m17, n18, rfl, rfl, I19, K20, rm17⟩ := q16
          have K20c := K20
          have w21 : (m17 86 3).toInt = (m 86 3).toInt := congrArg Int32.toInt (K20 86 3 (wr_out (by omega)))
          have w22 : (m17 86 2).toInt = (m 86 2).toInt := congrArg Int32.toInt (K20 86 2 (wr_out (by omega)))
          have K20 := Kp.trans (K20.sub (wr_wr (by omega) (by omega)))
          show PV _ _ _ _ _ _ _ 97 [.ref 86, .int 0, .int v14] [] _
          refine pv_aload_n (M := mX7_readFactor) 0 dX7_readFactor_97 98 rfl rfl rfl ?_
          refine pv_dup (M := mX7_readFactor) dX7_readFactor_98 99 rfl rfl ?_
          refine iv_get (M := mX7_readFactor) (l1 := 0) (l2 := 160) dX7_readFactor_99 FX7 3 wd283 (by decide) (tl86 hT) rfl I19 rfl 102 rfl (fun v23 ev23 pv23 qv23 => ?_)
          have wv23 : v23.toInt = (m17 86 3).toInt := congrArg Int32.toInt ev23
          refine pv_iconst (M := mX7_readFactor) (v := 1) dX7_readFactor_102 103 rfl (by decide) ?_
          refine iv_iadd (M := mX7_readFactor) (X := v23.toInt) (Y := 1) dX7_readFactor_103 104 rfl rfl (by decide) (by omega) (by omega) (fun v24 ev24 => ?_)
          refine iv_put (M := mX7_readFactor) (l1 := 0) (l2 := 160) dX7_readFactor_104 FX7 3 wd283 (by decide) rfl (tl86 hT) rfl rfl rfl I19 rfl (by omega) (by omega) 107 rfl (fun m25 e28 I26 => ?_)
          have K27 := K20.set e28 (wl_r (by omega) (by omega))
          have w29 : (m25 86 3).toInt = v24.toInt := by rw [e28, up2_eq]
          have w30 : (m25 86 2).toInt = (m17 86 2).toInt := by rw [e28, up2_ne (by omega)]
          refine pv_iconst (M := mX7_readFactor) (v := 1) dX7_readFactor_107 108 rfl (by decide) ?_
          have z31 : (1 : Int32).toInt = 1 := by decide
          exact pv_iret (M := mX7_readFactor) dX7_readFactor_108 rfl rfl ⟨_, _, _, rfl, rfl, I26, K27, by decide, by decide, (by refine ⟨?_, ?_, ?_⟩ <;> omega)⟩
        · have c15 := iv_nle (X := 0) (Y := v14.toInt) c15 (by decide) rfl
          refine pv_aload_n (M := mX7_readFactor) 0 dX7_readFactor_81 82 rfl rfl rfl ?_
          refine pv_iconst (M := mX7_readFactor) (v := 1) dX7_readFactor_82 83 rfl (by decide) ?_
          have z32 : (1 : Int32).toInt = 1 := by decide
          refine pv_callv (M := mX7_readFactor) (as := [.int 1]) (st := []) (kc2 := 0) (ks2 := 0) dX7_readFactor_83 wd531 YX7_fail ⟨wd533, wd3⟩ (mk_get (tl86 hT)) rfl rfl (s_X7_fail g hT I R 1 (by first | omega | assumption | exact (iv_rng _).2 | exact (iv_rng _).1 | decide)) rfl rfl (Nat.le_of_ble_eq_true rfl) (by decide) rfl rfl 86 rfl (fun rv h1 q33 => ?_)
          obtain ⟨m34, n35, v38, rfl, rfl, I36, K37, pv38, qv38, rv38⟩ := q33
          replace rv38 : v38.toInt = 0 ∧ (m 86 3).toInt ≤ (m34 86 3).toInt ∧ (m34 86 3).toInt ≤ (m34 86 2).toInt ∧ (m34 86 2).toInt = (m 86 2).toInt := rv38
          have K37c := K37
          have K37 := Kp.trans (K37.sub (fun _ _ q => q))
          show PV _ _ _ _ _ _ _ 86 [.ref 86, .int 0, .int v14] [.int v38] _
          exact pv_iret (M := mX7_readFactor) dX7_readFactor_86 rfl (iv_nz (by omega) (by omega)) ⟨_, _, _, rfl, rfl, I36, K37, by omega, by omega, (by refine ⟨?_, ?_, ?_⟩ <;> omega)⟩
      · have c9 := iv_eq (X := v8.toInt) (Y := (-1)) c9 rfl (by decide)
        refine pv_iconst (M := mX7_readFactor) (v := (-1)) dX7_readFactor_62 63 rfl (by decide) ?_
        refine pv_goto (M := mX7_readFactor) (tgt := 76) dX7_readFactor_63 (by decide) ?_
        refine pv_istore_n (M := mX7_readFactor) 2 (lo2 := [.ref 86, .int 0, .int (-1)]) dX7_readFactor_76 77 rfl rfl (by decide) rfl rfl ?_
        refine pv_iload_n (M := mX7_readFactor) 2 dX7_readFactor_77 78 rfl rfl rfl ?_
        refine pv_if_ge (M := mX7_readFactor) (tgt := 87) dX7_readFactor_78 81 rfl (by decide) (fun q => absurd q (by decide)) (fun _ => ?_)
        refine pv_aload_n (M := mX7_readFactor) 0 dX7_readFactor_81 82 rfl rfl rfl ?_
        refine pv_iconst (M := mX7_readFactor) (v := 1) dX7_readFactor_82 83 rfl (by decide) ?_
        have z40 : (1 : Int32).toInt = 1 := by decide
        refine pv_callv (M := mX7_readFactor) (as := [.int 1]) (st := []) (kc2 := 0) (ks2 := 0) dX7_readFactor_83 wd531 YX7_fail ⟨wd533, wd3⟩ (mk_get (tl86 hT)) rfl rfl (s_X7_fail g hT I R 1 (by first | omega | assumption | exact (iv_rng _).2 | exact (iv_rng _).1 | decide)) rfl rfl (Nat.le_of_ble_eq_true rfl) (by decide) rfl rfl 86 rfl (fun rv h1 q41 => ?_)
        obtain ⟨m42, n43, v46, rfl, rfl, I44, K45, pv46, qv46, rv46⟩ := q41
        replace rv46 : v46.toInt = 0 ∧ (m 86 3).toInt ≤ (m42 86 3).toInt ∧ (m42 86 3).toInt ≤ (m42 86 2).toInt ∧ (m42 86 2).toInt = (m 86 2).toInt := rv46
        have K45c := K45
        have K45 := Kp.trans (K45.sub (fun _ _ q => q))
        show PV _ _ _ _ _ _ _ 86 [.ref 86, .int 0, .int (-1)] [.int v46] _
        exact pv_iret (M := mX7_readFactor) dX7_readFactor_86 rfl (iv_nz (by omega) (by omega)) ⟨_, _, _, rfl, rfl, I44, K45, by omega, by omega, (by refine ⟨?_, ?_, ?_⟩ <;> omega)⟩
    · have pc6 := rv5.resolve_left c6
      have c6 := iv_ne (X := v5.toInt) (Y := 0) c6 rfl (by decide)
      refine pv_aload_n (M := mX7_readFactor) 0 dX7_readFactor_49 50 rfl rfl rfl ?_
      refine pv_callv (M := mX7_readFactor) (as := []) (st := []) (kc2 := 0) (ks2 := 0) dX7_readFactor_50 wd563 YX7_readNumber ⟨wd565, wd10⟩ (mk_get (tl86 hT)) rfl rfl (s_X7_readNumber g hT I R (by first | omega | assumption | exact (iv_rng _).2 | exact (iv_rng _).1 | decide)) rfl rfl (Nat.le_of_ble_eq_true rfl) (by decide) rfl rfl 53 rfl (fun rv h1 q47 => ?_)
      obtain ⟨m48, n49, v52, rfl, rfl, I50, K51, pv52, qv52, rv52⟩ := q47
      replace rv52 : (m 86 3).toInt ≤ (m48 86 3).toInt ∧ (m48 86 3).toInt ≤ (m48 86 2).toInt ∧ (m48 86 2).toInt = (m 86 2).toInt := rv52
      have K51c := K51
      have K51 := Kp.trans (K51.sub (fun _ _ q => q))
      show PV _ _ _ _ _ _ _ 53 [.ref 86, .int 0, pv_U] [.int v52] _
      exact pv_iret (M := mX7_readFactor) dX7_readFactor_53 rfl (iv_nz (by omega) (by omega)) ⟨_, _, _, rfl, rfl, I50, K51, by omega, by omega, (by refine ⟨?_, ?_, ?_⟩ <;> omega)⟩
  · have c3 := iv_eq (X := v2.toInt) (Y := 91) c3 rfl (by decide)
    refine pv_aload_n (M := mX7_readFactor) 0 dX7_readFactor_9 10 rfl rfl rfl ?_
    refine pv_iload_n (M := mX7_readFactor) 1 dX7_readFactor_10 11 rfl rfl rfl ?_
    have z53 : (0 : Int32).toInt = 0 := by decide
    refine pv_callv (M := mX7_readFactor) (as := [.int 0]) (st := []) (kc2 := 0) (ks2 := 0) dX7_readFactor_11 wd551 YX7_open ⟨wd553, wd7⟩ (mk_get (tl86 hT)) rfl rfl (s_X7_open g hT I R 0 (by first | omega | assumption | exact (iv_rng _).2 | exact (iv_rng _).1 | decide)) rfl rfl (Nat.le_of_ble_eq_true rfl) (by decide) rfl rfl 14 rfl (fun rv h1 q54 => ?_)
    obtain ⟨m55, n56, v59, rfl, rfl, I57, K58, pv59, qv59, rv59⟩ := q54
    replace rv59 : (v59 = 0 ∨ (0 : Int) ≤ 5) ∧ (m 86 3).toInt ≤ (m55 86 3).toInt ∧ (m55 86 3).toInt ≤ (m55 86 2).toInt ∧ (m55 86 2).toInt = (m 86 2).toInt := by have q_ := rv59; (try rw [z53] at q_); exact q_
    have K58c := K58
    have K58 := Kp.trans (K58.sub (fun _ _ q => q))
    show PV _ _ _ _ _ _ _ 14 [.ref 86, .int 0, pv_U] [.int v59] _
    refine pv_if_eq (M := mX7_readFactor) (tgt := 40) dX7_readFactor_14 17 rfl (by decide) (fun c60 => ?_) (fun c60 => ?_)
    · have c60 := iv_eq (X := v59.toInt) (Y := 0) c60 rfl (by decide)
      refine pv_iconst (M := mX7_readFactor) (v := 0) dX7_readFactor_40 41 rfl (by decide) ?_
      have z61 : (0 : Int32).toInt = 0 := by decide
      exact pv_iret (M := mX7_readFactor) dX7_readFactor_41 rfl rfl ⟨_, _, _, rfl, rfl, I57, K58, by decide, by decide, (by refine ⟨?_, ?_, ?_⟩ <;> omega)⟩
    · have pc60 := rv59.1.resolve_left c60
      have c60 := iv_ne (X := v59.toInt) (Y := 0) c60 rfl (by decide)
      refine pv_aload_n (M := mX7_readFactor) 0 dX7_readFactor_17 18 rfl rfl rfl ?_
      refine pv_iload_n (M := mX7_readFactor) 1 dX7_readFactor_18 19 rfl rfl rfl ?_
      refine pv_iconst (M := mX7_readFactor) (v := 1) dX7_readFactor_19 20 rfl (by decide) ?_
      refine pv_iadd (M := mX7_readFactor) (v := 1) dX7_readFactor_20 21 rfl (by decide) ?_
      have z63 : (1 : Int32).toInt = 1 := by decide
      refine pv_callv (M := mX7_readFactor) (as := [.int 1]) (st := []) (kc2 := 0) (ks2 := 0) dX7_readFactor_21 wd539 YX7_readSum ⟨wd541, wd4⟩ (mk_get (tl86 hT)) rfl rfl (s_X7_readSum_v1 g hT I57 R (by first | omega | assumption | exact (iv_rng _).2 | exact (iv_rng _).1 | decide)) rfl rfl (Nat.le_of_ble_eq_true rfl) (by decide) rfl rfl 24 rfl (fun rv h1 q64 => ?_)
      obtain ⟨m65, n66, v69, rfl, rfl, I67, K68, pv69, qv69, rv69⟩ := q64
      replace rv69 : (m55 86 3).toInt ≤ (m65 86 3).toInt ∧ (m65 86 3).toInt ≤ (m65 86 2).toInt ∧ (m65 86 2).toInt = (m55 86 2).toInt := rv69
      have K68c := K68
      have K68 := K58.trans (K68.sub (fun _ _ q => q))
      show PV _ _ _ _ _ _ _ 24 [.ref 86, .int 0, pv_U] [.int v69] _
      refine pv_if_eq (M := mX7_readFactor) (tgt := 40) dX7_readFactor_24 27 rfl (by decide) (fun c70 => ?_) (fun c70 => ?_)
      · have c70 := iv_eq (X := v69.toInt) (Y := 0) c70 rfl (by decide)
        refine pv_iconst (M := mX7_readFactor) (v := 0) dX7_readFactor_40 41 rfl (by decide) ?_
        have z71 : (0 : Int32).toInt = 0 := by decide
        exact pv_iret (M := mX7_readFactor) dX7_readFactor_41 rfl rfl ⟨_, _, _, rfl, rfl, I67, K68, by decide, by decide, (by refine ⟨?_, ?_, ?_⟩ <;> omega)⟩
      · have c70 := iv_ne (X := v69.toInt) (Y := 0) c70 rfl (by decide)
        refine pv_aload_n (M := mX7_readFactor) 0 dX7_readFactor_27 28 rfl rfl rfl ?_
        refine pv_bipush (M := mX7_readFactor) (v := 93) dX7_readFactor_28 30 rfl (by decide) ?_
        have z72 : (93 : Int32).toInt = 93 := by decide
        refine pv_callv (M := mX7_readFactor) (as := [.int 93]) (st := []) (kc2 := 0) (ks2 := 0) dX7_readFactor_30 wd555 YX7_pass ⟨wd557, wd8⟩ (mk_get (tl86 hT)) rfl rfl (s_X7_pass g hT I67 R 93 (by decide) (by decide) (by first | omega | assumption | exact (iv_rng _).2 | exact (iv_rng _).1 | decide)) rfl rfl (Nat.le_of_ble_eq_true rfl) (by decide) rfl rfl 33 rfl (fun rv h1 q73 => ?_)
        obtain ⟨m74, n75, v78, rfl, rfl, I76, K77, pv78, qv78, rv78⟩ := q73
        replace rv78 : (m65 86 3).toInt ≤ (m74 86 3).toInt ∧ (m74 86 3).toInt ≤ (m74 86 2).toInt ∧ (m74 86 2).toInt = (m65 86 2).toInt := rv78
        have K77c := K77
        have K77 := K68.trans (K77.sub (fun _ _ q => q))
        show PV _ _ _ _ _ _ _ 33 [.ref 86, .int 0, pv_U] [.int v78] _
        refine pv_if_eq (M := mX7_readFactor) (tgt := 40) dX7_readFactor_33 36 rfl (by decide) (fun c79 => ?_) (fun c79 => ?_)
        · have c79 := iv_eq (X := v78.toInt) (Y := 0) c79 rfl (by decide)
          refine pv_iconst (M := mX7_readFactor) (v := 0) dX7_readFactor_40 41 rfl (by decide) ?_
          have z80 : (0 : Int32).toInt = 0 := by decide
          exact pv_iret (M := mX7_readFactor) dX7_readFactor_41 rfl rfl ⟨_, _, _, rfl, rfl, I76, K77, by decide, by decide, (by refine ⟨?_, ?_, ?_⟩ <;> omega)⟩
        · have c79 := iv_ne (X := v78.toInt) (Y := 0) c79 rfl (by decide)
          refine pv_iconst (M := mX7_readFactor) (v := 1) dX7_readFactor_36 37 rfl (by decide) ?_
          refine pv_goto (M := mX7_readFactor) (tgt := 41) dX7_readFactor_37 (by decide) ?_
          have z81 : (1 : Int32).toInt = 1 := by decide
          exact pv_iret (M := mX7_readFactor) dX7_readFactor_41 rfl rfl ⟨_, _, _, rfl, rfl, I76, K77, by decide, by decide, (by refine ⟨?_, ?_, ?_⟩ <;> omega)⟩

set_option maxHeartbeats 2000000 in
set_option maxRecDepth 20000 in
theorem s_X7_readTerm_v0 (g : pv_G) {T : List mv_T} {m : Nat → Nat → Int32} {n : Nat → Nat → Int64} {r : Nat → Value} {la lb : Nat} (hT : TX T) (I : IV BB m) (R : RX T r la lb) (hp0 : (m 86 3).toInt ≤ (m 86 2).toInt) : PM g mX7_readTerm yX7_readTerm (sqI T BB (wl [(77, 96, none)]) r m 0 1 (fun m' v => (m 86 3).toInt ≤ (m' 86 3).toInt ∧ (m' 86 3).toInt ≤ (m' 86 2).toInt ∧ (m' 86 2).toInt = (m 86 2).toInt)) 24 0 0 [.ref 86, .int 0] (mk T m n r) := by
  have Kp : fr (wl [(77, 96, none)]) m m := fr.rf
  have R0 := R
  have zR := R.2.2.2.2.1.1
  have zR2 := R.2.2.2.2.2.1
  have z60 : 0 ≤ (m 86 3).toInt ∧ (m 86 3).toInt ≤ 160 := I 86 3
  have z61 : 0 ≤ (m 86 2).toInt ∧ (m 86 2).toInt ≤ 160 := I 86 2
  refine PM.of 2 (lo := [.ref 86, .int 0, pv_U, pv_U]) rfl (by decide) rfl rfl (Nat.le_of_ble_eq_true rfl) ?_
  refine pv_aload_n (M := mX7_readTerm) 0 dX7_readTerm_0 1 rfl rfl rfl ?_
  refine pv_iload_n (M := mX7_readTerm) 1 dX7_readTerm_1 2 rfl rfl rfl ?_
  have z1 : (0 : Int32).toInt = 0 := by decide
  refine pv_callv (M := mX7_readTerm) (as := [.int 0]) (st := []) (kc2 := 0) (ks2 := 0) dX7_readTerm_2 wd547 YX7_readFactor ⟨wd549, wd6⟩ (mk_get (tl86 hT)) rfl rfl (s_X7_readFactor_v0 g hT I R (by first | omega | assumption | exact (iv_rng _).2 | exact (iv_rng _).1 | decide)) rfl rfl (Nat.le_of_ble_eq_true rfl) (by decide) rfl rfl 5 rfl (fun rv h1 q2 => ?_)
  obtain ⟨m3, n4, v7, rfl, rfl, I5, K6, pv7, qv7, rv7⟩ := q2
  replace rv7 : (m 86 3).toInt ≤ (m3 86 3).toInt ∧ (m3 86 3).toInt ≤ (m3 86 2).toInt ∧ (m3 86 2).toInt = (m 86 2).toInt := rv7
  have K6c := K6
  have K6 := Kp.trans (K6.sub (fun _ _ q => q))
  show PV _ _ _ _ _ _ _ 5 [.ref 86, .int 0, pv_U, pv_U] [.int v7] _
  refine pv_if_ne (M := mX7_readTerm) (tgt := 10) dX7_readTerm_5 8 rfl (by decide) (fun c8 => ?_) (fun c8 => ?_)
  · have c8 := iv_ne (X := v7.toInt) (Y := 0) c8 rfl (by decide)
    refine pv_iconst (M := mX7_readTerm) (v := 0) dX7_readTerm_10 11 rfl (by decide) ?_
    refine pv_istore_n (M := mX7_readTerm) 2 (lo2 := [.ref 86, .int 0, .int 0, pv_U]) dX7_readTerm_11 12 rfl rfl (by decide) rfl rfl ?_
    have lp15 : ∀ (fuel14 : Nat) (y9 : Int32) (m10 : Nat → Nat → Int32) (n11 : Nat → Nat → Int64), (0 ≤ y9.toInt) → (y9.toInt ≤ 160) → ((m 86 3).toInt ≤ (m10 86 3).toInt) → ((m10 86 3).toInt ≤ (m10 86 2).toInt) → ((m10 86 2).toInt = (m 86 2).toInt) → IV BB m10 → fr (wl [(77, 96, none)]) m m10 → ((160 - y9.toInt) : Int).toNat < fuel14 → PV none g mX7_readTerm (sqI T BB (wl [(77, 96, none)]) r m 0 1 (fun m' v => (m 86 3).toInt ≤ (m' 86 3).toInt ∧ (m' 86 3).toInt ≤ (m' 86 2).toInt ∧ (m' 86 2).toInt = (m 86 2).toInt)) 24 0 0 12 [.ref 86, .int 0, .int y9, pv_U] [] (mk T m10 n11 r) := by
      intro fuel14
      induction fuel14 with
      | zero => intro y9 m10 n11 b17 b18 b19 b20 b21 I12 K13 z22; omega
      | succ fuel14 ih16 =>
        intro y9 m10 n11 b17 b18 b19 b20 b21 I12 K13 z22
        have z23 : 0 ≤ (m10 86 3).toInt ∧ (m10 86 3).toInt ≤ 160 := I12 86 3
        have z24 : 0 ≤ (m10 86 2).toInt ∧ (m10 86 2).toInt ≤ 160 := I12 86 2
        refine pv_iload_n (M := mX7_readTerm) 2 dX7_readTerm_12 13 rfl rfl rfl ?_
        refine pv_sipush (M := mX7_readTerm) (v := 160) dX7_readTerm_13 16 rfl (by decide) ?_
        refine pv_icmp_ge (M := mX7_readTerm) (tgt := 66) dX7_readTerm_16 19 rfl (by decide) (fun c25 => ?_) (fun c25 => ?_)
        · have c25 := iv_le (X := 160) (Y := y9.toInt) c25 (by decide) rfl
          refine pv_iconst (M := mX7_readTerm) (v := 1) dX7_readTerm_66 67 rfl (by decide) ?_
          have z26 : (1 : Int32).toInt = 1 := by decide
          exact pv_iret (M := mX7_readTerm) dX7_readTerm_67 rfl rfl ⟨_, _, _, rfl, rfl, I12, K13, by decide, by decide, (by refine ⟨?_, ?_, ?_⟩ <;> omega)⟩
        · have c25 := iv_nle (X := 160) (Y := y9.toInt) c25 (by decide) rfl
          refine pv_aload_n (M := mX7_readTerm) 0 dX7_readTerm_19 20 rfl rfl rfl ?_
          refine pv_callv (M := mX7_readTerm) (as := []) (st := []) (kc2 := 0) (ks2 := 0) dX7_readTerm_20 wd654 YX7_timesAhead ⟨wd656, wd11⟩ (mk_get (tl86 hT)) rfl rfl (s_X7_timesAhead g hT I12 R) rfl rfl (Nat.le_of_ble_eq_true rfl) (by decide) rfl rfl 23 rfl (fun rv h1 q27 => ?_)
          obtain ⟨v28, rfl, rfl, pv28, qv28, rv28⟩ := q27
          replace rv28 : v28 = 0 ∨ (m10 86 3).toInt < (m10 86 2).toInt := rv28
          show PV _ _ _ _ _ _ _ 23 [.ref 86, .int 0, .int y9, pv_U] [.int v28] _
          refine pv_if_eq (M := mX7_readTerm) (tgt := 66) dX7_readTerm_23 26 rfl (by decide) (fun c29 => ?_) (fun c29 => ?_)
          · have c29 := iv_eq (X := v28.toInt) (Y := 0) c29 rfl (by decide)
            refine pv_iconst (M := mX7_readTerm) (v := 1) dX7_readTerm_66 67 rfl (by decide) ?_
            have z30 : (1 : Int32).toInt = 1 := by decide
            exact pv_iret (M := mX7_readTerm) dX7_readTerm_67 rfl rfl ⟨_, _, _, rfl, rfl, I12, K13, by decide, by decide, (by refine ⟨?_, ?_, ?_⟩ <;> omega)⟩
          · have pc29 := rv28.resolve_left c29
            have c29 := iv_ne (X := v28.toInt) (Y := 0) c29 rfl (by decide)
            refine pv_aload_n (M := mX7_readTerm) 0 dX7_readTerm_26 27 rfl rfl rfl ?_
            refine pv_callv (M := mX7_readTerm) (as := []) (st := []) (kc2 := 0) (ks2 := 0) dX7_readTerm_27 wd527 YX7_peek ⟨wd529, wd2⟩ (mk_get (tl86 hT)) rfl rfl (s_X7_peek g hT I12 R) rfl rfl (Nat.le_of_ble_eq_true rfl) (by decide) rfl rfl 30 rfl (fun rv h1 q31 => ?_)
            obtain ⟨v32, rfl, rfl, pv32, qv32, rv32⟩ := q31
            replace rv32 : v32.toInt = -1 ∨ (m10 86 3).toInt < (m10 86 2).toInt := rv32
            show PV _ _ _ _ _ _ _ 30 [.ref 86, .int 0, .int y9, pv_U] [.int v32] _
            refine pv_istore_n (M := mX7_readTerm) 3 (lo2 := [.ref 86, .int 0, .int y9, .int v32]) dX7_readTerm_30 31 rfl rfl (by decide) rfl rfl ?_
            refine pv_aload_n (M := mX7_readTerm) 0 dX7_readTerm_31 32 rfl rfl rfl ?_
            refine pv_dup (M := mX7_readTerm) dX7_readTerm_32 33 rfl rfl ?_
            refine iv_get (M := mX7_readTerm) (l1 := 0) (l2 := 160) dX7_readTerm_33 FX7 3 wd283 (by decide) (tl86 hT) rfl I12 rfl 36 rfl (fun v33 ev33 pv33 qv33 => ?_)
            have wv33 : v33.toInt = (m10 86 3).toInt := congrArg Int32.toInt ev33
            refine pv_iconst (M := mX7_readTerm) (v := 1) dX7_readTerm_36 37 rfl (by decide) ?_
            refine iv_iadd (M := mX7_readTerm) (X := v33.toInt) (Y := 1) dX7_readTerm_37 38 rfl rfl (by decide) (by omega) (by omega) (fun v34 ev34 => ?_)
            refine iv_put (M := mX7_readTerm) (l1 := 0) (l2 := 160) dX7_readTerm_38 FX7 3 wd283 (by decide) rfl (tl86 hT) rfl rfl rfl I12 rfl (by omega) (by omega) 41 rfl (fun m35 e38 I36 => ?_)
            have K37 := K13.set e38 (wl_r (by omega) (by omega))
            have w39 : (m35 86 3).toInt = v34.toInt := by rw [e38, up2_eq]
            have w40 : (m35 86 2).toInt = (m10 86 2).toInt := by rw [e38, up2_ne (by omega)]
            refine pv_aload_n (M := mX7_readTerm) 0 dX7_readTerm_41 42 rfl rfl rfl ?_
            refine pv_iload_n (M := mX7_readTerm) 1 dX7_readTerm_42 43 rfl rfl rfl ?_
            have z41 : (0 : Int32).toInt = 0 := by decide
            refine pv_callv (M := mX7_readTerm) (as := [.int 0]) (st := []) (kc2 := 0) (ks2 := 0) dX7_readTerm_43 wd547 YX7_readFactor ⟨wd549, wd6⟩ (mk_get (tl86 hT)) rfl rfl (s_X7_readFactor_v0 g hT I36 R (by first | omega | assumption | exact (iv_rng _).2 | exact (iv_rng _).1 | decide)) rfl rfl (Nat.le_of_ble_eq_true rfl) (by decide) rfl rfl 46 rfl (fun rv h1 q42 => ?_)
            obtain ⟨m43, n44, v47, rfl, rfl, I45, K46, pv47, qv47, rv47⟩ := q42
            replace rv47 : (m35 86 3).toInt ≤ (m43 86 3).toInt ∧ (m43 86 3).toInt ≤ (m43 86 2).toInt ∧ (m43 86 2).toInt = (m35 86 2).toInt := rv47
            have K46c := K46
            have K46 := K37.trans (K46.sub (fun _ _ q => q))
            show PV _ _ _ _ _ _ _ 46 [.ref 86, .int 0, .int y9, .int v32] [.int v47] _
            refine pv_if_ne (M := mX7_readTerm) (tgt := 51) dX7_readTerm_46 49 rfl (by decide) (fun c48 => ?_) (fun c48 => ?_)
            · have c48 := iv_ne (X := v47.toInt) (Y := 0) c48 rfl (by decide)
              refine pv_aload_n (M := mX7_readTerm) 0 dX7_readTerm_51 52 rfl rfl rfl ?_
              refine mv_get (M := mX7_readTerm) (v := .ref lb) dX7_readTerm_52 FX7 1 wd281 (by decide) (tl86 hT) rfl R.2.2.2.1 55 rfl ?_
              refine pv_iload_n (M := mX7_readTerm) 3 dX7_readTerm_55 56 rfl rfl rfl ?_
              refine pv_iconst (M := mX7_readTerm) (v := 0) dX7_readTerm_56 57 rfl (by decide) ?_
              refine pv_callv (M := mX7_readTerm) (as := [.int v32, .int 0]) (st := []) (kc2 := 0) (ks2 := 0) dX7_readTerm_57 wd567 YX6_emit ⟨wd568, wd569⟩ (mk_get R.2.2.2.2.2.2.1) rfl rfl (s_X6_emit g hT I45 lb R.2.2.2.2.2 v32 0 (by decide) (by decide)) rfl rfl (Nat.le_of_ble_eq_true rfl) (by decide) rfl rfl 60 rfl (fun rv h1 q49 => ?_)
              obtain ⟨m50, n51, rfl, rfl, I52, K53, rm50⟩ := q49
              have K53c := K53
              have w54 : (m50 86 3).toInt = (m43 86 3).toInt := congrArg Int32.toInt (K53 86 3 (wr_out (by omega)))
              have w55 : (m50 86 2).toInt = (m43 86 2).toInt := congrArg Int32.toInt (K53 86 2 (wr_out (by omega)))
              have K53 := K46.trans (K53.sub (wr_wr (by omega) (by omega)))
              show PV _ _ _ _ _ _ _ 60 [.ref 86, .int 0, .int y9, .int v32] [] _
              refine iv_inc (M := mX7_readTerm) (C := 1) dX7_readTerm_60 63 rfl rfl (by decide) rfl rfl (by decide) (by omega) (by omega) (fun v56 ev56 => ?_)
              show PV _ _ _ _ _ _ _ 63 [.ref 86, .int 0, .int v56, .int v32] [] _
              refine pv_goto (M := mX7_readTerm) (tgt := 12) dX7_readTerm_63 (by decide) ?_
              refine pv_fg (lo2 := [.ref 86, .int 0, .int v56, pv_U]) ⟨Or.inr rfl, ⟨Or.inr rfl, ⟨Or.inr rfl, ⟨Or.inl rfl, trivial⟩⟩⟩⟩ ?_
              exact ih16 v56 m50 n51 (by first | omega | assumption | exact (iv_rng _).2 | exact (iv_rng _).1 | decide) (by first | omega | assumption | exact (iv_rng _).2 | exact (iv_rng _).1 | decide) (by first | omega | assumption | (show (m 86 3).toInt ≤ (m50 86 3).toInt; omega) | decide) (by first | omega | assumption | (show (m50 86 3).toInt ≤ (m50 86 2).toInt; omega) | decide) (by first | omega | assumption | (show (m50 86 2).toInt = (m 86 2).toInt; omega) | decide) I52 K53 (by omega)
            · have c48 := iv_eq (X := v47.toInt) (Y := 0) c48 rfl (by decide)
              refine pv_iconst (M := mX7_readTerm) (v := 0) dX7_readTerm_49 50 rfl (by decide) ?_
              have z57 : (0 : Int32).toInt = 0 := by decide
              exact pv_iret (M := mX7_readTerm) dX7_readTerm_50 rfl rfl ⟨_, _, _, rfl, rfl, I45, K46, by decide, by decide, (by refine ⟨?_, ?_, ?_⟩ <;> omega)⟩
    have z58 : (0 : Int32).toInt = 0 := by decide
    exact lp15 (((160 - 0) : Int).toNat + 1) 0 m3 n4 (by first | omega | assumption | exact (iv_rng _).2 | exact (iv_rng _).1 | decide) (by first | omega | assumption | exact (iv_rng _).2 | exact (iv_rng _).1 | decide) (by first | omega | assumption | (show (m 86 3).toInt ≤ (m3 86 3).toInt; omega) | decide) (by first | omega | assumption | (show (m3 86 3).toInt ≤ (m3 86 2).toInt; omega) | decide) (by first | omega | assumption | (show (m3 86 2).toInt = (m 86 2).toInt; omega) | decide) I5 K6 (by omega)
  · have c8 := iv_eq (X := v7.toInt) (Y := 0) c8 rfl (by decide)
    refine pv_iconst (M := mX7_readTerm) (v := 0) dX7_readTerm_8 9 rfl (by decide) ?_
    have z59 : (0 : Int32).toInt = 0 := by decide
    exact pv_iret (M := mX7_readTerm) dX7_readTerm_9 rfl rfl ⟨_, _, _, rfl, rfl, I5, K6, by decide, by decide, (by refine ⟨?_, ?_, ?_⟩ <;> omega)⟩

set_option maxHeartbeats 2000000 in
set_option maxRecDepth 20000 in
theorem s_X7_readSum_v0 (g : pv_G) {T : List mv_T} {m : Nat → Nat → Int32} {n : Nat → Nat → Int64} {r : Nat → Value} {la lb : Nat} (hT : TX T) (I : IV BB m) (R : RX T r la lb) (hp0 : (m 86 3).toInt ≤ (m 86 2).toInt) : PM g mX7_readSum yX7_readSum (sqI T BB (wl [(77, 96, none)]) r m 0 1 (fun m' v => (m 86 3).toInt ≤ (m' 86 3).toInt ∧ (m' 86 3).toInt ≤ (m' 86 2).toInt ∧ (m' 86 2).toInt = (m 86 2).toInt)) 25 0 0 [.ref 86, .int 0] (mk T m n r) := by
  have Kp : fr (wl [(77, 96, none)]) m m := fr.rf
  have R0 := R
  have zR := R.2.2.2.2.1.1
  have zR2 := R.2.2.2.2.2.1
  have z90 : 0 ≤ (m 86 3).toInt ∧ (m 86 3).toInt ≤ 160 := I 86 3
  have z91 : 0 ≤ (m 86 2).toInt ∧ (m 86 2).toInt ≤ 160 := I 86 2
  refine PM.of 2 (lo := [.ref 86, .int 0, pv_U, pv_U]) rfl (by decide) rfl rfl (Nat.le_of_ble_eq_true rfl) ?_
  refine pv_aload_n (M := mX7_readSum) 0 dX7_readSum_0 1 rfl rfl rfl ?_
  refine pv_iload_n (M := mX7_readSum) 1 dX7_readSum_1 2 rfl rfl rfl ?_
  have z1 : (0 : Int32).toInt = 0 := by decide
  refine pv_callv (M := mX7_readSum) (as := [.int 0]) (st := []) (kc2 := 0) (ks2 := 0) dX7_readSum_2 wd543 YX7_readTerm ⟨wd545, wd5⟩ (mk_get (tl86 hT)) rfl rfl (s_X7_readTerm_v0 g hT I R (by first | omega | assumption | exact (iv_rng _).2 | exact (iv_rng _).1 | decide)) rfl rfl (Nat.le_of_ble_eq_true rfl) (by decide) rfl rfl 5 rfl (fun rv h1 q2 => ?_)
  obtain ⟨m3, n4, v7, rfl, rfl, I5, K6, pv7, qv7, rv7⟩ := q2
  replace rv7 : (m 86 3).toInt ≤ (m3 86 3).toInt ∧ (m3 86 3).toInt ≤ (m3 86 2).toInt ∧ (m3 86 2).toInt = (m 86 2).toInt := rv7
  have K6c := K6
  have K6 := Kp.trans (K6.sub (fun _ _ q => q))
  show PV _ _ _ _ _ _ _ 5 [.ref 86, .int 0, pv_U, pv_U] [.int v7] _
  refine pv_if_ne (M := mX7_readSum) (tgt := 10) dX7_readSum_5 8 rfl (by decide) (fun c8 => ?_) (fun c8 => ?_)
  · have c8 := iv_ne (X := v7.toInt) (Y := 0) c8 rfl (by decide)
    refine pv_iconst (M := mX7_readSum) (v := 0) dX7_readSum_10 11 rfl (by decide) ?_
    refine pv_istore_n (M := mX7_readSum) 2 (lo2 := [.ref 86, .int 0, .int 0, pv_U]) dX7_readSum_11 12 rfl rfl (by decide) rfl rfl ?_
    have lp15 : ∀ (fuel14 : Nat) (y9 : Int32) (m10 : Nat → Nat → Int32) (n11 : Nat → Nat → Int64), (0 ≤ y9.toInt) → (y9.toInt ≤ 160) → ((m 86 3).toInt ≤ (m10 86 3).toInt) → ((m10 86 3).toInt ≤ (m10 86 2).toInt) → ((m10 86 2).toInt = (m 86 2).toInt) → IV BB m10 → fr (wl [(77, 96, none)]) m m10 → ((160 - y9.toInt) : Int).toNat < fuel14 → PV none g mX7_readSum (sqI T BB (wl [(77, 96, none)]) r m 0 1 (fun m' v => (m 86 3).toInt ≤ (m' 86 3).toInt ∧ (m' 86 3).toInt ≤ (m' 86 2).toInt ∧ (m' 86 2).toInt = (m 86 2).toInt)) 25 0 0 12 [.ref 86, .int 0, .int y9, pv_U] [] (mk T m10 n11 r) := by
      intro fuel14
      induction fuel14 with
      | zero => intro y9 m10 n11 b17 b18 b19 b20 b21 I12 K13 z22; omega
      | succ fuel14 ih16 =>
        intro y9 m10 n11 b17 b18 b19 b20 b21 I12 K13 z22
        have z23 : 0 ≤ (m10 86 3).toInt ∧ (m10 86 3).toInt ≤ 160 := I12 86 3
        have z24 : 0 ≤ (m10 86 2).toInt ∧ (m10 86 2).toInt ≤ 160 := I12 86 2
        refine pv_iload_n (M := mX7_readSum) 2 dX7_readSum_12 13 rfl rfl rfl ?_
        refine pv_sipush (M := mX7_readSum) (v := 160) dX7_readSum_13 16 rfl (by decide) ?_
        refine pv_icmp_ge (M := mX7_readSum) (tgt := 77) dX7_readSum_16 19 rfl (by decide) (fun c25 => ?_) (fun c25 => ?_)
        · have c25 := iv_le (X := 160) (Y := y9.toInt) c25 (by decide) rfl
          refine pv_iconst (M := mX7_readSum) (v := 1) dX7_readSum_77 78 rfl (by decide) ?_
          have z26 : (1 : Int32).toInt = 1 := by decide
          exact pv_iret (M := mX7_readSum) dX7_readSum_78 rfl rfl ⟨_, _, _, rfl, rfl, I12, K13, by decide, by decide, (by refine ⟨?_, ?_, ?_⟩ <;> omega)⟩
        · have c25 := iv_nle (X := 160) (Y := y9.toInt) c25 (by decide) rfl
          refine pv_aload_n (M := mX7_readSum) 0 dX7_readSum_19 20 rfl rfl rfl ?_
          refine pv_callv (M := mX7_readSum) (as := []) (st := []) (kc2 := 0) (ks2 := 0) dX7_readSum_20 wd527 YX7_peek ⟨wd529, wd2⟩ (mk_get (tl86 hT)) rfl rfl (s_X7_peek g hT I12 R) rfl rfl (Nat.le_of_ble_eq_true rfl) (by decide) rfl rfl 23 rfl (fun rv h1 q27 => ?_)
          obtain ⟨v28, rfl, rfl, pv28, qv28, rv28⟩ := q27
          replace rv28 : v28.toInt = -1 ∨ (m10 86 3).toInt < (m10 86 2).toInt := rv28
          show PV _ _ _ _ _ _ _ 23 [.ref 86, .int 0, .int y9, pv_U] [.int v28] _
          refine pv_bipush (M := mX7_readSum) (v := 43) dX7_readSum_23 25 rfl (by decide) ?_
          refine pv_icmp_eq (M := mX7_readSum) (tgt := 37) dX7_readSum_25 28 rfl (by decide) (fun c29 => ?_) (fun c29 => ?_)
          · have c29 := iv_eq (X := v28.toInt) (Y := 43) c29 rfl (by decide)
            refine pv_aload_n (M := mX7_readSum) 0 dX7_readSum_37 38 rfl rfl rfl ?_
            refine pv_callv (M := mX7_readSum) (as := []) (st := []) (kc2 := 0) (ks2 := 0) dX7_readSum_38 wd527 YX7_peek ⟨wd529, wd2⟩ (mk_get (tl86 hT)) rfl rfl (s_X7_peek g hT I12 R) rfl rfl (Nat.le_of_ble_eq_true rfl) (by decide) rfl rfl 41 rfl (fun rv h1 q30 => ?_)
            obtain ⟨v31, rfl, rfl, pv31, qv31, rv31⟩ := q30
            replace rv31 : v31.toInt = -1 ∨ (m10 86 3).toInt < (m10 86 2).toInt := rv31
            show PV _ _ _ _ _ _ _ 41 [.ref 86, .int 0, .int y9, pv_U] [.int v31] _
            refine pv_istore_n (M := mX7_readSum) 3 (lo2 := [.ref 86, .int 0, .int y9, .int v31]) dX7_readSum_41 42 rfl rfl (by decide) rfl rfl ?_
            refine pv_aload_n (M := mX7_readSum) 0 dX7_readSum_42 43 rfl rfl rfl ?_
            refine pv_dup (M := mX7_readSum) dX7_readSum_43 44 rfl rfl ?_
            refine iv_get (M := mX7_readSum) (l1 := 0) (l2 := 160) dX7_readSum_44 FX7 3 wd283 (by decide) (tl86 hT) rfl I12 rfl 47 rfl (fun v32 ev32 pv32 qv32 => ?_)
            have wv32 : v32.toInt = (m10 86 3).toInt := congrArg Int32.toInt ev32
            refine pv_iconst (M := mX7_readSum) (v := 1) dX7_readSum_47 48 rfl (by decide) ?_
            refine iv_iadd (M := mX7_readSum) (X := v32.toInt) (Y := 1) dX7_readSum_48 49 rfl rfl (by decide) (by omega) (by omega) (fun v33 ev33 => ?_)
            refine iv_put (M := mX7_readSum) (l1 := 0) (l2 := 160) dX7_readSum_49 FX7 3 wd283 (by decide) rfl (tl86 hT) rfl rfl rfl I12 rfl (by omega) (by omega) 52 rfl (fun m34 e37 I35 => ?_)
            have K36 := K13.set e37 (wl_r (by omega) (by omega))
            have w38 : (m34 86 3).toInt = v33.toInt := by rw [e37, up2_eq]
            have w39 : (m34 86 2).toInt = (m10 86 2).toInt := by rw [e37, up2_ne (by omega)]
            refine pv_aload_n (M := mX7_readSum) 0 dX7_readSum_52 53 rfl rfl rfl ?_
            refine pv_iload_n (M := mX7_readSum) 1 dX7_readSum_53 54 rfl rfl rfl ?_
            have z40 : (0 : Int32).toInt = 0 := by decide
            refine pv_callv (M := mX7_readSum) (as := [.int 0]) (st := []) (kc2 := 0) (ks2 := 0) dX7_readSum_54 wd543 YX7_readTerm ⟨wd545, wd5⟩ (mk_get (tl86 hT)) rfl rfl (s_X7_readTerm_v0 g hT I35 R (by first | omega | assumption | exact (iv_rng _).2 | exact (iv_rng _).1 | decide)) rfl rfl (Nat.le_of_ble_eq_true rfl) (by decide) rfl rfl 57 rfl (fun rv h1 q41 => ?_)
            obtain ⟨m42, n43, v46, rfl, rfl, I44, K45, pv46, qv46, rv46⟩ := q41
            replace rv46 : (m34 86 3).toInt ≤ (m42 86 3).toInt ∧ (m42 86 3).toInt ≤ (m42 86 2).toInt ∧ (m42 86 2).toInt = (m34 86 2).toInt := rv46
            have K45c := K45
            have K45 := K36.trans (K45.sub (fun _ _ q => q))
            show PV _ _ _ _ _ _ _ 57 [.ref 86, .int 0, .int y9, .int v31] [.int v46] _
            refine pv_if_ne (M := mX7_readSum) (tgt := 62) dX7_readSum_57 60 rfl (by decide) (fun c47 => ?_) (fun c47 => ?_)
            · have c47 := iv_ne (X := v46.toInt) (Y := 0) c47 rfl (by decide)
              refine pv_aload_n (M := mX7_readSum) 0 dX7_readSum_62 63 rfl rfl rfl ?_
              refine mv_get (M := mX7_readSum) (v := .ref lb) dX7_readSum_63 FX7 1 wd281 (by decide) (tl86 hT) rfl R.2.2.2.1 66 rfl ?_
              refine pv_iload_n (M := mX7_readSum) 3 dX7_readSum_66 67 rfl rfl rfl ?_
              refine pv_iconst (M := mX7_readSum) (v := 0) dX7_readSum_67 68 rfl (by decide) ?_
              refine pv_callv (M := mX7_readSum) (as := [.int v31, .int 0]) (st := []) (kc2 := 0) (ks2 := 0) dX7_readSum_68 wd567 YX6_emit ⟨wd568, wd569⟩ (mk_get R.2.2.2.2.2.2.1) rfl rfl (s_X6_emit g hT I44 lb R.2.2.2.2.2 v31 0 (by decide) (by decide)) rfl rfl (Nat.le_of_ble_eq_true rfl) (by decide) rfl rfl 71 rfl (fun rv h1 q48 => ?_)
              obtain ⟨m49, n50, rfl, rfl, I51, K52, rm49⟩ := q48
              have K52c := K52
              have w53 : (m49 86 3).toInt = (m42 86 3).toInt := congrArg Int32.toInt (K52 86 3 (wr_out (by omega)))
              have w54 : (m49 86 2).toInt = (m42 86 2).toInt := congrArg Int32.toInt (K52 86 2 (wr_out (by omega)))
              have K52 := K45.trans (K52.sub (wr_wr (by omega) (by omega)))
              show PV _ _ _ _ _ _ _ 71 [.ref 86, .int 0, .int y9, .int v31] [] _
              refine iv_inc (M := mX7_readSum) (C := 1) dX7_readSum_71 74 rfl rfl (by decide) rfl rfl (by decide) (by omega) (by omega) (fun v55 ev55 => ?_)
              show PV _ _ _ _ _ _ _ 74 [.ref 86, .int 0, .int v55, .int v31] [] _
              refine pv_goto (M := mX7_readSum) (tgt := 12) dX7_readSum_74 (by decide) ?_
              refine pv_fg (lo2 := [.ref 86, .int 0, .int v55, pv_U]) ⟨Or.inr rfl, ⟨Or.inr rfl, ⟨Or.inr rfl, ⟨Or.inl rfl, trivial⟩⟩⟩⟩ ?_
              exact ih16 v55 m49 n50 (by first | omega | assumption | exact (iv_rng _).2 | exact (iv_rng _).1 | decide) (by first | omega | assumption | exact (iv_rng _).2 | exact (iv_rng _).1 | decide) (by first | omega | assumption | (show (m 86 3).toInt ≤ (m49 86 3).toInt; omega) | decide) (by first | omega | assumption | (show (m49 86 3).toInt ≤ (m49 86 2).toInt; omega) | decide) (by first | omega | assumption | (show (m49 86 2).toInt = (m 86 2).toInt; omega) | decide) I51 K52 (by omega)
            · have c47 := iv_eq (X := v46.toInt) (Y := 0) c47 rfl (by decide)
              refine pv_iconst (M := mX7_readSum) (v := 0) dX7_readSum_60 61 rfl (by decide) ?_
              have z56 : (0 : Int32).toInt = 0 := by decide
              exact pv_iret (M := mX7_readSum) dX7_readSum_61 rfl rfl ⟨_, _, _, rfl, rfl, I44, K45, by decide, by decide, (by refine ⟨?_, ?_, ?_⟩ <;> omega)⟩
          · have c29 := iv_ne (X := v28.toInt) (Y := 43) c29 rfl (by decide)
            refine pv_aload_n (M := mX7_readSum) 0 dX7_readSum_28 29 rfl rfl rfl ?_
            refine pv_callv (M := mX7_readSum) (as := []) (st := []) (kc2 := 0) (ks2 := 0) dX7_readSum_29 wd527 YX7_peek ⟨wd529, wd2⟩ (mk_get (tl86 hT)) rfl rfl (s_X7_peek g hT I12 R) rfl rfl (Nat.le_of_ble_eq_true rfl) (by decide) rfl rfl 32 rfl (fun rv h1 q57 => ?_)
            obtain ⟨v58, rfl, rfl, pv58, qv58, rv58⟩ := q57
            replace rv58 : v58.toInt = -1 ∨ (m10 86 3).toInt < (m10 86 2).toInt := rv58
            show PV _ _ _ _ _ _ _ 32 [.ref 86, .int 0, .int y9, pv_U] [.int v58] _
            refine pv_bipush (M := mX7_readSum) (v := 45) dX7_readSum_32 34 rfl (by decide) ?_
            refine pv_icmp_ne (M := mX7_readSum) (tgt := 77) dX7_readSum_34 37 rfl (by decide) (fun c59 => ?_) (fun c59 => ?_)
            · have c59 := iv_ne (X := v58.toInt) (Y := 45) c59 rfl (by decide)
              refine pv_iconst (M := mX7_readSum) (v := 1) dX7_readSum_77 78 rfl (by decide) ?_
              have z60 : (1 : Int32).toInt = 1 := by decide
              exact pv_iret (M := mX7_readSum) dX7_readSum_78 rfl rfl ⟨_, _, _, rfl, rfl, I12, K13, by decide, by decide, (by refine ⟨?_, ?_, ?_⟩ <;> omega)⟩
            · have c59 := iv_eq (X := v58.toInt) (Y := 45) c59 rfl (by decide)
              refine pv_aload_n (M := mX7_readSum) 0 dX7_readSum_37 38 rfl rfl rfl ?_
              refine pv_callv (M := mX7_readSum) (as := []) (st := []) (kc2 := 0) (ks2 := 0) dX7_readSum_38 wd527 YX7_peek ⟨wd529, wd2⟩ (mk_get (tl86 hT)) rfl rfl (s_X7_peek g hT I12 R) rfl rfl (Nat.le_of_ble_eq_true rfl) (by decide) rfl rfl 41 rfl (fun rv h1 q61 => ?_)
              obtain ⟨v62, rfl, rfl, pv62, qv62, rv62⟩ := q61
              replace rv62 : v62.toInt = -1 ∨ (m10 86 3).toInt < (m10 86 2).toInt := rv62
              show PV _ _ _ _ _ _ _ 41 [.ref 86, .int 0, .int y9, pv_U] [.int v62] _
              refine pv_istore_n (M := mX7_readSum) 3 (lo2 := [.ref 86, .int 0, .int y9, .int v62]) dX7_readSum_41 42 rfl rfl (by decide) rfl rfl ?_
              refine pv_aload_n (M := mX7_readSum) 0 dX7_readSum_42 43 rfl rfl rfl ?_
              refine pv_dup (M := mX7_readSum) dX7_readSum_43 44 rfl rfl ?_
              refine iv_get (M := mX7_readSum) (l1 := 0) (l2 := 160) dX7_readSum_44 FX7 3 wd283 (by decide) (tl86 hT) rfl I12 rfl 47 rfl (fun v63 ev63 pv63 qv63 => ?_)
              have wv63 : v63.toInt = (m10 86 3).toInt := congrArg Int32.toInt ev63
              refine pv_iconst (M := mX7_readSum) (v := 1) dX7_readSum_47 48 rfl (by decide) ?_
              refine iv_iadd (M := mX7_readSum) (X := v63.toInt) (Y := 1) dX7_readSum_48 49 rfl rfl (by decide) (by omega) (by omega) (fun v64 ev64 => ?_)
              refine iv_put (M := mX7_readSum) (l1 := 0) (l2 := 160) dX7_readSum_49 FX7 3 wd283 (by decide) rfl (tl86 hT) rfl rfl rfl I12 rfl (by omega) (by omega) 52 rfl (fun m65 e68 I66 => ?_)
              have K67 := K13.set e68 (wl_r (by omega) (by omega))
              have w69 : (m65 86 3).toInt = v64.toInt := by rw [e68, up2_eq]
              have w70 : (m65 86 2).toInt = (m10 86 2).toInt := by rw [e68, up2_ne (by omega)]
              refine pv_aload_n (M := mX7_readSum) 0 dX7_readSum_52 53 rfl rfl rfl ?_
              refine pv_iload_n (M := mX7_readSum) 1 dX7_readSum_53 54 rfl rfl rfl ?_
              have z71 : (0 : Int32).toInt = 0 := by decide
              refine pv_callv (M := mX7_readSum) (as := [.int 0]) (st := []) (kc2 := 0) (ks2 := 0) dX7_readSum_54 wd543 YX7_readTerm ⟨wd545, wd5⟩ (mk_get (tl86 hT)) rfl rfl (s_X7_readTerm_v0 g hT I66 R (by first | omega | assumption | exact (iv_rng _).2 | exact (iv_rng _).1 | decide)) rfl rfl (Nat.le_of_ble_eq_true rfl) (by decide) rfl rfl 57 rfl (fun rv h1 q72 => ?_)
              obtain ⟨m73, n74, v77, rfl, rfl, I75, K76, pv77, qv77, rv77⟩ := q72
              replace rv77 : (m65 86 3).toInt ≤ (m73 86 3).toInt ∧ (m73 86 3).toInt ≤ (m73 86 2).toInt ∧ (m73 86 2).toInt = (m65 86 2).toInt := rv77
              have K76c := K76
              have K76 := K67.trans (K76.sub (fun _ _ q => q))
              show PV _ _ _ _ _ _ _ 57 [.ref 86, .int 0, .int y9, .int v62] [.int v77] _
              refine pv_if_ne (M := mX7_readSum) (tgt := 62) dX7_readSum_57 60 rfl (by decide) (fun c78 => ?_) (fun c78 => ?_)
              · have c78 := iv_ne (X := v77.toInt) (Y := 0) c78 rfl (by decide)
                refine pv_aload_n (M := mX7_readSum) 0 dX7_readSum_62 63 rfl rfl rfl ?_
                refine mv_get (M := mX7_readSum) (v := .ref lb) dX7_readSum_63 FX7 1 wd281 (by decide) (tl86 hT) rfl R.2.2.2.1 66 rfl ?_
                refine pv_iload_n (M := mX7_readSum) 3 dX7_readSum_66 67 rfl rfl rfl ?_
                refine pv_iconst (M := mX7_readSum) (v := 0) dX7_readSum_67 68 rfl (by decide) ?_
                refine pv_callv (M := mX7_readSum) (as := [.int v62, .int 0]) (st := []) (kc2 := 0) (ks2 := 0) dX7_readSum_68 wd567 YX6_emit ⟨wd568, wd569⟩ (mk_get R.2.2.2.2.2.2.1) rfl rfl (s_X6_emit g hT I75 lb R.2.2.2.2.2 v62 0 (by decide) (by decide)) rfl rfl (Nat.le_of_ble_eq_true rfl) (by decide) rfl rfl 71 rfl (fun rv h1 q79 => ?_)
                obtain ⟨m80, n81, rfl, rfl, I82, K83, rm80⟩ := q79
                have K83c := K83
                have w84 : (m80 86 3).toInt = (m73 86 3).toInt := congrArg Int32.toInt (K83 86 3 (wr_out (by omega)))
                have w85 : (m80 86 2).toInt = (m73 86 2).toInt := congrArg Int32.toInt (K83 86 2 (wr_out (by omega)))
                have K83 := K76.trans (K83.sub (wr_wr (by omega) (by omega)))
                show PV _ _ _ _ _ _ _ 71 [.ref 86, .int 0, .int y9, .int v62] [] _
                refine iv_inc (M := mX7_readSum) (C := 1) dX7_readSum_71 74 rfl rfl (by decide) rfl rfl (by decide) (by omega) (by omega) (fun v86 ev86 => ?_)
                show PV _ _ _ _ _ _ _ 74 [.ref 86, .int 0, .int v86, .int v62] [] _
                refine pv_goto (M := mX7_readSum) (tgt := 12) dX7_readSum_74 (by decide) ?_
                refine pv_fg (lo2 := [.ref 86, .int 0, .int v86, pv_U]) ⟨Or.inr rfl, ⟨Or.inr rfl, ⟨Or.inr rfl, ⟨Or.inl rfl, trivial⟩⟩⟩⟩ ?_
                exact ih16 v86 m80 n81 (by first | omega | assumption | exact (iv_rng _).2 | exact (iv_rng _).1 | decide) (by first | omega | assumption | exact (iv_rng _).2 | exact (iv_rng _).1 | decide) (by first | omega | assumption | (show (m 86 3).toInt ≤ (m80 86 3).toInt; omega) | decide) (by first | omega | assumption | (show (m80 86 3).toInt ≤ (m80 86 2).toInt; omega) | decide) (by first | omega | assumption | (show (m80 86 2).toInt = (m 86 2).toInt; omega) | decide) I82 K83 (by omega)
              · have c78 := iv_eq (X := v77.toInt) (Y := 0) c78 rfl (by decide)
                refine pv_iconst (M := mX7_readSum) (v := 0) dX7_readSum_60 61 rfl (by decide) ?_
                have z87 : (0 : Int32).toInt = 0 := by decide
                exact pv_iret (M := mX7_readSum) dX7_readSum_61 rfl rfl ⟨_, _, _, rfl, rfl, I75, K76, by decide, by decide, (by refine ⟨?_, ?_, ?_⟩ <;> omega)⟩
    have z88 : (0 : Int32).toInt = 0 := by decide
    exact lp15 (((160 - 0) : Int).toNat + 1) 0 m3 n4 (by first | omega | assumption | exact (iv_rng _).2 | exact (iv_rng _).1 | decide) (by first | omega | assumption | exact (iv_rng _).2 | exact (iv_rng _).1 | decide) (by first | omega | assumption | (show (m 86 3).toInt ≤ (m3 86 3).toInt; omega) | decide) (by first | omega | assumption | (show (m3 86 3).toInt ≤ (m3 86 2).toInt; omega) | decide) (by first | omega | assumption | (show (m3 86 2).toInt = (m 86 2).toInt; omega) | decide) I5 K6 (by omega)
  · have c8 := iv_eq (X := v7.toInt) (Y := 0) c8 rfl (by decide)
    refine pv_iconst (M := mX7_readSum) (v := 0) dX7_readSum_8 9 rfl (by decide) ?_
    have z89 : (0 : Int32).toInt = 0 := by decide
    exact pv_iret (M := mX7_readSum) dX7_readSum_9 rfl rfl ⟨_, _, _, rfl, rfl, I5, K6, by decide, by decide, (by refine ⟨?_, ?_, ?_⟩ <;> omega)⟩

set_option maxHeartbeats 2000000 in
set_option maxRecDepth 20000 in
theorem s_X7_readPiece_v0 (g : pv_G) {T : List mv_T} {m : Nat → Nat → Int32} {n : Nat → Nat → Int64} {r : Nat → Value} {la lb : Nat} (hT : TX T) (I : IV BB m) (R : RX T r la lb) (hp0 : (m 86 3).toInt ≤ (m 86 2).toInt) : PM g mX7_readPiece yX7_readPiece (sqI T BB (wl [(77, 96, none)]) r m 0 1 (fun m' v => (m 86 3).toInt ≤ (m' 86 3).toInt ∧ (m' 86 3).toInt ≤ (m' 86 2).toInt ∧ (m' 86 2).toInt = (m 86 2).toInt)) 26 0 0 [.ref 86, .int 0] (mk T m n r) := by
  have Kp : fr (wl [(77, 96, none)]) m m := fr.rf
  have R0 := R
  have zR := R.2.2.2.2.1.1
  have zR2 := R.2.2.2.2.2.1
  have z159 : 0 ≤ (m 86 3).toInt ∧ (m 86 3).toInt ≤ 160 := I 86 3
  have z160 : 0 ≤ (m 86 2).toInt ∧ (m 86 2).toInt ≤ 160 := I 86 2
  refine PM.of 1 (lo := [.ref 86, .int 0, pv_U]) rfl (by decide) rfl rfl (Nat.le_of_ble_eq_true rfl) ?_
  refine pv_aload_n (M := mX7_readPiece) 0 dX7_readPiece_0 1 rfl rfl rfl ?_
  refine pv_callv (M := mX7_readPiece) (as := []) (st := []) (kc2 := 0) (ks2 := 0) dX7_readPiece_1 wd527 YX7_peek ⟨wd529, wd2⟩ (mk_get (tl86 hT)) rfl rfl (s_X7_peek g hT I R) rfl rfl (Nat.le_of_ble_eq_true rfl) (by decide) rfl rfl 4 rfl (fun rv h1 q1 => ?_)
  obtain ⟨v2, rfl, rfl, pv2, qv2, rv2⟩ := q1
  replace rv2 : v2.toInt = -1 ∨ (m 86 3).toInt < (m 86 2).toInt := rv2
  show PV _ _ _ _ _ _ _ 4 [.ref 86, .int 0, pv_U] [.int v2] _
  refine pv_bipush (M := mX7_readPiece) (v := 33) dX7_readPiece_4 6 rfl (by decide) ?_
  refine pv_icmp_ne (M := mX7_readPiece) (tgt := 41) dX7_readPiece_6 9 rfl (by decide) (fun c3 => ?_) (fun c3 => ?_)
  · have c3 := iv_ne (X := v2.toInt) (Y := 33) c3 rfl (by decide)
    refine pv_aload_n (M := mX7_readPiece) 0 dX7_readPiece_41 42 rfl rfl rfl ?_
    refine pv_callv (M := mX7_readPiece) (as := []) (st := []) (kc2 := 0) (ks2 := 0) dX7_readPiece_42 wd527 YX7_peek ⟨wd529, wd2⟩ (mk_get (tl86 hT)) rfl rfl (s_X7_peek g hT I R) rfl rfl (Nat.le_of_ble_eq_true rfl) (by decide) rfl rfl 45 rfl (fun rv h1 q4 => ?_)
    obtain ⟨v5, rfl, rfl, pv5, qv5, rv5⟩ := q4
    replace rv5 : v5.toInt = -1 ∨ (m 86 3).toInt < (m 86 2).toInt := rv5
    show PV _ _ _ _ _ _ _ 45 [.ref 86, .int 0, pv_U] [.int v5] _
    refine pv_bipush (M := mX7_readPiece) (v := 40) dX7_readPiece_45 47 rfl (by decide) ?_
    refine pv_icmp_ne (M := mX7_readPiece) (tgt := 83) dX7_readPiece_47 50 rfl (by decide) (fun c6 => ?_) (fun c6 => ?_)
    · have c6 := iv_ne (X := v5.toInt) (Y := 40) c6 rfl (by decide)
      refine pv_aload_n (M := mX7_readPiece) 0 dX7_readPiece_83 84 rfl rfl rfl ?_
      refine pv_iload_n (M := mX7_readPiece) 1 dX7_readPiece_84 85 rfl rfl rfl ?_
      have z7 : (0 : Int32).toInt = 0 := by decide
      refine pv_callv (M := mX7_readPiece) (as := [.int 0]) (st := []) (kc2 := 0) (ks2 := 0) dX7_readPiece_85 wd539 YX7_readSum ⟨wd541, wd4⟩ (mk_get (tl86 hT)) rfl rfl (s_X7_readSum_v0 g hT I R (by first | omega | assumption | exact (iv_rng _).2 | exact (iv_rng _).1 | decide)) rfl rfl (Nat.le_of_ble_eq_true rfl) (by decide) rfl rfl 88 rfl (fun rv h1 q8 => ?_)
      obtain ⟨m9, n10, v13, rfl, rfl, I11, K12, pv13, qv13, rv13⟩ := q8
      replace rv13 : (m 86 3).toInt ≤ (m9 86 3).toInt ∧ (m9 86 3).toInt ≤ (m9 86 2).toInt ∧ (m9 86 2).toInt = (m 86 2).toInt := rv13
      have K12c := K12
      have K12 := Kp.trans (K12.sub (fun _ _ q => q))
      show PV _ _ _ _ _ _ _ 88 [.ref 86, .int 0, pv_U] [.int v13] _
      refine pv_if_ne (M := mX7_readPiece) (tgt := 93) dX7_readPiece_88 91 rfl (by decide) (fun c14 => ?_) (fun c14 => ?_)
      · have c14 := iv_ne (X := v13.toInt) (Y := 0) c14 rfl (by decide)
        refine pv_aload_n (M := mX7_readPiece) 0 dX7_readPiece_93 94 rfl rfl rfl ?_
        refine pv_callv (M := mX7_readPiece) (as := []) (st := []) (kc2 := 0) (ks2 := 0) dX7_readPiece_94 wd527 YX7_peek ⟨wd529, wd2⟩ (mk_get (tl86 hT)) rfl rfl (s_X7_peek g hT I11 R) rfl rfl (Nat.le_of_ble_eq_true rfl) (by decide) rfl rfl 97 rfl (fun rv h1 q15 => ?_)
        obtain ⟨v16, rfl, rfl, pv16, qv16, rv16⟩ := q15
        replace rv16 : v16.toInt = -1 ∨ (m9 86 3).toInt < (m9 86 2).toInt := rv16
        show PV _ _ _ _ _ _ _ 97 [.ref 86, .int 0, pv_U] [.int v16] _
        refine pv_istore_n (M := mX7_readPiece) 2 (lo2 := [.ref 86, .int 0, .int v16]) dX7_readPiece_97 98 rfl rfl (by decide) rfl rfl ?_
        refine pv_iload_n (M := mX7_readPiece) 2 dX7_readPiece_98 99 rfl rfl rfl ?_
        refine pv_bipush (M := mX7_readPiece) (v := 60) dX7_readPiece_99 101 rfl (by decide) ?_
        refine pv_icmp_eq (M := mX7_readPiece) (tgt := 122) dX7_readPiece_101 104 rfl (by decide) (fun c17 => ?_) (fun c17 => ?_)
        · have c17 := iv_eq (X := v16.toInt) (Y := 60) c17 rfl (by decide)
          refine pv_aload_n (M := mX7_readPiece) 0 dX7_readPiece_122 123 rfl rfl rfl ?_
          refine pv_dup (M := mX7_readPiece) dX7_readPiece_123 124 rfl rfl ?_
          refine iv_get (M := mX7_readPiece) (l1 := 0) (l2 := 160) dX7_readPiece_124 FX7 3 wd283 (by decide) (tl86 hT) rfl I11 rfl 127 rfl (fun v18 ev18 pv18 qv18 => ?_)
          have wv18 : v18.toInt = (m9 86 3).toInt := congrArg Int32.toInt ev18
          refine pv_iconst (M := mX7_readPiece) (v := 1) dX7_readPiece_127 128 rfl (by decide) ?_
          refine iv_iadd (M := mX7_readPiece) (X := v18.toInt) (Y := 1) dX7_readPiece_128 129 rfl rfl (by decide) (by omega) (by omega) (fun v19 ev19 => ?_)
          refine iv_put (M := mX7_readPiece) (l1 := 0) (l2 := 160) dX7_readPiece_129 FX7 3 wd283 (by decide) rfl (tl86 hT) rfl rfl rfl I11 rfl (by omega) (by omega) 132 rfl (fun m20 e23 I21 => ?_)
          have K22 := K12.set e23 (wl_r (by omega) (by omega))
          have w24 : (m20 86 3).toInt = v19.toInt := by rw [e23, up2_eq]
          have w25 : (m20 86 2).toInt = (m9 86 2).toInt := by rw [e23, up2_ne (by omega)]
          refine pv_aload_n (M := mX7_readPiece) 0 dX7_readPiece_132 133 rfl rfl rfl ?_
          refine pv_iload_n (M := mX7_readPiece) 1 dX7_readPiece_133 134 rfl rfl rfl ?_
          have z26 : (0 : Int32).toInt = 0 := by decide
          refine pv_callv (M := mX7_readPiece) (as := [.int 0]) (st := []) (kc2 := 0) (ks2 := 0) dX7_readPiece_134 wd539 YX7_readSum ⟨wd541, wd4⟩ (mk_get (tl86 hT)) rfl rfl (s_X7_readSum_v0 g hT I21 R (by first | omega | assumption | exact (iv_rng _).2 | exact (iv_rng _).1 | decide)) rfl rfl (Nat.le_of_ble_eq_true rfl) (by decide) rfl rfl 137 rfl (fun rv h1 q27 => ?_)
          obtain ⟨m28, n29, v32, rfl, rfl, I30, K31, pv32, qv32, rv32⟩ := q27
          replace rv32 : (m20 86 3).toInt ≤ (m28 86 3).toInt ∧ (m28 86 3).toInt ≤ (m28 86 2).toInt ∧ (m28 86 2).toInt = (m20 86 2).toInt := rv32
          have K31c := K31
          have K31 := K22.trans (K31.sub (fun _ _ q => q))
          show PV _ _ _ _ _ _ _ 137 [.ref 86, .int 0, .int v16] [.int v32] _
          refine pv_if_ne (M := mX7_readPiece) (tgt := 142) dX7_readPiece_137 140 rfl (by decide) (fun c33 => ?_) (fun c33 => ?_)
          · have c33 := iv_ne (X := v32.toInt) (Y := 0) c33 rfl (by decide)
            refine pv_aload_n (M := mX7_readPiece) 0 dX7_readPiece_142 143 rfl rfl rfl ?_
            refine mv_get (M := mX7_readPiece) (v := .ref lb) dX7_readPiece_143 FX7 1 wd281 (by decide) (tl86 hT) rfl R.2.2.2.1 146 rfl ?_
            refine pv_iload_n (M := mX7_readPiece) 2 dX7_readPiece_146 147 rfl rfl rfl ?_
            refine pv_iconst (M := mX7_readPiece) (v := 0) dX7_readPiece_147 148 rfl (by decide) ?_
            refine pv_callv (M := mX7_readPiece) (as := [.int v16, .int 0]) (st := []) (kc2 := 0) (ks2 := 0) dX7_readPiece_148 wd567 YX6_emit ⟨wd568, wd569⟩ (mk_get R.2.2.2.2.2.2.1) rfl rfl (s_X6_emit g hT I30 lb R.2.2.2.2.2 v16 0 (by decide) (by decide)) rfl rfl (Nat.le_of_ble_eq_true rfl) (by decide) rfl rfl 151 rfl (fun rv h1 q34 => ?_)
            obtain ⟨m35, n36, rfl, rfl, I37, K38, rm35⟩ := q34
            have K38c := K38
            have w39 : (m35 86 3).toInt = (m28 86 3).toInt := congrArg Int32.toInt (K38 86 3 (wr_out (by omega)))
            have w40 : (m35 86 2).toInt = (m28 86 2).toInt := congrArg Int32.toInt (K38 86 2 (wr_out (by omega)))
            have K38 := K31.trans (K38.sub (wr_wr (by omega) (by omega)))
            show PV _ _ _ _ _ _ _ 151 [.ref 86, .int 0, .int v16] [] _
            refine pv_iconst (M := mX7_readPiece) (v := 1) dX7_readPiece_151 152 rfl (by decide) ?_
            have z41 : (1 : Int32).toInt = 1 := by decide
            exact pv_iret (M := mX7_readPiece) dX7_readPiece_152 rfl rfl ⟨_, _, _, rfl, rfl, I37, K38, by decide, by decide, (by refine ⟨?_, ?_, ?_⟩ <;> omega)⟩
          · have c33 := iv_eq (X := v32.toInt) (Y := 0) c33 rfl (by decide)
            refine pv_iconst (M := mX7_readPiece) (v := 0) dX7_readPiece_140 141 rfl (by decide) ?_
            have z42 : (0 : Int32).toInt = 0 := by decide
            exact pv_iret (M := mX7_readPiece) dX7_readPiece_141 rfl rfl ⟨_, _, _, rfl, rfl, I30, K31, by decide, by decide, (by refine ⟨?_, ?_, ?_⟩ <;> omega)⟩
        · have c17 := iv_ne (X := v16.toInt) (Y := 60) c17 rfl (by decide)
          refine pv_iload_n (M := mX7_readPiece) 2 dX7_readPiece_104 105 rfl rfl rfl ?_
          refine pv_bipush (M := mX7_readPiece) (v := 62) dX7_readPiece_105 107 rfl (by decide) ?_
          refine pv_icmp_eq (M := mX7_readPiece) (tgt := 122) dX7_readPiece_107 110 rfl (by decide) (fun c43 => ?_) (fun c43 => ?_)
          · have c43 := iv_eq (X := v16.toInt) (Y := 62) c43 rfl (by decide)
            refine pv_aload_n (M := mX7_readPiece) 0 dX7_readPiece_122 123 rfl rfl rfl ?_
            refine pv_dup (M := mX7_readPiece) dX7_readPiece_123 124 rfl rfl ?_
            refine iv_get (M := mX7_readPiece) (l1 := 0) (l2 := 160) dX7_readPiece_124 FX7 3 wd283 (by decide) (tl86 hT) rfl I11 rfl 127 rfl (fun v44 ev44 pv44 qv44 => ?_)
            have wv44 : v44.toInt = (m9 86 3).toInt := congrArg Int32.toInt ev44
            refine pv_iconst (M := mX7_readPiece) (v := 1) dX7_readPiece_127 128 rfl (by decide) ?_
            refine iv_iadd (M := mX7_readPiece) (X := v44.toInt) (Y := 1) dX7_readPiece_128 129 rfl rfl (by decide) (by omega) (by omega) (fun v45 ev45 => ?_)
            refine iv_put (M := mX7_readPiece) (l1 := 0) (l2 := 160) dX7_readPiece_129 FX7 3 wd283 (by decide) rfl (tl86 hT) rfl rfl rfl I11 rfl (by omega) (by omega) 132 rfl (fun m46 e49 I47 => ?_)
            have K48 := K12.set e49 (wl_r (by omega) (by omega))
            have w50 : (m46 86 3).toInt = v45.toInt := by rw [e49, up2_eq]
            have w51 : (m46 86 2).toInt = (m9 86 2).toInt := by rw [e49, up2_ne (by omega)]
            refine pv_aload_n (M := mX7_readPiece) 0 dX7_readPiece_132 133 rfl rfl rfl ?_
            refine pv_iload_n (M := mX7_readPiece) 1 dX7_readPiece_133 134 rfl rfl rfl ?_
            have z52 : (0 : Int32).toInt = 0 := by decide
            refine pv_callv (M := mX7_readPiece) (as := [.int 0]) (st := []) (kc2 := 0) (ks2 := 0) dX7_readPiece_134 wd539 YX7_readSum ⟨wd541, wd4⟩ (mk_get (tl86 hT)) rfl rfl (s_X7_readSum_v0 g hT I47 R (by first | omega | assumption | exact (iv_rng _).2 | exact (iv_rng _).1 | decide)) rfl rfl (Nat.le_of_ble_eq_true rfl) (by decide) rfl rfl 137 rfl (fun rv h1 q53 => ?_)
            obtain ⟨m54, n55, v58, rfl, rfl, I56, K57, pv58, qv58, rv58⟩ := q53
            replace rv58 : (m46 86 3).toInt ≤ (m54 86 3).toInt ∧ (m54 86 3).toInt ≤ (m54 86 2).toInt ∧ (m54 86 2).toInt = (m46 86 2).toInt := rv58
            have K57c := K57
            have K57 := K48.trans (K57.sub (fun _ _ q => q))
            show PV _ _ _ _ _ _ _ 137 [.ref 86, .int 0, .int v16] [.int v58] _
            refine pv_if_ne (M := mX7_readPiece) (tgt := 142) dX7_readPiece_137 140 rfl (by decide) (fun c59 => ?_) (fun c59 => ?_)
            · have c59 := iv_ne (X := v58.toInt) (Y := 0) c59 rfl (by decide)
              refine pv_aload_n (M := mX7_readPiece) 0 dX7_readPiece_142 143 rfl rfl rfl ?_
              refine mv_get (M := mX7_readPiece) (v := .ref lb) dX7_readPiece_143 FX7 1 wd281 (by decide) (tl86 hT) rfl R.2.2.2.1 146 rfl ?_
              refine pv_iload_n (M := mX7_readPiece) 2 dX7_readPiece_146 147 rfl rfl rfl ?_
              refine pv_iconst (M := mX7_readPiece) (v := 0) dX7_readPiece_147 148 rfl (by decide) ?_
              refine pv_callv (M := mX7_readPiece) (as := [.int v16, .int 0]) (st := []) (kc2 := 0) (ks2 := 0) dX7_readPiece_148 wd567 YX6_emit ⟨wd568, wd569⟩ (mk_get R.2.2.2.2.2.2.1) rfl rfl (s_X6_emit g hT I56 lb R.2.2.2.2.2 v16 0 (by decide) (by decide)) rfl rfl (Nat.le_of_ble_eq_true rfl) (by decide) rfl rfl 151 rfl (fun rv h1 q60 => ?_)
              obtain ⟨m61, n62, rfl, rfl, I63, K64, rm61⟩ := q60
              have K64c := K64
              have w65 : (m61 86 3).toInt = (m54 86 3).toInt := congrArg Int32.toInt (K64 86 3 (wr_out (by omega)))
              have w66 : (m61 86 2).toInt = (m54 86 2).toInt := congrArg Int32.toInt (K64 86 2 (wr_out (by omega)))
              have K64 := K57.trans (K64.sub (wr_wr (by omega) (by omega)))
              show PV _ _ _ _ _ _ _ 151 [.ref 86, .int 0, .int v16] [] _
              refine pv_iconst (M := mX7_readPiece) (v := 1) dX7_readPiece_151 152 rfl (by decide) ?_
              have z67 : (1 : Int32).toInt = 1 := by decide
              exact pv_iret (M := mX7_readPiece) dX7_readPiece_152 rfl rfl ⟨_, _, _, rfl, rfl, I63, K64, by decide, by decide, (by refine ⟨?_, ?_, ?_⟩ <;> omega)⟩
            · have c59 := iv_eq (X := v58.toInt) (Y := 0) c59 rfl (by decide)
              refine pv_iconst (M := mX7_readPiece) (v := 0) dX7_readPiece_140 141 rfl (by decide) ?_
              have z68 : (0 : Int32).toInt = 0 := by decide
              exact pv_iret (M := mX7_readPiece) dX7_readPiece_141 rfl rfl ⟨_, _, _, rfl, rfl, I56, K57, by decide, by decide, (by refine ⟨?_, ?_, ?_⟩ <;> omega)⟩
          · have c43 := iv_ne (X := v16.toInt) (Y := 62) c43 rfl (by decide)
            refine pv_iload_n (M := mX7_readPiece) 2 dX7_readPiece_110 111 rfl rfl rfl ?_
            refine pv_bipush (M := mX7_readPiece) (v := 61) dX7_readPiece_111 113 rfl (by decide) ?_
            refine pv_icmp_eq (M := mX7_readPiece) (tgt := 122) dX7_readPiece_113 116 rfl (by decide) (fun c69 => ?_) (fun c69 => ?_)
            · have c69 := iv_eq (X := v16.toInt) (Y := 61) c69 rfl (by decide)
              refine pv_aload_n (M := mX7_readPiece) 0 dX7_readPiece_122 123 rfl rfl rfl ?_
              refine pv_dup (M := mX7_readPiece) dX7_readPiece_123 124 rfl rfl ?_
              refine iv_get (M := mX7_readPiece) (l1 := 0) (l2 := 160) dX7_readPiece_124 FX7 3 wd283 (by decide) (tl86 hT) rfl I11 rfl 127 rfl (fun v70 ev70 pv70 qv70 => ?_)
              have wv70 : v70.toInt = (m9 86 3).toInt := congrArg Int32.toInt ev70
              refine pv_iconst (M := mX7_readPiece) (v := 1) dX7_readPiece_127 128 rfl (by decide) ?_
              refine iv_iadd (M := mX7_readPiece) (X := v70.toInt) (Y := 1) dX7_readPiece_128 129 rfl rfl (by decide) (by omega) (by omega) (fun v71 ev71 => ?_)
              refine iv_put (M := mX7_readPiece) (l1 := 0) (l2 := 160) dX7_readPiece_129 FX7 3 wd283 (by decide) rfl (tl86 hT) rfl rfl rfl I11 rfl (by omega) (by omega) 132 rfl (fun m72 e75 I73 => ?_)
              have K74 := K12.set e75 (wl_r (by omega) (by omega))
              have w76 : (m72 86 3).toInt = v71.toInt := by rw [e75, up2_eq]
              have w77 : (m72 86 2).toInt = (m9 86 2).toInt := by rw [e75, up2_ne (by omega)]
              refine pv_aload_n (M := mX7_readPiece) 0 dX7_readPiece_132 133 rfl rfl rfl ?_
              refine pv_iload_n (M := mX7_readPiece) 1 dX7_readPiece_133 134 rfl rfl rfl ?_
              have z78 : (0 : Int32).toInt = 0 := by decide
              refine pv_callv (M := mX7_readPiece) (as := [.int 0]) (st := []) (kc2 := 0) (ks2 := 0) dX7_readPiece_134 wd539 YX7_readSum ⟨wd541, wd4⟩ (mk_get (tl86 hT)) rfl rfl (s_X7_readSum_v0 g hT I73 R (by first | omega | assumption | exact (iv_rng _).2 | exact (iv_rng _).1 | decide)) rfl rfl (Nat.le_of_ble_eq_true rfl) (by decide) rfl rfl 137 rfl (fun rv h1 q79 => ?_)
              obtain ⟨m80, n81, v84, rfl, rfl, I82, K83, pv84, qv84, rv84⟩ := q79
              replace rv84 : (m72 86 3).toInt ≤ (m80 86 3).toInt ∧ (m80 86 3).toInt ≤ (m80 86 2).toInt ∧ (m80 86 2).toInt = (m72 86 2).toInt := rv84
              have K83c := K83
              have K83 := K74.trans (K83.sub (fun _ _ q => q))
              show PV _ _ _ _ _ _ _ 137 [.ref 86, .int 0, .int v16] [.int v84] _
              refine pv_if_ne (M := mX7_readPiece) (tgt := 142) dX7_readPiece_137 140 rfl (by decide) (fun c85 => ?_) (fun c85 => ?_)
              · have c85 := iv_ne (X := v84.toInt) (Y := 0) c85 rfl (by decide)
                refine pv_aload_n (M := mX7_readPiece) 0 dX7_readPiece_142 143 rfl rfl rfl ?_
                refine mv_get (M := mX7_readPiece) (v := .ref lb) dX7_readPiece_143 FX7 1 wd281 (by decide) (tl86 hT) rfl R.2.2.2.1 146 rfl ?_
                refine pv_iload_n (M := mX7_readPiece) 2 dX7_readPiece_146 147 rfl rfl rfl ?_
                refine pv_iconst (M := mX7_readPiece) (v := 0) dX7_readPiece_147 148 rfl (by decide) ?_
                refine pv_callv (M := mX7_readPiece) (as := [.int v16, .int 0]) (st := []) (kc2 := 0) (ks2 := 0) dX7_readPiece_148 wd567 YX6_emit ⟨wd568, wd569⟩ (mk_get R.2.2.2.2.2.2.1) rfl rfl (s_X6_emit g hT I82 lb R.2.2.2.2.2 v16 0 (by decide) (by decide)) rfl rfl (Nat.le_of_ble_eq_true rfl) (by decide) rfl rfl 151 rfl (fun rv h1 q86 => ?_)
                obtain ⟨m87, n88, rfl, rfl, I89, K90, rm87⟩ := q86
                have K90c := K90
                have w91 : (m87 86 3).toInt = (m80 86 3).toInt := congrArg Int32.toInt (K90 86 3 (wr_out (by omega)))
                have w92 : (m87 86 2).toInt = (m80 86 2).toInt := congrArg Int32.toInt (K90 86 2 (wr_out (by omega)))
                have K90 := K83.trans (K90.sub (wr_wr (by omega) (by omega)))
                show PV _ _ _ _ _ _ _ 151 [.ref 86, .int 0, .int v16] [] _
                refine pv_iconst (M := mX7_readPiece) (v := 1) dX7_readPiece_151 152 rfl (by decide) ?_
                have z93 : (1 : Int32).toInt = 1 := by decide
                exact pv_iret (M := mX7_readPiece) dX7_readPiece_152 rfl rfl ⟨_, _, _, rfl, rfl, I89, K90, by decide, by decide, (by refine ⟨?_, ?_, ?_⟩ <;> omega)⟩
              · have c85 := iv_eq (X := v84.toInt) (Y := 0) c85 rfl (by decide)
                refine pv_iconst (M := mX7_readPiece) (v := 0) dX7_readPiece_140 141 rfl (by decide) ?_
                have z94 : (0 : Int32).toInt = 0 := by decide
                exact pv_iret (M := mX7_readPiece) dX7_readPiece_141 rfl rfl ⟨_, _, _, rfl, rfl, I82, K83, by decide, by decide, (by refine ⟨?_, ?_, ?_⟩ <;> omega)⟩
            · have c69 := iv_ne (X := v16.toInt) (Y := 61) c69 rfl (by decide)
              refine pv_aload_n (M := mX7_readPiece) 0 dX7_readPiece_116 117 rfl rfl rfl ?_
              refine pv_iconst (M := mX7_readPiece) (v := 1) dX7_readPiece_117 118 rfl (by decide) ?_
              have z95 : (1 : Int32).toInt = 1 := by decide
              refine pv_callv (M := mX7_readPiece) (as := [.int 1]) (st := []) (kc2 := 0) (ks2 := 0) dX7_readPiece_118 wd531 YX7_fail ⟨wd533, wd3⟩ (mk_get (tl86 hT)) rfl rfl (s_X7_fail g hT I11 R 1 (by first | omega | assumption | exact (iv_rng _).2 | exact (iv_rng _).1 | decide)) rfl rfl (Nat.le_of_ble_eq_true rfl) (by decide) rfl rfl 121 rfl (fun rv h1 q96 => ?_)
              obtain ⟨m97, n98, v101, rfl, rfl, I99, K100, pv101, qv101, rv101⟩ := q96
              replace rv101 : v101.toInt = 0 ∧ (m9 86 3).toInt ≤ (m97 86 3).toInt ∧ (m97 86 3).toInt ≤ (m97 86 2).toInt ∧ (m97 86 2).toInt = (m9 86 2).toInt := rv101
              have K100c := K100
              have K100 := K12.trans (K100.sub (fun _ _ q => q))
              show PV _ _ _ _ _ _ _ 121 [.ref 86, .int 0, .int v16] [.int v101] _
              exact pv_iret (M := mX7_readPiece) dX7_readPiece_121 rfl (iv_nz (by omega) (by omega)) ⟨_, _, _, rfl, rfl, I99, K100, by omega, by omega, (by refine ⟨?_, ?_, ?_⟩ <;> omega)⟩
      · have c14 := iv_eq (X := v13.toInt) (Y := 0) c14 rfl (by decide)
        refine pv_iconst (M := mX7_readPiece) (v := 0) dX7_readPiece_91 92 rfl (by decide) ?_
        have z102 : (0 : Int32).toInt = 0 := by decide
        exact pv_iret (M := mX7_readPiece) dX7_readPiece_92 rfl rfl ⟨_, _, _, rfl, rfl, I11, K12, by decide, by decide, (by refine ⟨?_, ?_, ?_⟩ <;> omega)⟩
    · have c6 := iv_eq (X := v5.toInt) (Y := 40) c6 rfl (by decide)
      refine pv_aload_n (M := mX7_readPiece) 0 dX7_readPiece_50 51 rfl rfl rfl ?_
      refine pv_iload_n (M := mX7_readPiece) 1 dX7_readPiece_51 52 rfl rfl rfl ?_
      have z103 : (0 : Int32).toInt = 0 := by decide
      refine pv_callv (M := mX7_readPiece) (as := [.int 0]) (st := []) (kc2 := 0) (ks2 := 0) dX7_readPiece_52 wd551 YX7_open ⟨wd553, wd7⟩ (mk_get (tl86 hT)) rfl rfl (s_X7_open g hT I R 0 (by first | omega | assumption | exact (iv_rng _).2 | exact (iv_rng _).1 | decide)) rfl rfl (Nat.le_of_ble_eq_true rfl) (by decide) rfl rfl 55 rfl (fun rv h1 q104 => ?_)
      obtain ⟨m105, n106, v109, rfl, rfl, I107, K108, pv109, qv109, rv109⟩ := q104
      replace rv109 : (v109 = 0 ∨ (0 : Int) ≤ 5) ∧ (m 86 3).toInt ≤ (m105 86 3).toInt ∧ (m105 86 3).toInt ≤ (m105 86 2).toInt ∧ (m105 86 2).toInt = (m 86 2).toInt := by have q_ := rv109; (try rw [z103] at q_); exact q_
      have K108c := K108
      have K108 := Kp.trans (K108.sub (fun _ _ q => q))
      show PV _ _ _ _ _ _ _ 55 [.ref 86, .int 0, pv_U] [.int v109] _
      refine pv_if_eq (M := mX7_readPiece) (tgt := 81) dX7_readPiece_55 58 rfl (by decide) (fun c110 => ?_) (fun c110 => ?_)
      · have c110 := iv_eq (X := v109.toInt) (Y := 0) c110 rfl (by decide)
        refine pv_iconst (M := mX7_readPiece) (v := 0) dX7_readPiece_81 82 rfl (by decide) ?_
        have z111 : (0 : Int32).toInt = 0 := by decide
        exact pv_iret (M := mX7_readPiece) dX7_readPiece_82 rfl rfl ⟨_, _, _, rfl, rfl, I107, K108, by decide, by decide, (by refine ⟨?_, ?_, ?_⟩ <;> omega)⟩
      · have pc110 := rv109.1.resolve_left c110
        have c110 := iv_ne (X := v109.toInt) (Y := 0) c110 rfl (by decide)
        refine pv_aload_n (M := mX7_readPiece) 0 dX7_readPiece_58 59 rfl rfl rfl ?_
        refine pv_iload_n (M := mX7_readPiece) 1 dX7_readPiece_59 60 rfl rfl rfl ?_
        refine pv_iconst (M := mX7_readPiece) (v := 1) dX7_readPiece_60 61 rfl (by decide) ?_
        refine pv_iadd (M := mX7_readPiece) (v := 1) dX7_readPiece_61 62 rfl (by decide) ?_
        have z113 : (1 : Int32).toInt = 1 := by decide
        refine pv_callv (M := mX7_readPiece) (as := [.int 1]) (st := []) (kc2 := 0) (ks2 := 0) dX7_readPiece_62 wd662 YX7_readCondition ⟨wd664, wd12⟩ (mk_get (tl86 hT)) rfl rfl (s_X7_readCondition_v1 g hT I107 R (by first | omega | assumption | exact (iv_rng _).2 | exact (iv_rng _).1 | decide)) rfl rfl (Nat.le_of_ble_eq_true rfl) (by decide) rfl rfl 65 rfl (fun rv h1 q114 => ?_)
        obtain ⟨m115, n116, v119, rfl, rfl, I117, K118, pv119, qv119, rv119⟩ := q114
        replace rv119 : (m105 86 3).toInt ≤ (m115 86 3).toInt ∧ (m115 86 3).toInt ≤ (m115 86 2).toInt ∧ (m115 86 2).toInt = (m105 86 2).toInt := rv119
        have K118c := K118
        have K118 := K108.trans (K118.sub (fun _ _ q => q))
        show PV _ _ _ _ _ _ _ 65 [.ref 86, .int 0, pv_U] [.int v119] _
        refine pv_if_eq (M := mX7_readPiece) (tgt := 81) dX7_readPiece_65 68 rfl (by decide) (fun c120 => ?_) (fun c120 => ?_)
        · have c120 := iv_eq (X := v119.toInt) (Y := 0) c120 rfl (by decide)
          refine pv_iconst (M := mX7_readPiece) (v := 0) dX7_readPiece_81 82 rfl (by decide) ?_
          have z121 : (0 : Int32).toInt = 0 := by decide
          exact pv_iret (M := mX7_readPiece) dX7_readPiece_82 rfl rfl ⟨_, _, _, rfl, rfl, I117, K118, by decide, by decide, (by refine ⟨?_, ?_, ?_⟩ <;> omega)⟩
        · have c120 := iv_ne (X := v119.toInt) (Y := 0) c120 rfl (by decide)
          refine pv_aload_n (M := mX7_readPiece) 0 dX7_readPiece_68 69 rfl rfl rfl ?_
          refine pv_bipush (M := mX7_readPiece) (v := 41) dX7_readPiece_69 71 rfl (by decide) ?_
          have z122 : (41 : Int32).toInt = 41 := by decide
          refine pv_callv (M := mX7_readPiece) (as := [.int 41]) (st := []) (kc2 := 0) (ks2 := 0) dX7_readPiece_71 wd555 YX7_pass ⟨wd557, wd8⟩ (mk_get (tl86 hT)) rfl rfl (s_X7_pass g hT I117 R 41 (by decide) (by decide) (by first | omega | assumption | exact (iv_rng _).2 | exact (iv_rng _).1 | decide)) rfl rfl (Nat.le_of_ble_eq_true rfl) (by decide) rfl rfl 74 rfl (fun rv h1 q123 => ?_)
          obtain ⟨m124, n125, v128, rfl, rfl, I126, K127, pv128, qv128, rv128⟩ := q123
          replace rv128 : (m115 86 3).toInt ≤ (m124 86 3).toInt ∧ (m124 86 3).toInt ≤ (m124 86 2).toInt ∧ (m124 86 2).toInt = (m115 86 2).toInt := rv128
          have K127c := K127
          have K127 := K118.trans (K127.sub (fun _ _ q => q))
          show PV _ _ _ _ _ _ _ 74 [.ref 86, .int 0, pv_U] [.int v128] _
          refine pv_if_eq (M := mX7_readPiece) (tgt := 81) dX7_readPiece_74 77 rfl (by decide) (fun c129 => ?_) (fun c129 => ?_)
          · have c129 := iv_eq (X := v128.toInt) (Y := 0) c129 rfl (by decide)
            refine pv_iconst (M := mX7_readPiece) (v := 0) dX7_readPiece_81 82 rfl (by decide) ?_
            have z130 : (0 : Int32).toInt = 0 := by decide
            exact pv_iret (M := mX7_readPiece) dX7_readPiece_82 rfl rfl ⟨_, _, _, rfl, rfl, I126, K127, by decide, by decide, (by refine ⟨?_, ?_, ?_⟩ <;> omega)⟩
          · have c129 := iv_ne (X := v128.toInt) (Y := 0) c129 rfl (by decide)
            refine pv_iconst (M := mX7_readPiece) (v := 1) dX7_readPiece_77 78 rfl (by decide) ?_
            refine pv_goto (M := mX7_readPiece) (tgt := 82) dX7_readPiece_78 (by decide) ?_
            have z131 : (1 : Int32).toInt = 1 := by decide
            exact pv_iret (M := mX7_readPiece) dX7_readPiece_82 rfl rfl ⟨_, _, _, rfl, rfl, I126, K127, by decide, by decide, (by refine ⟨?_, ?_, ?_⟩ <;> omega)⟩
  · have c3 := iv_eq (X := v2.toInt) (Y := 33) c3 rfl (by decide)
    refine pv_aload_n (M := mX7_readPiece) 0 dX7_readPiece_9 10 rfl rfl rfl ?_
    refine pv_iload_n (M := mX7_readPiece) 1 dX7_readPiece_10 11 rfl rfl rfl ?_
    have z132 : (0 : Int32).toInt = 0 := by decide
    refine pv_callv (M := mX7_readPiece) (as := [.int 0]) (st := []) (kc2 := 0) (ks2 := 0) dX7_readPiece_11 wd551 YX7_open ⟨wd553, wd7⟩ (mk_get (tl86 hT)) rfl rfl (s_X7_open g hT I R 0 (by first | omega | assumption | exact (iv_rng _).2 | exact (iv_rng _).1 | decide)) rfl rfl (Nat.le_of_ble_eq_true rfl) (by decide) rfl rfl 14 rfl (fun rv h1 q133 => ?_)
    obtain ⟨m134, n135, v138, rfl, rfl, I136, K137, pv138, qv138, rv138⟩ := q133
    replace rv138 : (v138 = 0 ∨ (0 : Int) ≤ 5) ∧ (m 86 3).toInt ≤ (m134 86 3).toInt ∧ (m134 86 3).toInt ≤ (m134 86 2).toInt ∧ (m134 86 2).toInt = (m 86 2).toInt := by have q_ := rv138; (try rw [z132] at q_); exact q_
    have K137c := K137
    have K137 := Kp.trans (K137.sub (fun _ _ q => q))
    show PV _ _ _ _ _ _ _ 14 [.ref 86, .int 0, pv_U] [.int v138] _
    refine pv_if_eq (M := mX7_readPiece) (tgt := 27) dX7_readPiece_14 17 rfl (by decide) (fun c139 => ?_) (fun c139 => ?_)
    · have c139 := iv_eq (X := v138.toInt) (Y := 0) c139 rfl (by decide)
      refine pv_iconst (M := mX7_readPiece) (v := 0) dX7_readPiece_27 28 rfl (by decide) ?_
      have z140 : (0 : Int32).toInt = 0 := by decide
      exact pv_iret (M := mX7_readPiece) dX7_readPiece_28 rfl rfl ⟨_, _, _, rfl, rfl, I136, K137, by decide, by decide, (by refine ⟨?_, ?_, ?_⟩ <;> omega)⟩
    · have pc139 := rv138.1.resolve_left c139
      have c139 := iv_ne (X := v138.toInt) (Y := 0) c139 rfl (by decide)
      refine pv_aload_n (M := mX7_readPiece) 0 dX7_readPiece_17 18 rfl rfl rfl ?_
      refine pv_iload_n (M := mX7_readPiece) 1 dX7_readPiece_18 19 rfl rfl rfl ?_
      refine pv_iconst (M := mX7_readPiece) (v := 1) dX7_readPiece_19 20 rfl (by decide) ?_
      refine pv_iadd (M := mX7_readPiece) (v := 1) dX7_readPiece_20 21 rfl (by decide) ?_
      have z142 : (1 : Int32).toInt = 1 := by decide
      refine pv_callv (M := mX7_readPiece) (as := [.int 1]) (st := []) (kc2 := 0) (ks2 := 0) dX7_readPiece_21 wd674 YX7_readPiece ⟨wd676, wd14⟩ (mk_get (tl86 hT)) rfl rfl (s_X7_readPiece_v1 g hT I136 R (by first | omega | assumption | exact (iv_rng _).2 | exact (iv_rng _).1 | decide)) rfl rfl (Nat.le_of_ble_eq_true rfl) (by decide) rfl rfl 24 rfl (fun rv h1 q143 => ?_)
      obtain ⟨m144, n145, v148, rfl, rfl, I146, K147, pv148, qv148, rv148⟩ := q143
      replace rv148 : (m134 86 3).toInt ≤ (m144 86 3).toInt ∧ (m144 86 3).toInt ≤ (m144 86 2).toInt ∧ (m144 86 2).toInt = (m134 86 2).toInt := rv148
      have K147c := K147
      have K147 := K137.trans (K147.sub (fun _ _ q => q))
      show PV _ _ _ _ _ _ _ 24 [.ref 86, .int 0, pv_U] [.int v148] _
      refine pv_if_ne (M := mX7_readPiece) (tgt := 29) dX7_readPiece_24 27 rfl (by decide) (fun c149 => ?_) (fun c149 => ?_)
      · have c149 := iv_ne (X := v148.toInt) (Y := 0) c149 rfl (by decide)
        refine pv_aload_n (M := mX7_readPiece) 0 dX7_readPiece_29 30 rfl rfl rfl ?_
        refine mv_get (M := mX7_readPiece) (v := .ref lb) dX7_readPiece_30 FX7 1 wd281 (by decide) (tl86 hT) rfl R.2.2.2.1 33 rfl ?_
        refine pv_bipush (M := mX7_readPiece) (v := 33) dX7_readPiece_33 35 rfl (by decide) ?_
        refine pv_iconst (M := mX7_readPiece) (v := 0) dX7_readPiece_35 36 rfl (by decide) ?_
        refine pv_callv (M := mX7_readPiece) (as := [.int 33, .int 0]) (st := []) (kc2 := 0) (ks2 := 0) dX7_readPiece_36 wd567 YX6_emit ⟨wd568, wd569⟩ (mk_get R.2.2.2.2.2.2.1) rfl rfl (s_X6_emit g hT I146 lb R.2.2.2.2.2 33 0 (by decide) (by decide)) rfl rfl (Nat.le_of_ble_eq_true rfl) (by decide) rfl rfl 39 rfl (fun rv h1 q150 => ?_)
        obtain ⟨m151, n152, rfl, rfl, I153, K154, rm151⟩ := q150
        have K154c := K154
        have w155 : (m151 86 3).toInt = (m144 86 3).toInt := congrArg Int32.toInt (K154 86 3 (wr_out (by omega)))
        have w156 : (m151 86 2).toInt = (m144 86 2).toInt := congrArg Int32.toInt (K154 86 2 (wr_out (by omega)))
        have K154 := K147.trans (K154.sub (wr_wr (by omega) (by omega)))
        show PV _ _ _ _ _ _ _ 39 [.ref 86, .int 0, pv_U] [] _
        refine pv_iconst (M := mX7_readPiece) (v := 1) dX7_readPiece_39 40 rfl (by decide) ?_
        have z157 : (1 : Int32).toInt = 1 := by decide
        exact pv_iret (M := mX7_readPiece) dX7_readPiece_40 rfl rfl ⟨_, _, _, rfl, rfl, I153, K154, by decide, by decide, (by refine ⟨?_, ?_, ?_⟩ <;> omega)⟩
      · have c149 := iv_eq (X := v148.toInt) (Y := 0) c149 rfl (by decide)
        refine pv_iconst (M := mX7_readPiece) (v := 0) dX7_readPiece_27 28 rfl (by decide) ?_
        have z158 : (0 : Int32).toInt = 0 := by decide
        exact pv_iret (M := mX7_readPiece) dX7_readPiece_28 rfl rfl ⟨_, _, _, rfl, rfl, I146, K147, by decide, by decide, (by refine ⟨?_, ?_, ?_⟩ <;> omega)⟩

set_option maxHeartbeats 2000000 in
set_option maxRecDepth 20000 in
theorem s_X7_readPart_v0 (g : pv_G) {T : List mv_T} {m : Nat → Nat → Int32} {n : Nat → Nat → Int64} {r : Nat → Value} {la lb : Nat} (hT : TX T) (I : IV BB m) (R : RX T r la lb) (hp0 : (m 86 3).toInt ≤ (m 86 2).toInt) : PM g mX7_readPart yX7_readPart (sqI T BB (wl [(77, 96, none)]) r m 0 1 (fun m' v => (m 86 3).toInt ≤ (m' 86 3).toInt ∧ (m' 86 3).toInt ≤ (m' 86 2).toInt ∧ (m' 86 2).toInt = (m 86 2).toInt)) 27 0 0 [.ref 86, .int 0] (mk T m n r) := by
  have Kp : fr (wl [(77, 96, none)]) m m := fr.rf
  have R0 := R
  have zR := R.2.2.2.2.1.1
  have zR2 := R.2.2.2.2.2.1
  have z65 : 0 ≤ (m 86 3).toInt ∧ (m 86 3).toInt ≤ 160 := I 86 3
  have z66 : 0 ≤ (m 86 2).toInt ∧ (m 86 2).toInt ≤ 160 := I 86 2
  refine PM.of 2 (lo := [.ref 86, .int 0, pv_U, pv_U]) rfl (by decide) rfl rfl (Nat.le_of_ble_eq_true rfl) ?_
  refine pv_aload_n (M := mX7_readPart) 0 dX7_readPart_0 1 rfl rfl rfl ?_
  refine mv_get (M := mX7_readPart) (v := .ref lb) dX7_readPart_1 FX7 1 wd281 (by decide) (tl86 hT) rfl R.2.2.2.1 4 rfl ?_
  refine pv_callv (M := mX7_readPart) (as := []) (st := []) (kc2 := 0) (ks2 := 0) dX7_readPart_4 wd666 YX6_steps ⟨wd667, wd668⟩ (mk_get R.2.2.2.2.2.2.1) rfl rfl (s_X6_steps g hT I lb R.2.2.2.2.2) rfl rfl (Nat.le_of_ble_eq_true rfl) (by decide) rfl rfl 7 rfl (fun rv h1 q1 => ?_)
  obtain ⟨v2, rfl, rfl, pv2, qv2, rv2⟩ := q1
  show PV _ _ _ _ _ _ _ 7 [.ref 86, .int 0, pv_U, pv_U] [.int v2] _
  refine pv_istore_n (M := mX7_readPart) 2 (lo2 := [.ref 86, .int 0, .int v2, pv_U]) dX7_readPart_7 8 rfl rfl (by decide) rfl rfl ?_
  refine pv_iconst (M := mX7_readPart) (v := 0) dX7_readPart_8 9 rfl (by decide) ?_
  refine pv_istore_n (M := mX7_readPart) 3 (lo2 := [.ref 86, .int 0, .int v2, .int 0]) dX7_readPart_9 10 rfl rfl (by decide) rfl rfl ?_
  have lp9 : ∀ (fuel8 : Nat) (y3 : Int32) (m4 : Nat → Nat → Int32) (n5 : Nat → Nat → Int64), (0 ≤ y3.toInt) → (y3.toInt ≤ 160) → ((m 86 3).toInt ≤ (m4 86 3).toInt) → ((m4 86 3).toInt ≤ (m4 86 2).toInt) → ((m4 86 2).toInt = (m 86 2).toInt) → IV BB m4 → fr (wl [(77, 96, none)]) m m4 → ((160 - y3.toInt) : Int).toNat < fuel8 → PV none g mX7_readPart (sqI T BB (wl [(77, 96, none)]) r m 0 1 (fun m' v => (m 86 3).toInt ≤ (m' 86 3).toInt ∧ (m' 86 3).toInt ≤ (m' 86 2).toInt ∧ (m' 86 2).toInt = (m 86 2).toInt)) 27 0 0 10 [.ref 86, .int 0, .int v2, .int y3] [] (mk T m4 n5 r) := by
    intro fuel8
    induction fuel8 with
    | zero => intro y3 m4 n5 b11 b12 b13 b14 b15 I6 K7 z16; omega
    | succ fuel8 ih10 =>
      intro y3 m4 n5 b11 b12 b13 b14 b15 I6 K7 z16
      have z17 : 0 ≤ (m4 86 3).toInt ∧ (m4 86 3).toInt ≤ 160 := I6 86 3
      have z18 : 0 ≤ (m4 86 2).toInt ∧ (m4 86 2).toInt ≤ 160 := I6 86 2
      refine pv_iload_n (M := mX7_readPart) 3 dX7_readPart_10 11 rfl rfl rfl ?_
      refine pv_sipush (M := mX7_readPart) (v := 160) dX7_readPart_11 14 rfl (by decide) ?_
      refine pv_icmp_ge (M := mX7_readPart) (tgt := 65) dX7_readPart_14 17 rfl (by decide) (fun c19 => ?_) (fun c19 => ?_)
      · have c19 := iv_le (X := 160) (Y := y3.toInt) c19 (by decide) rfl
        refine pv_aload_n (M := mX7_readPart) 0 dX7_readPart_65 66 rfl rfl rfl ?_
        refine mv_get (M := mX7_readPart) (v := .ref lb) dX7_readPart_66 FX7 1 wd281 (by decide) (tl86 hT) rfl R.2.2.2.1 69 rfl ?_
        refine pv_bipush (M := mX7_readPart) (v := 38) dX7_readPart_69 71 rfl (by decide) ?_
        refine pv_iload_n (M := mX7_readPart) 2 dX7_readPart_71 72 rfl rfl rfl ?_
        refine pv_callv (M := mX7_readPart) (as := [.int 38, .int v2]) (st := []) (kc2 := 0) (ks2 := 0) dX7_readPart_72 wd678 YX6_aimLeaps ⟨wd679, wd680⟩ (mk_get R.2.2.2.2.2.2.1) rfl rfl (s_X6_aimLeaps g hT I6 lb R.2.2.2.2.2 38 v2) rfl rfl (Nat.le_of_ble_eq_true rfl) (by decide) rfl rfl 75 rfl (fun rv h1 q20 => ?_)
        obtain ⟨m21, n22, rfl, rfl, I23, K24, rm21⟩ := q20
        have K24c := K24
        have w25 : (m21 86 3).toInt = (m4 86 3).toInt := congrArg Int32.toInt (K24 86 3 (wr_out (by omega)))
        have w26 : (m21 86 2).toInt = (m4 86 2).toInt := congrArg Int32.toInt (K24 86 2 (wr_out (by omega)))
        have K24 := K7.trans (K24.sub (wr_wr (by omega) (by omega)))
        show PV _ _ _ _ _ _ _ 75 [.ref 86, .int 0, .int v2, .int y3] [] _
        refine pv_iconst (M := mX7_readPart) (v := 1) dX7_readPart_75 76 rfl (by decide) ?_
        have z27 : (1 : Int32).toInt = 1 := by decide
        exact pv_iret (M := mX7_readPart) dX7_readPart_76 rfl rfl ⟨_, _, _, rfl, rfl, I23, K24, by decide, by decide, (by refine ⟨?_, ?_, ?_⟩ <;> omega)⟩
      · have c19 := iv_nle (X := 160) (Y := y3.toInt) c19 (by decide) rfl
        refine pv_aload_n (M := mX7_readPart) 0 dX7_readPart_17 18 rfl rfl rfl ?_
        refine pv_iload_n (M := mX7_readPart) 1 dX7_readPart_18 19 rfl rfl rfl ?_
        have z28 : (0 : Int32).toInt = 0 := by decide
        refine pv_callv (M := mX7_readPart) (as := [.int 0]) (st := []) (kc2 := 0) (ks2 := 0) dX7_readPart_19 wd674 YX7_readPiece ⟨wd676, wd14⟩ (mk_get (tl86 hT)) rfl rfl (s_X7_readPiece_v0 g hT I6 R (by first | omega | assumption | exact (iv_rng _).2 | exact (iv_rng _).1 | decide)) rfl rfl (Nat.le_of_ble_eq_true rfl) (by decide) rfl rfl 22 rfl (fun rv h1 q29 => ?_)
        obtain ⟨m30, n31, v34, rfl, rfl, I32, K33, pv34, qv34, rv34⟩ := q29
        replace rv34 : (m4 86 3).toInt ≤ (m30 86 3).toInt ∧ (m30 86 3).toInt ≤ (m30 86 2).toInt ∧ (m30 86 2).toInt = (m4 86 2).toInt := rv34
        have K33c := K33
        have K33 := K7.trans (K33.sub (fun _ _ q => q))
        show PV _ _ _ _ _ _ _ 22 [.ref 86, .int 0, .int v2, .int y3] [.int v34] _
        refine pv_if_ne (M := mX7_readPart) (tgt := 27) dX7_readPart_22 25 rfl (by decide) (fun c35 => ?_) (fun c35 => ?_)
        · have c35 := iv_ne (X := v34.toInt) (Y := 0) c35 rfl (by decide)
          refine pv_aload_n (M := mX7_readPart) 0 dX7_readPart_27 28 rfl rfl rfl ?_
          refine pv_callv (M := mX7_readPart) (as := []) (st := []) (kc2 := 0) (ks2 := 0) dX7_readPart_28 wd527 YX7_peek ⟨wd529, wd2⟩ (mk_get (tl86 hT)) rfl rfl (s_X7_peek g hT I32 R) rfl rfl (Nat.le_of_ble_eq_true rfl) (by decide) rfl rfl 31 rfl (fun rv h1 q36 => ?_)
          obtain ⟨v37, rfl, rfl, pv37, qv37, rv37⟩ := q36
          replace rv37 : v37.toInt = -1 ∨ (m30 86 3).toInt < (m30 86 2).toInt := rv37
          show PV _ _ _ _ _ _ _ 31 [.ref 86, .int 0, .int v2, .int y3] [.int v37] _
          refine pv_bipush (M := mX7_readPart) (v := 38) dX7_readPart_31 33 rfl (by decide) ?_
          refine pv_icmp_eq (M := mX7_readPart) (tgt := 39) dX7_readPart_33 36 rfl (by decide) (fun c38 => ?_) (fun c38 => ?_)
          · have c38 := iv_eq (X := v37.toInt) (Y := 38) c38 rfl (by decide)
            refine pv_aload_n (M := mX7_readPart) 0 dX7_readPart_39 40 rfl rfl rfl ?_
            refine mv_get (M := mX7_readPart) (v := .ref lb) dX7_readPart_40 FX7 1 wd281 (by decide) (tl86 hT) rfl R.2.2.2.1 43 rfl ?_
            refine pv_bipush (M := mX7_readPart) (v := 38) dX7_readPart_43 45 rfl (by decide) ?_
            refine pv_iconst (M := mX7_readPart) (v := (-1)) dX7_readPart_45 46 rfl (by decide) ?_
            refine pv_callv (M := mX7_readPart) (as := [.int 38, .int (-1)]) (st := []) (kc2 := 0) (ks2 := 0) dX7_readPart_46 wd567 YX6_emit ⟨wd568, wd569⟩ (mk_get R.2.2.2.2.2.2.1) rfl rfl (s_X6_emit g hT I32 lb R.2.2.2.2.2 38 (-1) (by decide) (by decide)) rfl rfl (Nat.le_of_ble_eq_true rfl) (by decide) rfl rfl 49 rfl (fun rv h1 q39 => ?_)
            obtain ⟨m40, n41, rfl, rfl, I42, K43, rm40⟩ := q39
            have K43c := K43
            have w44 : (m40 86 3).toInt = (m30 86 3).toInt := congrArg Int32.toInt (K43 86 3 (wr_out (by omega)))
            have w45 : (m40 86 2).toInt = (m30 86 2).toInt := congrArg Int32.toInt (K43 86 2 (wr_out (by omega)))
            have K43 := K33.trans (K43.sub (wr_wr (by omega) (by omega)))
            show PV _ _ _ _ _ _ _ 49 [.ref 86, .int 0, .int v2, .int y3] [] _
            refine pv_aload_n (M := mX7_readPart) 0 dX7_readPart_49 50 rfl rfl rfl ?_
            refine pv_dup (M := mX7_readPart) dX7_readPart_50 51 rfl rfl ?_
            refine iv_get (M := mX7_readPart) (l1 := 0) (l2 := 160) dX7_readPart_51 FX7 3 wd283 (by decide) (tl86 hT) rfl I42 rfl 54 rfl (fun v46 ev46 pv46 qv46 => ?_)
            have wv46 : v46.toInt = (m40 86 3).toInt := congrArg Int32.toInt ev46
            refine pv_iconst (M := mX7_readPart) (v := 1) dX7_readPart_54 55 rfl (by decide) ?_
            refine iv_iadd (M := mX7_readPart) (X := v46.toInt) (Y := 1) dX7_readPart_55 56 rfl rfl (by decide) (by omega) (by omega) (fun v47 ev47 => ?_)
            refine iv_put (M := mX7_readPart) (l1 := 0) (l2 := 160) dX7_readPart_56 FX7 3 wd283 (by decide) rfl (tl86 hT) rfl rfl rfl I42 rfl (by omega) (by omega) 59 rfl (fun m48 e51 I49 => ?_)
            have K50 := K43.set e51 (wl_r (by omega) (by omega))
            have w52 : (m48 86 3).toInt = v47.toInt := by rw [e51, up2_eq]
            have w53 : (m48 86 2).toInt = (m40 86 2).toInt := by rw [e51, up2_ne (by omega)]
            refine iv_inc (M := mX7_readPart) (C := 1) dX7_readPart_59 62 rfl rfl (by decide) rfl rfl (by decide) (by omega) (by omega) (fun v54 ev54 => ?_)
            show PV _ _ _ _ _ _ _ 62 [.ref 86, .int 0, .int v2, .int v54] [] _
            refine pv_goto (M := mX7_readPart) (tgt := 10) dX7_readPart_62 (by decide) ?_
            exact ih10 v54 m48 n41 (by first | omega | assumption | exact (iv_rng _).2 | exact (iv_rng _).1 | decide) (by first | omega | assumption | exact (iv_rng _).2 | exact (iv_rng _).1 | decide) (by first | omega | assumption | (show (m 86 3).toInt ≤ (m48 86 3).toInt; omega) | decide) (by first | omega | assumption | (show (m48 86 3).toInt ≤ (m48 86 2).toInt; omega) | decide) (by first | omega | assumption | (show (m48 86 2).toInt = (m 86 2).toInt; omega) | decide) I49 K50 (by omega)
          · have c38 := iv_ne (X := v37.toInt) (Y := 38) c38 rfl (by decide)
            refine pv_goto (M := mX7_readPart) (tgt := 65) dX7_readPart_36 (by decide) ?_
            refine pv_aload_n (M := mX7_readPart) 0 dX7_readPart_65 66 rfl rfl rfl ?_
            refine mv_get (M := mX7_readPart) (v := .ref lb) dX7_readPart_66 FX7 1 wd281 (by decide) (tl86 hT) rfl R.2.2.2.1 69 rfl ?_
            refine pv_bipush (M := mX7_readPart) (v := 38) dX7_readPart_69 71 rfl (by decide) ?_
            refine pv_iload_n (M := mX7_readPart) 2 dX7_readPart_71 72 rfl rfl rfl ?_
            refine pv_callv (M := mX7_readPart) (as := [.int 38, .int v2]) (st := []) (kc2 := 0) (ks2 := 0) dX7_readPart_72 wd678 YX6_aimLeaps ⟨wd679, wd680⟩ (mk_get R.2.2.2.2.2.2.1) rfl rfl (s_X6_aimLeaps g hT I32 lb R.2.2.2.2.2 38 v2) rfl rfl (Nat.le_of_ble_eq_true rfl) (by decide) rfl rfl 75 rfl (fun rv h1 q55 => ?_)
            obtain ⟨m56, n57, rfl, rfl, I58, K59, rm56⟩ := q55
            have K59c := K59
            have w60 : (m56 86 3).toInt = (m30 86 3).toInt := congrArg Int32.toInt (K59 86 3 (wr_out (by omega)))
            have w61 : (m56 86 2).toInt = (m30 86 2).toInt := congrArg Int32.toInt (K59 86 2 (wr_out (by omega)))
            have K59 := K33.trans (K59.sub (wr_wr (by omega) (by omega)))
            show PV _ _ _ _ _ _ _ 75 [.ref 86, .int 0, .int v2, .int y3] [] _
            refine pv_iconst (M := mX7_readPart) (v := 1) dX7_readPart_75 76 rfl (by decide) ?_
            have z62 : (1 : Int32).toInt = 1 := by decide
            exact pv_iret (M := mX7_readPart) dX7_readPart_76 rfl rfl ⟨_, _, _, rfl, rfl, I58, K59, by decide, by decide, (by refine ⟨?_, ?_, ?_⟩ <;> omega)⟩
        · have c35 := iv_eq (X := v34.toInt) (Y := 0) c35 rfl (by decide)
          refine pv_iconst (M := mX7_readPart) (v := 0) dX7_readPart_25 26 rfl (by decide) ?_
          have z63 : (0 : Int32).toInt = 0 := by decide
          exact pv_iret (M := mX7_readPart) dX7_readPart_26 rfl rfl ⟨_, _, _, rfl, rfl, I32, K33, by decide, by decide, (by refine ⟨?_, ?_, ?_⟩ <;> omega)⟩
  have z64 : (0 : Int32).toInt = 0 := by decide
  exact lp9 (((160 - 0) : Int).toNat + 1) 0 m n (by first | omega | assumption | exact (iv_rng _).2 | exact (iv_rng _).1 | decide) (by first | omega | assumption | exact (iv_rng _).2 | exact (iv_rng _).1 | decide) (by first | omega | assumption | (show (m 86 3).toInt ≤ (m 86 3).toInt; omega) | decide) (by first | omega | assumption | (show (m 86 3).toInt ≤ (m 86 2).toInt; omega) | decide) (by first | omega | assumption | (show (m 86 2).toInt = (m 86 2).toInt; omega) | decide) I Kp (by omega)

set_option maxHeartbeats 2000000 in
set_option maxRecDepth 20000 in
theorem s_X7_readCondition_v0 (g : pv_G) {T : List mv_T} {m : Nat → Nat → Int32} {n : Nat → Nat → Int64} {r : Nat → Value} {la lb : Nat} (hT : TX T) (I : IV BB m) (R : RX T r la lb) (hp0 : (m 86 3).toInt ≤ (m 86 2).toInt) : PM g mX7_readCondition yX7_readCondition (sqI T BB (wl [(77, 96, none)]) r m 0 1 (fun m' v => (m 86 3).toInt ≤ (m' 86 3).toInt ∧ (m' 86 3).toInt ≤ (m' 86 2).toInt ∧ (m' 86 2).toInt = (m 86 2).toInt)) 28 0 0 [.ref 86, .int 0] (mk T m n r) := by
  have Kp : fr (wl [(77, 96, none)]) m m := fr.rf
  have R0 := R
  have zR := R.2.2.2.2.1.1
  have zR2 := R.2.2.2.2.2.1
  have z65 : 0 ≤ (m 86 3).toInt ∧ (m 86 3).toInt ≤ 160 := I 86 3
  have z66 : 0 ≤ (m 86 2).toInt ∧ (m 86 2).toInt ≤ 160 := I 86 2
  refine PM.of 2 (lo := [.ref 86, .int 0, pv_U, pv_U]) rfl (by decide) rfl rfl (Nat.le_of_ble_eq_true rfl) ?_
  refine pv_aload_n (M := mX7_readCondition) 0 dX7_readCondition_0 1 rfl rfl rfl ?_
  refine mv_get (M := mX7_readCondition) (v := .ref lb) dX7_readCondition_1 FX7 1 wd281 (by decide) (tl86 hT) rfl R.2.2.2.1 4 rfl ?_
  refine pv_callv (M := mX7_readCondition) (as := []) (st := []) (kc2 := 0) (ks2 := 0) dX7_readCondition_4 wd666 YX6_steps ⟨wd667, wd668⟩ (mk_get R.2.2.2.2.2.2.1) rfl rfl (s_X6_steps g hT I lb R.2.2.2.2.2) rfl rfl (Nat.le_of_ble_eq_true rfl) (by decide) rfl rfl 7 rfl (fun rv h1 q1 => ?_)
  obtain ⟨v2, rfl, rfl, pv2, qv2, rv2⟩ := q1
  show PV _ _ _ _ _ _ _ 7 [.ref 86, .int 0, pv_U, pv_U] [.int v2] _
  refine pv_istore_n (M := mX7_readCondition) 2 (lo2 := [.ref 86, .int 0, .int v2, pv_U]) dX7_readCondition_7 8 rfl rfl (by decide) rfl rfl ?_
  refine pv_iconst (M := mX7_readCondition) (v := 0) dX7_readCondition_8 9 rfl (by decide) ?_
  refine pv_istore_n (M := mX7_readCondition) 3 (lo2 := [.ref 86, .int 0, .int v2, .int 0]) dX7_readCondition_9 10 rfl rfl (by decide) rfl rfl ?_
  have lp9 : ∀ (fuel8 : Nat) (y3 : Int32) (m4 : Nat → Nat → Int32) (n5 : Nat → Nat → Int64), (0 ≤ y3.toInt) → (y3.toInt ≤ 160) → ((m 86 3).toInt ≤ (m4 86 3).toInt) → ((m4 86 3).toInt ≤ (m4 86 2).toInt) → ((m4 86 2).toInt = (m 86 2).toInt) → IV BB m4 → fr (wl [(77, 96, none)]) m m4 → ((160 - y3.toInt) : Int).toNat < fuel8 → PV none g mX7_readCondition (sqI T BB (wl [(77, 96, none)]) r m 0 1 (fun m' v => (m 86 3).toInt ≤ (m' 86 3).toInt ∧ (m' 86 3).toInt ≤ (m' 86 2).toInt ∧ (m' 86 2).toInt = (m 86 2).toInt)) 28 0 0 10 [.ref 86, .int 0, .int v2, .int y3] [] (mk T m4 n5 r) := by
    intro fuel8
    induction fuel8 with
    | zero => intro y3 m4 n5 b11 b12 b13 b14 b15 I6 K7 z16; omega
    | succ fuel8 ih10 =>
      intro y3 m4 n5 b11 b12 b13 b14 b15 I6 K7 z16
      have z17 : 0 ≤ (m4 86 3).toInt ∧ (m4 86 3).toInt ≤ 160 := I6 86 3
      have z18 : 0 ≤ (m4 86 2).toInt ∧ (m4 86 2).toInt ≤ 160 := I6 86 2
      refine pv_iload_n (M := mX7_readCondition) 3 dX7_readCondition_10 11 rfl rfl rfl ?_
      refine pv_sipush (M := mX7_readCondition) (v := 160) dX7_readCondition_11 14 rfl (by decide) ?_
      refine pv_icmp_ge (M := mX7_readCondition) (tgt := 65) dX7_readCondition_14 17 rfl (by decide) (fun c19 => ?_) (fun c19 => ?_)
      · have c19 := iv_le (X := 160) (Y := y3.toInt) c19 (by decide) rfl
        refine pv_aload_n (M := mX7_readCondition) 0 dX7_readCondition_65 66 rfl rfl rfl ?_
        refine mv_get (M := mX7_readCondition) (v := .ref lb) dX7_readCondition_66 FX7 1 wd281 (by decide) (tl86 hT) rfl R.2.2.2.1 69 rfl ?_
        refine pv_bipush (M := mX7_readCondition) (v := 124) dX7_readCondition_69 71 rfl (by decide) ?_
        refine pv_iload_n (M := mX7_readCondition) 2 dX7_readCondition_71 72 rfl rfl rfl ?_
        refine pv_callv (M := mX7_readCondition) (as := [.int 124, .int v2]) (st := []) (kc2 := 0) (ks2 := 0) dX7_readCondition_72 wd678 YX6_aimLeaps ⟨wd679, wd680⟩ (mk_get R.2.2.2.2.2.2.1) rfl rfl (s_X6_aimLeaps g hT I6 lb R.2.2.2.2.2 124 v2) rfl rfl (Nat.le_of_ble_eq_true rfl) (by decide) rfl rfl 75 rfl (fun rv h1 q20 => ?_)
        obtain ⟨m21, n22, rfl, rfl, I23, K24, rm21⟩ := q20
        have K24c := K24
        have w25 : (m21 86 3).toInt = (m4 86 3).toInt := congrArg Int32.toInt (K24 86 3 (wr_out (by omega)))
        have w26 : (m21 86 2).toInt = (m4 86 2).toInt := congrArg Int32.toInt (K24 86 2 (wr_out (by omega)))
        have K24 := K7.trans (K24.sub (wr_wr (by omega) (by omega)))
        show PV _ _ _ _ _ _ _ 75 [.ref 86, .int 0, .int v2, .int y3] [] _
        refine pv_iconst (M := mX7_readCondition) (v := 1) dX7_readCondition_75 76 rfl (by decide) ?_
        have z27 : (1 : Int32).toInt = 1 := by decide
        exact pv_iret (M := mX7_readCondition) dX7_readCondition_76 rfl rfl ⟨_, _, _, rfl, rfl, I23, K24, by decide, by decide, (by refine ⟨?_, ?_, ?_⟩ <;> omega)⟩
      · have c19 := iv_nle (X := 160) (Y := y3.toInt) c19 (by decide) rfl
        refine pv_aload_n (M := mX7_readCondition) 0 dX7_readCondition_17 18 rfl rfl rfl ?_
        refine pv_iload_n (M := mX7_readCondition) 1 dX7_readCondition_18 19 rfl rfl rfl ?_
        have z28 : (0 : Int32).toInt = 0 := by decide
        refine pv_callv (M := mX7_readCondition) (as := [.int 0]) (st := []) (kc2 := 0) (ks2 := 0) dX7_readCondition_19 wd670 YX7_readPart ⟨wd672, wd13⟩ (mk_get (tl86 hT)) rfl rfl (s_X7_readPart_v0 g hT I6 R (by first | omega | assumption | exact (iv_rng _).2 | exact (iv_rng _).1 | decide)) rfl rfl (Nat.le_of_ble_eq_true rfl) (by decide) rfl rfl 22 rfl (fun rv h1 q29 => ?_)
        obtain ⟨m30, n31, v34, rfl, rfl, I32, K33, pv34, qv34, rv34⟩ := q29
        replace rv34 : (m4 86 3).toInt ≤ (m30 86 3).toInt ∧ (m30 86 3).toInt ≤ (m30 86 2).toInt ∧ (m30 86 2).toInt = (m4 86 2).toInt := rv34
        have K33c := K33
        have K33 := K7.trans (K33.sub (fun _ _ q => q))
        show PV _ _ _ _ _ _ _ 22 [.ref 86, .int 0, .int v2, .int y3] [.int v34] _
        refine pv_if_ne (M := mX7_readCondition) (tgt := 27) dX7_readCondition_22 25 rfl (by decide) (fun c35 => ?_) (fun c35 => ?_)
        · have c35 := iv_ne (X := v34.toInt) (Y := 0) c35 rfl (by decide)
          refine pv_aload_n (M := mX7_readCondition) 0 dX7_readCondition_27 28 rfl rfl rfl ?_
          refine pv_callv (M := mX7_readCondition) (as := []) (st := []) (kc2 := 0) (ks2 := 0) dX7_readCondition_28 wd527 YX7_peek ⟨wd529, wd2⟩ (mk_get (tl86 hT)) rfl rfl (s_X7_peek g hT I32 R) rfl rfl (Nat.le_of_ble_eq_true rfl) (by decide) rfl rfl 31 rfl (fun rv h1 q36 => ?_)
          obtain ⟨v37, rfl, rfl, pv37, qv37, rv37⟩ := q36
          replace rv37 : v37.toInt = -1 ∨ (m30 86 3).toInt < (m30 86 2).toInt := rv37
          show PV _ _ _ _ _ _ _ 31 [.ref 86, .int 0, .int v2, .int y3] [.int v37] _
          refine pv_bipush (M := mX7_readCondition) (v := 124) dX7_readCondition_31 33 rfl (by decide) ?_
          refine pv_icmp_eq (M := mX7_readCondition) (tgt := 39) dX7_readCondition_33 36 rfl (by decide) (fun c38 => ?_) (fun c38 => ?_)
          · have c38 := iv_eq (X := v37.toInt) (Y := 124) c38 rfl (by decide)
            refine pv_aload_n (M := mX7_readCondition) 0 dX7_readCondition_39 40 rfl rfl rfl ?_
            refine mv_get (M := mX7_readCondition) (v := .ref lb) dX7_readCondition_40 FX7 1 wd281 (by decide) (tl86 hT) rfl R.2.2.2.1 43 rfl ?_
            refine pv_bipush (M := mX7_readCondition) (v := 124) dX7_readCondition_43 45 rfl (by decide) ?_
            refine pv_iconst (M := mX7_readCondition) (v := (-1)) dX7_readCondition_45 46 rfl (by decide) ?_
            refine pv_callv (M := mX7_readCondition) (as := [.int 124, .int (-1)]) (st := []) (kc2 := 0) (ks2 := 0) dX7_readCondition_46 wd567 YX6_emit ⟨wd568, wd569⟩ (mk_get R.2.2.2.2.2.2.1) rfl rfl (s_X6_emit g hT I32 lb R.2.2.2.2.2 124 (-1) (by decide) (by decide)) rfl rfl (Nat.le_of_ble_eq_true rfl) (by decide) rfl rfl 49 rfl (fun rv h1 q39 => ?_)
            obtain ⟨m40, n41, rfl, rfl, I42, K43, rm40⟩ := q39
            have K43c := K43
            have w44 : (m40 86 3).toInt = (m30 86 3).toInt := congrArg Int32.toInt (K43 86 3 (wr_out (by omega)))
            have w45 : (m40 86 2).toInt = (m30 86 2).toInt := congrArg Int32.toInt (K43 86 2 (wr_out (by omega)))
            have K43 := K33.trans (K43.sub (wr_wr (by omega) (by omega)))
            show PV _ _ _ _ _ _ _ 49 [.ref 86, .int 0, .int v2, .int y3] [] _
            refine pv_aload_n (M := mX7_readCondition) 0 dX7_readCondition_49 50 rfl rfl rfl ?_
            refine pv_dup (M := mX7_readCondition) dX7_readCondition_50 51 rfl rfl ?_
            refine iv_get (M := mX7_readCondition) (l1 := 0) (l2 := 160) dX7_readCondition_51 FX7 3 wd283 (by decide) (tl86 hT) rfl I42 rfl 54 rfl (fun v46 ev46 pv46 qv46 => ?_)
            have wv46 : v46.toInt = (m40 86 3).toInt := congrArg Int32.toInt ev46
            refine pv_iconst (M := mX7_readCondition) (v := 1) dX7_readCondition_54 55 rfl (by decide) ?_
            refine iv_iadd (M := mX7_readCondition) (X := v46.toInt) (Y := 1) dX7_readCondition_55 56 rfl rfl (by decide) (by omega) (by omega) (fun v47 ev47 => ?_)
            refine iv_put (M := mX7_readCondition) (l1 := 0) (l2 := 160) dX7_readCondition_56 FX7 3 wd283 (by decide) rfl (tl86 hT) rfl rfl rfl I42 rfl (by omega) (by omega) 59 rfl (fun m48 e51 I49 => ?_)
            have K50 := K43.set e51 (wl_r (by omega) (by omega))
            have w52 : (m48 86 3).toInt = v47.toInt := by rw [e51, up2_eq]
            have w53 : (m48 86 2).toInt = (m40 86 2).toInt := by rw [e51, up2_ne (by omega)]
            refine iv_inc (M := mX7_readCondition) (C := 1) dX7_readCondition_59 62 rfl rfl (by decide) rfl rfl (by decide) (by omega) (by omega) (fun v54 ev54 => ?_)
            show PV _ _ _ _ _ _ _ 62 [.ref 86, .int 0, .int v2, .int v54] [] _
            refine pv_goto (M := mX7_readCondition) (tgt := 10) dX7_readCondition_62 (by decide) ?_
            exact ih10 v54 m48 n41 (by first | omega | assumption | exact (iv_rng _).2 | exact (iv_rng _).1 | decide) (by first | omega | assumption | exact (iv_rng _).2 | exact (iv_rng _).1 | decide) (by first | omega | assumption | (show (m 86 3).toInt ≤ (m48 86 3).toInt; omega) | decide) (by first | omega | assumption | (show (m48 86 3).toInt ≤ (m48 86 2).toInt; omega) | decide) (by first | omega | assumption | (show (m48 86 2).toInt = (m 86 2).toInt; omega) | decide) I49 K50 (by omega)
          · have c38 := iv_ne (X := v37.toInt) (Y := 124) c38 rfl (by decide)
            refine pv_goto (M := mX7_readCondition) (tgt := 65) dX7_readCondition_36 (by decide) ?_
            refine pv_aload_n (M := mX7_readCondition) 0 dX7_readCondition_65 66 rfl rfl rfl ?_
            refine mv_get (M := mX7_readCondition) (v := .ref lb) dX7_readCondition_66 FX7 1 wd281 (by decide) (tl86 hT) rfl R.2.2.2.1 69 rfl ?_
            refine pv_bipush (M := mX7_readCondition) (v := 124) dX7_readCondition_69 71 rfl (by decide) ?_
            refine pv_iload_n (M := mX7_readCondition) 2 dX7_readCondition_71 72 rfl rfl rfl ?_
            refine pv_callv (M := mX7_readCondition) (as := [.int 124, .int v2]) (st := []) (kc2 := 0) (ks2 := 0) dX7_readCondition_72 wd678 YX6_aimLeaps ⟨wd679, wd680⟩ (mk_get R.2.2.2.2.2.2.1) rfl rfl (s_X6_aimLeaps g hT I32 lb R.2.2.2.2.2 124 v2) rfl rfl (Nat.le_of_ble_eq_true rfl) (by decide) rfl rfl 75 rfl (fun rv h1 q55 => ?_)
            obtain ⟨m56, n57, rfl, rfl, I58, K59, rm56⟩ := q55
            have K59c := K59
            have w60 : (m56 86 3).toInt = (m30 86 3).toInt := congrArg Int32.toInt (K59 86 3 (wr_out (by omega)))
            have w61 : (m56 86 2).toInt = (m30 86 2).toInt := congrArg Int32.toInt (K59 86 2 (wr_out (by omega)))
            have K59 := K33.trans (K59.sub (wr_wr (by omega) (by omega)))
            show PV _ _ _ _ _ _ _ 75 [.ref 86, .int 0, .int v2, .int y3] [] _
            refine pv_iconst (M := mX7_readCondition) (v := 1) dX7_readCondition_75 76 rfl (by decide) ?_
            have z62 : (1 : Int32).toInt = 1 := by decide
            exact pv_iret (M := mX7_readCondition) dX7_readCondition_76 rfl rfl ⟨_, _, _, rfl, rfl, I58, K59, by decide, by decide, (by refine ⟨?_, ?_, ?_⟩ <;> omega)⟩
        · have c35 := iv_eq (X := v34.toInt) (Y := 0) c35 rfl (by decide)
          refine pv_iconst (M := mX7_readCondition) (v := 0) dX7_readCondition_25 26 rfl (by decide) ?_
          have z63 : (0 : Int32).toInt = 0 := by decide
          exact pv_iret (M := mX7_readCondition) dX7_readCondition_26 rfl rfl ⟨_, _, _, rfl, rfl, I32, K33, by decide, by decide, (by refine ⟨?_, ?_, ?_⟩ <;> omega)⟩
  have z64 : (0 : Int32).toInt = 0 := by decide
  exact lp9 (((160 - 0) : Int).toNat + 1) 0 m n (by first | omega | assumption | exact (iv_rng _).2 | exact (iv_rng _).1 | decide) (by first | omega | assumption | exact (iv_rng _).2 | exact (iv_rng _).1 | decide) (by first | omega | assumption | (show (m 86 3).toInt ≤ (m 86 3).toInt; omega) | decide) (by first | omega | assumption | (show (m 86 3).toInt ≤ (m 86 2).toInt; omega) | decide) (by first | omega | assumption | (show (m 86 2).toInt = (m 86 2).toInt; omega) | decide) I Kp (by omega)

set_option maxHeartbeats 2000000 in
set_option maxRecDepth 20000 in
theorem s_X7_readClause (g : pv_G) {T : List mv_T} {m : Nat → Nat → Int32} {n : Nat → Nat → Int64} {r : Nat → Value} {la lb : Nat} (hT : TX T) (I : IV BB m) (R : RX T r la lb) (x0 : Int32) (hp0 : (m 86 3).toInt ≤ (m 86 2).toInt) : PM g mX7_readClause yX7_readClause (sqI T BB (wl [(77, 96, none)]) r m 0 1 (fun m' v => (m 86 3).toInt ≤ (m' 86 3).toInt ∧ (m' 86 3).toInt ≤ (m' 86 2).toInt ∧ (m' 86 2).toInt = (m 86 2).toInt)) 26 0 0 [.ref 86, .int x0] (mk T m n r) := by
  have Kp : fr (wl [(77, 96, none)]) m m := fr.rf
  have R0 := R
  have zR := R.2.2.2.2.1.1
  have zR2 := R.2.2.2.2.2.1
  have z153 : 0 ≤ (m 86 3).toInt ∧ (m 86 3).toInt ≤ 160 := I 86 3
  have z154 : 0 ≤ (m 86 2).toInt ∧ (m 86 2).toInt ≤ 160 := I 86 2
  refine PM.of 1 (lo := [.ref 86, .int x0, pv_U]) rfl (by decide) rfl rfl (Nat.le_of_ble_eq_true rfl) ?_
  refine pv_aload_n (M := mX7_readClause) 0 dX7_readClause_0 1 rfl rfl rfl ?_
  refine pv_callv (M := mX7_readClause) (as := []) (st := []) (kc2 := 0) (ks2 := 0) dX7_readClause_1 wd527 YX7_peek ⟨wd529, wd2⟩ (mk_get (tl86 hT)) rfl rfl (s_X7_peek g hT I R) rfl rfl (Nat.le_of_ble_eq_true rfl) (by decide) rfl rfl 4 rfl (fun rv h1 q1 => ?_)
  obtain ⟨v2, rfl, rfl, pv2, qv2, rv2⟩ := q1
  replace rv2 : v2.toInt = -1 ∨ (m 86 3).toInt < (m 86 2).toInt := rv2
  show PV _ _ _ _ _ _ _ 4 [.ref 86, .int x0, pv_U] [.int v2] _
  refine pv_istore_n (M := mX7_readClause) 2 (lo2 := [.ref 86, .int x0, .int v2]) dX7_readClause_4 5 rfl rfl (by decide) rfl rfl ?_
  refine pv_iload_n (M := mX7_readClause) 2 dX7_readClause_5 6 rfl rfl rfl ?_
  refine pv_bipush (M := mX7_readClause) (v := 110) dX7_readClause_6 8 rfl (by decide) ?_
  refine pv_icmp_eq (M := mX7_readClause) (tgt := 23) dX7_readClause_8 11 rfl (by decide) (fun c3 => ?_) (fun c3 => ?_)
  · have c3 := iv_eq (X := v2.toInt) (Y := 110) c3 rfl (by decide)
    refine pv_iload_n (M := mX7_readClause) 1 dX7_readClause_23 24 rfl rfl rfl ?_
    refine pv_bipush (M := mX7_readClause) (v := 12) dX7_readClause_24 26 rfl (by decide) ?_
    refine pv_icmp_lt (M := mX7_readClause) (tgt := 35) dX7_readClause_26 29 rfl (by decide) (fun c4 => ?_) (fun c4 => ?_)
    · have c4 := iv_lt (X := x0.toInt) (Y := 12) c4 rfl (by decide)
      refine pv_aload_n (M := mX7_readClause) 0 dX7_readClause_35 36 rfl rfl rfl ?_
      refine pv_dup (M := mX7_readClause) dX7_readClause_36 37 rfl rfl ?_
      refine iv_get (M := mX7_readClause) (l1 := 0) (l2 := 160) dX7_readClause_37 FX7 3 wd283 (by decide) (tl86 hT) rfl I rfl 40 rfl (fun v5 ev5 pv5 qv5 => ?_)
      have wv5 : v5.toInt = (m 86 3).toInt := congrArg Int32.toInt ev5
      refine pv_iconst (M := mX7_readClause) (v := 1) dX7_readClause_40 41 rfl (by decide) ?_
      refine iv_iadd (M := mX7_readClause) (X := v5.toInt) (Y := 1) dX7_readClause_41 42 rfl rfl (by decide) (by omega) (by omega) (fun v6 ev6 => ?_)
      refine iv_put (M := mX7_readClause) (l1 := 0) (l2 := 160) dX7_readClause_42 FX7 3 wd283 (by decide) rfl (tl86 hT) rfl rfl rfl I rfl (by omega) (by omega) 45 rfl (fun m7 e10 I8 => ?_)
      have K9 := Kp.set e10 (wl_r (by omega) (by omega))
      have w11 : (m7 86 3).toInt = v6.toInt := by rw [e10, up2_eq]
      have w12 : (m7 86 2).toInt = (m 86 2).toInt := by rw [e10, up2_ne (by omega)]
      refine pv_aload_n (M := mX7_readClause) 0 dX7_readClause_45 46 rfl rfl rfl ?_
      refine mv_get (M := mX7_readClause) (v := .ref lb) dX7_readClause_46 FX7 1 wd281 (by decide) (tl86 hT) rfl R.2.2.2.1 49 rfl ?_
      refine pv_iload_n (M := mX7_readClause) 2 dX7_readClause_49 50 rfl rfl rfl ?_
      refine pv_callv (M := mX7_readClause) (as := [.int v2]) (st := []) (kc2 := 0) (ks2 := 0) dX7_readClause_50 wd535 YX6_beginClause ⟨wd536, wd537⟩ (mk_get R.2.2.2.2.2.2.1) rfl rfl (s_X6_beginClause g hT I8 lb R.2.2.2.2.2 v2) rfl rfl (Nat.le_of_ble_eq_true rfl) (by decide) rfl rfl 53 rfl (fun rv h1 q13 => ?_)
      obtain ⟨m14, n15, rfl, rfl, I16, K17, rm14⟩ := q13
      have K17c := K17
      have w18 : (m14 86 3).toInt = (m7 86 3).toInt := congrArg Int32.toInt (K17 86 3 (wr_out (by omega)))
      have w19 : (m14 86 2).toInt = (m7 86 2).toInt := congrArg Int32.toInt (K17 86 2 (wr_out (by omega)))
      have K17 := K9.trans (K17.sub (wr_wr (by omega) (by omega)))
      show PV _ _ _ _ _ _ _ 53 [.ref 86, .int x0, .int v2] [] _
      refine pv_iload_n (M := mX7_readClause) 2 dX7_readClause_53 54 rfl rfl rfl ?_
      refine pv_bipush (M := mX7_readClause) (v := 112) dX7_readClause_54 56 rfl (by decide) ?_
      refine pv_icmp_ne (M := mX7_readClause) (tgt := 69) dX7_readClause_56 59 rfl (by decide) (fun c20 => ?_) (fun c20 => ?_)
      · have c20 := iv_ne (X := v2.toInt) (Y := 112) c20 rfl (by decide)
        refine pv_aload_n (M := mX7_readClause) 0 dX7_readClause_69 70 rfl rfl rfl ?_
        refine mv_get (M := mX7_readClause) (v := .ref lb) dX7_readClause_70 FX7 1 wd281 (by decide) (tl86 hT) rfl R.2.2.2.1 73 rfl ?_
        refine pv_callv (M := mX7_readClause) (as := []) (st := []) (kc2 := 0) (ks2 := 0) dX7_readClause_73 wd658 YX6_beginCondition ⟨wd659, wd660⟩ (mk_get R.2.2.2.2.2.2.1) rfl rfl (s_X6_beginCondition g hT I16 lb R.2.2.2.2.2) rfl rfl (Nat.le_of_ble_eq_true rfl) (by decide) rfl rfl 76 rfl (fun rv h1 q21 => ?_)
        obtain ⟨m22, n23, rfl, rfl, I24, K25, rm22⟩ := q21
        have K25c := K25
        have w26 : (m22 86 3).toInt = (m14 86 3).toInt := congrArg Int32.toInt (K25 86 3 (wr_out (by omega)))
        have w27 : (m22 86 2).toInt = (m14 86 2).toInt := congrArg Int32.toInt (K25 86 2 (wr_out (by omega)))
        have K25 := K17.trans (K25.sub (wr_wr (by omega) (by omega)))
        show PV _ _ _ _ _ _ _ 76 [.ref 86, .int x0, .int v2] [] _
        refine pv_aload_n (M := mX7_readClause) 0 dX7_readClause_76 77 rfl rfl rfl ?_
        refine pv_bipush (M := mX7_readClause) (v := 40) dX7_readClause_77 79 rfl (by decide) ?_
        have z28 : (40 : Int32).toInt = 40 := by decide
        refine pv_callv (M := mX7_readClause) (as := [.int 40]) (st := []) (kc2 := 0) (ks2 := 0) dX7_readClause_79 wd555 YX7_pass ⟨wd557, wd8⟩ (mk_get (tl86 hT)) rfl rfl (s_X7_pass g hT I24 R 40 (by decide) (by decide) (by first | omega | assumption | exact (iv_rng _).2 | exact (iv_rng _).1 | decide)) rfl rfl (Nat.le_of_ble_eq_true rfl) (by decide) rfl rfl 82 rfl (fun rv h1 q29 => ?_)
        obtain ⟨m30, n31, v34, rfl, rfl, I32, K33, pv34, qv34, rv34⟩ := q29
        replace rv34 : (m22 86 3).toInt ≤ (m30 86 3).toInt ∧ (m30 86 3).toInt ≤ (m30 86 2).toInt ∧ (m30 86 2).toInt = (m22 86 2).toInt := rv34
        have K33c := K33
        have K33 := K25.trans (K33.sub (fun _ _ q => q))
        show PV _ _ _ _ _ _ _ 82 [.ref 86, .int x0, .int v2] [.int v34] _
        refine pv_if_eq (M := mX7_readClause) (tgt := 102) dX7_readClause_82 85 rfl (by decide) (fun c35 => ?_) (fun c35 => ?_)
        · have c35 := iv_eq (X := v34.toInt) (Y := 0) c35 rfl (by decide)
          refine pv_iconst (M := mX7_readClause) (v := 0) dX7_readClause_102 103 rfl (by decide) ?_
          have z36 : (0 : Int32).toInt = 0 := by decide
          exact pv_iret (M := mX7_readClause) dX7_readClause_103 rfl rfl ⟨_, _, _, rfl, rfl, I32, K33, by decide, by decide, (by refine ⟨?_, ?_, ?_⟩ <;> omega)⟩
        · have c35 := iv_ne (X := v34.toInt) (Y := 0) c35 rfl (by decide)
          refine pv_aload_n (M := mX7_readClause) 0 dX7_readClause_85 86 rfl rfl rfl ?_
          refine pv_iconst (M := mX7_readClause) (v := 1) dX7_readClause_86 87 rfl (by decide) ?_
          have z37 : (1 : Int32).toInt = 1 := by decide
          refine pv_callv (M := mX7_readClause) (as := [.int 1]) (st := []) (kc2 := 0) (ks2 := 0) dX7_readClause_87 wd662 YX7_readCondition ⟨wd664, wd12⟩ (mk_get (tl86 hT)) rfl rfl (s_X7_readCondition_v1 g hT I32 R (by first | omega | assumption | exact (iv_rng _).2 | exact (iv_rng _).1 | decide)) rfl rfl (Nat.le_of_ble_eq_true rfl) (by decide) rfl rfl 90 rfl (fun rv h1 q38 => ?_)
          obtain ⟨m39, n40, v43, rfl, rfl, I41, K42, pv43, qv43, rv43⟩ := q38
          replace rv43 : (m30 86 3).toInt ≤ (m39 86 3).toInt ∧ (m39 86 3).toInt ≤ (m39 86 2).toInt ∧ (m39 86 2).toInt = (m30 86 2).toInt := rv43
          have K42c := K42
          have K42 := K33.trans (K42.sub (fun _ _ q => q))
          show PV _ _ _ _ _ _ _ 90 [.ref 86, .int x0, .int v2] [.int v43] _
          refine pv_if_eq (M := mX7_readClause) (tgt := 102) dX7_readClause_90 93 rfl (by decide) (fun c44 => ?_) (fun c44 => ?_)
          · have c44 := iv_eq (X := v43.toInt) (Y := 0) c44 rfl (by decide)
            refine pv_iconst (M := mX7_readClause) (v := 0) dX7_readClause_102 103 rfl (by decide) ?_
            have z45 : (0 : Int32).toInt = 0 := by decide
            exact pv_iret (M := mX7_readClause) dX7_readClause_103 rfl rfl ⟨_, _, _, rfl, rfl, I41, K42, by decide, by decide, (by refine ⟨?_, ?_, ?_⟩ <;> omega)⟩
          · have c44 := iv_ne (X := v43.toInt) (Y := 0) c44 rfl (by decide)
            refine pv_aload_n (M := mX7_readClause) 0 dX7_readClause_93 94 rfl rfl rfl ?_
            refine pv_bipush (M := mX7_readClause) (v := 41) dX7_readClause_94 96 rfl (by decide) ?_
            have z46 : (41 : Int32).toInt = 41 := by decide
            refine pv_callv (M := mX7_readClause) (as := [.int 41]) (st := []) (kc2 := 0) (ks2 := 0) dX7_readClause_96 wd555 YX7_pass ⟨wd557, wd8⟩ (mk_get (tl86 hT)) rfl rfl (s_X7_pass g hT I41 R 41 (by decide) (by decide) (by first | omega | assumption | exact (iv_rng _).2 | exact (iv_rng _).1 | decide)) rfl rfl (Nat.le_of_ble_eq_true rfl) (by decide) rfl rfl 99 rfl (fun rv h1 q47 => ?_)
            obtain ⟨m48, n49, v52, rfl, rfl, I50, K51, pv52, qv52, rv52⟩ := q47
            replace rv52 : (m39 86 3).toInt ≤ (m48 86 3).toInt ∧ (m48 86 3).toInt ≤ (m48 86 2).toInt ∧ (m48 86 2).toInt = (m39 86 2).toInt := rv52
            have K51c := K51
            have K51 := K42.trans (K51.sub (fun _ _ q => q))
            show PV _ _ _ _ _ _ _ 99 [.ref 86, .int x0, .int v2] [.int v52] _
            refine pv_if_ne (M := mX7_readClause) (tgt := 104) dX7_readClause_99 102 rfl (by decide) (fun c53 => ?_) (fun c53 => ?_)
            · have c53 := iv_ne (X := v52.toInt) (Y := 0) c53 rfl (by decide)
              refine pv_aload_n (M := mX7_readClause) 0 dX7_readClause_104 105 rfl rfl rfl ?_
              refine mv_get (M := mX7_readClause) (v := .ref lb) dX7_readClause_105 FX7 1 wd281 (by decide) (tl86 hT) rfl R.2.2.2.1 108 rfl ?_
              refine pv_callv (M := mX7_readClause) (as := []) (st := []) (kc2 := 0) (ks2 := 0) dX7_readClause_108 wd683 YX6_endClause ⟨wd684, wd685⟩ (mk_get R.2.2.2.2.2.2.1) rfl rfl (s_X6_endClause g hT I50 lb R.2.2.2.2.2) rfl rfl (Nat.le_of_ble_eq_true rfl) (by decide) rfl rfl 111 rfl (fun rv h1 q54 => ?_)
              obtain ⟨m55, n56, rfl, rfl, I57, K58, rm55⟩ := q54
              have K58c := K58
              have w59 : (m55 86 3).toInt = (m48 86 3).toInt := congrArg Int32.toInt (K58 86 3 (wr_out (by omega)))
              have w60 : (m55 86 2).toInt = (m48 86 2).toInt := congrArg Int32.toInt (K58 86 2 (wr_out (by omega)))
              have K58 := K51.trans (K58.sub (wr_wr (by omega) (by omega)))
              show PV _ _ _ _ _ _ _ 111 [.ref 86, .int x0, .int v2] [] _
              refine pv_iconst (M := mX7_readClause) (v := 1) dX7_readClause_111 112 rfl (by decide) ?_
              have z61 : (1 : Int32).toInt = 1 := by decide
              exact pv_iret (M := mX7_readClause) dX7_readClause_112 rfl rfl ⟨_, _, _, rfl, rfl, I57, K58, by decide, by decide, (by refine ⟨?_, ?_, ?_⟩ <;> omega)⟩
            · have c53 := iv_eq (X := v52.toInt) (Y := 0) c53 rfl (by decide)
              refine pv_iconst (M := mX7_readClause) (v := 0) dX7_readClause_102 103 rfl (by decide) ?_
              have z62 : (0 : Int32).toInt = 0 := by decide
              exact pv_iret (M := mX7_readClause) dX7_readClause_103 rfl rfl ⟨_, _, _, rfl, rfl, I50, K51, by decide, by decide, (by refine ⟨?_, ?_, ?_⟩ <;> omega)⟩
      · have c20 := iv_eq (X := v2.toInt) (Y := 112) c20 rfl (by decide)
        omega
    · have c4 := iv_nlt (X := x0.toInt) (Y := 12) c4 rfl (by decide)
      refine pv_aload_n (M := mX7_readClause) 0 dX7_readClause_29 30 rfl rfl rfl ?_
      refine pv_iconst (M := mX7_readClause) (v := 4) dX7_readClause_30 31 rfl (by decide) ?_
      have z63 : (4 : Int32).toInt = 4 := by decide
      refine pv_callv (M := mX7_readClause) (as := [.int 4]) (st := []) (kc2 := 0) (ks2 := 0) dX7_readClause_31 wd531 YX7_fail ⟨wd533, wd3⟩ (mk_get (tl86 hT)) rfl rfl (s_X7_fail g hT I R 4 (by first | omega | assumption | exact (iv_rng _).2 | exact (iv_rng _).1 | decide)) rfl rfl (Nat.le_of_ble_eq_true rfl) (by decide) rfl rfl 34 rfl (fun rv h1 q64 => ?_)
      obtain ⟨m65, n66, v69, rfl, rfl, I67, K68, pv69, qv69, rv69⟩ := q64
      replace rv69 : v69.toInt = 0 ∧ (m 86 3).toInt ≤ (m65 86 3).toInt ∧ (m65 86 3).toInt ≤ (m65 86 2).toInt ∧ (m65 86 2).toInt = (m 86 2).toInt := rv69
      have K68c := K68
      have K68 := Kp.trans (K68.sub (fun _ _ q => q))
      show PV _ _ _ _ _ _ _ 34 [.ref 86, .int x0, .int v2] [.int v69] _
      exact pv_iret (M := mX7_readClause) dX7_readClause_34 rfl (iv_nz (by omega) (by omega)) ⟨_, _, _, rfl, rfl, I67, K68, by omega, by omega, (by refine ⟨?_, ?_, ?_⟩ <;> omega)⟩
  · have c3 := iv_ne (X := v2.toInt) (Y := 110) c3 rfl (by decide)
    refine pv_iload_n (M := mX7_readClause) 2 dX7_readClause_11 12 rfl rfl rfl ?_
    refine pv_bipush (M := mX7_readClause) (v := 112) dX7_readClause_12 14 rfl (by decide) ?_
    refine pv_icmp_eq (M := mX7_readClause) (tgt := 23) dX7_readClause_14 17 rfl (by decide) (fun c70 => ?_) (fun c70 => ?_)
    · have c70 := iv_eq (X := v2.toInt) (Y := 112) c70 rfl (by decide)
      refine pv_iload_n (M := mX7_readClause) 1 dX7_readClause_23 24 rfl rfl rfl ?_
      refine pv_bipush (M := mX7_readClause) (v := 12) dX7_readClause_24 26 rfl (by decide) ?_
      refine pv_icmp_lt (M := mX7_readClause) (tgt := 35) dX7_readClause_26 29 rfl (by decide) (fun c71 => ?_) (fun c71 => ?_)
      · have c71 := iv_lt (X := x0.toInt) (Y := 12) c71 rfl (by decide)
        refine pv_aload_n (M := mX7_readClause) 0 dX7_readClause_35 36 rfl rfl rfl ?_
        refine pv_dup (M := mX7_readClause) dX7_readClause_36 37 rfl rfl ?_
        refine iv_get (M := mX7_readClause) (l1 := 0) (l2 := 160) dX7_readClause_37 FX7 3 wd283 (by decide) (tl86 hT) rfl I rfl 40 rfl (fun v72 ev72 pv72 qv72 => ?_)
        have wv72 : v72.toInt = (m 86 3).toInt := congrArg Int32.toInt ev72
        refine pv_iconst (M := mX7_readClause) (v := 1) dX7_readClause_40 41 rfl (by decide) ?_
        refine iv_iadd (M := mX7_readClause) (X := v72.toInt) (Y := 1) dX7_readClause_41 42 rfl rfl (by decide) (by omega) (by omega) (fun v73 ev73 => ?_)
        refine iv_put (M := mX7_readClause) (l1 := 0) (l2 := 160) dX7_readClause_42 FX7 3 wd283 (by decide) rfl (tl86 hT) rfl rfl rfl I rfl (by omega) (by omega) 45 rfl (fun m74 e77 I75 => ?_)
        have K76 := Kp.set e77 (wl_r (by omega) (by omega))
        have w78 : (m74 86 3).toInt = v73.toInt := by rw [e77, up2_eq]
        have w79 : (m74 86 2).toInt = (m 86 2).toInt := by rw [e77, up2_ne (by omega)]
        refine pv_aload_n (M := mX7_readClause) 0 dX7_readClause_45 46 rfl rfl rfl ?_
        refine mv_get (M := mX7_readClause) (v := .ref lb) dX7_readClause_46 FX7 1 wd281 (by decide) (tl86 hT) rfl R.2.2.2.1 49 rfl ?_
        refine pv_iload_n (M := mX7_readClause) 2 dX7_readClause_49 50 rfl rfl rfl ?_
        refine pv_callv (M := mX7_readClause) (as := [.int v2]) (st := []) (kc2 := 0) (ks2 := 0) dX7_readClause_50 wd535 YX6_beginClause ⟨wd536, wd537⟩ (mk_get R.2.2.2.2.2.2.1) rfl rfl (s_X6_beginClause g hT I75 lb R.2.2.2.2.2 v2) rfl rfl (Nat.le_of_ble_eq_true rfl) (by decide) rfl rfl 53 rfl (fun rv h1 q80 => ?_)
        obtain ⟨m81, n82, rfl, rfl, I83, K84, rm81⟩ := q80
        have K84c := K84
        have w85 : (m81 86 3).toInt = (m74 86 3).toInt := congrArg Int32.toInt (K84 86 3 (wr_out (by omega)))
        have w86 : (m81 86 2).toInt = (m74 86 2).toInt := congrArg Int32.toInt (K84 86 2 (wr_out (by omega)))
        have K84 := K76.trans (K84.sub (wr_wr (by omega) (by omega)))
        show PV _ _ _ _ _ _ _ 53 [.ref 86, .int x0, .int v2] [] _
        refine pv_iload_n (M := mX7_readClause) 2 dX7_readClause_53 54 rfl rfl rfl ?_
        refine pv_bipush (M := mX7_readClause) (v := 112) dX7_readClause_54 56 rfl (by decide) ?_
        refine pv_icmp_ne (M := mX7_readClause) (tgt := 69) dX7_readClause_56 59 rfl (by decide) (fun c87 => ?_) (fun c87 => ?_)
        · have c87 := iv_ne (X := v2.toInt) (Y := 112) c87 rfl (by decide)
          omega
        · have c87 := iv_eq (X := v2.toInt) (Y := 112) c87 rfl (by decide)
          refine pv_aload_n (M := mX7_readClause) 0 dX7_readClause_59 60 rfl rfl rfl ?_
          refine pv_iconst (M := mX7_readClause) (v := 0) dX7_readClause_60 61 rfl (by decide) ?_
          have z88 : (0 : Int32).toInt = 0 := by decide
          refine pv_callv (M := mX7_readClause) (as := [.int 0]) (st := []) (kc2 := 0) (ks2 := 0) dX7_readClause_61 wd539 YX7_readSum ⟨wd541, wd4⟩ (mk_get (tl86 hT)) rfl rfl (s_X7_readSum_v0 g hT I83 R (by first | omega | assumption | exact (iv_rng _).2 | exact (iv_rng _).1 | decide)) rfl rfl (Nat.le_of_ble_eq_true rfl) (by decide) rfl rfl 64 rfl (fun rv h1 q89 => ?_)
          obtain ⟨m90, n91, v94, rfl, rfl, I92, K93, pv94, qv94, rv94⟩ := q89
          replace rv94 : (m81 86 3).toInt ≤ (m90 86 3).toInt ∧ (m90 86 3).toInt ≤ (m90 86 2).toInt ∧ (m90 86 2).toInt = (m81 86 2).toInt := rv94
          have K93c := K93
          have K93 := K84.trans (K93.sub (fun _ _ q => q))
          show PV _ _ _ _ _ _ _ 64 [.ref 86, .int x0, .int v2] [.int v94] _
          refine pv_if_ne (M := mX7_readClause) (tgt := 69) dX7_readClause_64 67 rfl (by decide) (fun c95 => ?_) (fun c95 => ?_)
          · have c95 := iv_ne (X := v94.toInt) (Y := 0) c95 rfl (by decide)
            refine pv_aload_n (M := mX7_readClause) 0 dX7_readClause_69 70 rfl rfl rfl ?_
            refine mv_get (M := mX7_readClause) (v := .ref lb) dX7_readClause_70 FX7 1 wd281 (by decide) (tl86 hT) rfl R.2.2.2.1 73 rfl ?_
            refine pv_callv (M := mX7_readClause) (as := []) (st := []) (kc2 := 0) (ks2 := 0) dX7_readClause_73 wd658 YX6_beginCondition ⟨wd659, wd660⟩ (mk_get R.2.2.2.2.2.2.1) rfl rfl (s_X6_beginCondition g hT I92 lb R.2.2.2.2.2) rfl rfl (Nat.le_of_ble_eq_true rfl) (by decide) rfl rfl 76 rfl (fun rv h1 q96 => ?_)
            obtain ⟨m97, n98, rfl, rfl, I99, K100, rm97⟩ := q96
            have K100c := K100
            have w101 : (m97 86 3).toInt = (m90 86 3).toInt := congrArg Int32.toInt (K100 86 3 (wr_out (by omega)))
            have w102 : (m97 86 2).toInt = (m90 86 2).toInt := congrArg Int32.toInt (K100 86 2 (wr_out (by omega)))
            have K100 := K93.trans (K100.sub (wr_wr (by omega) (by omega)))
            show PV _ _ _ _ _ _ _ 76 [.ref 86, .int x0, .int v2] [] _
            refine pv_aload_n (M := mX7_readClause) 0 dX7_readClause_76 77 rfl rfl rfl ?_
            refine pv_bipush (M := mX7_readClause) (v := 40) dX7_readClause_77 79 rfl (by decide) ?_
            have z103 : (40 : Int32).toInt = 40 := by decide
            refine pv_callv (M := mX7_readClause) (as := [.int 40]) (st := []) (kc2 := 0) (ks2 := 0) dX7_readClause_79 wd555 YX7_pass ⟨wd557, wd8⟩ (mk_get (tl86 hT)) rfl rfl (s_X7_pass g hT I99 R 40 (by decide) (by decide) (by first | omega | assumption | exact (iv_rng _).2 | exact (iv_rng _).1 | decide)) rfl rfl (Nat.le_of_ble_eq_true rfl) (by decide) rfl rfl 82 rfl (fun rv h1 q104 => ?_)
            obtain ⟨m105, n106, v109, rfl, rfl, I107, K108, pv109, qv109, rv109⟩ := q104
            replace rv109 : (m97 86 3).toInt ≤ (m105 86 3).toInt ∧ (m105 86 3).toInt ≤ (m105 86 2).toInt ∧ (m105 86 2).toInt = (m97 86 2).toInt := rv109
            have K108c := K108
            have K108 := K100.trans (K108.sub (fun _ _ q => q))
            show PV _ _ _ _ _ _ _ 82 [.ref 86, .int x0, .int v2] [.int v109] _
            refine pv_if_eq (M := mX7_readClause) (tgt := 102) dX7_readClause_82 85 rfl (by decide) (fun c110 => ?_) (fun c110 => ?_)
            · have c110 := iv_eq (X := v109.toInt) (Y := 0) c110 rfl (by decide)
              refine pv_iconst (M := mX7_readClause) (v := 0) dX7_readClause_102 103 rfl (by decide) ?_
              have z111 : (0 : Int32).toInt = 0 := by decide
              exact pv_iret (M := mX7_readClause) dX7_readClause_103 rfl rfl ⟨_, _, _, rfl, rfl, I107, K108, by decide, by decide, (by refine ⟨?_, ?_, ?_⟩ <;> omega)⟩
            · have c110 := iv_ne (X := v109.toInt) (Y := 0) c110 rfl (by decide)
              refine pv_aload_n (M := mX7_readClause) 0 dX7_readClause_85 86 rfl rfl rfl ?_
              refine pv_iconst (M := mX7_readClause) (v := 1) dX7_readClause_86 87 rfl (by decide) ?_
              have z112 : (1 : Int32).toInt = 1 := by decide
              refine pv_callv (M := mX7_readClause) (as := [.int 1]) (st := []) (kc2 := 0) (ks2 := 0) dX7_readClause_87 wd662 YX7_readCondition ⟨wd664, wd12⟩ (mk_get (tl86 hT)) rfl rfl (s_X7_readCondition_v1 g hT I107 R (by first | omega | assumption | exact (iv_rng _).2 | exact (iv_rng _).1 | decide)) rfl rfl (Nat.le_of_ble_eq_true rfl) (by decide) rfl rfl 90 rfl (fun rv h1 q113 => ?_)
              obtain ⟨m114, n115, v118, rfl, rfl, I116, K117, pv118, qv118, rv118⟩ := q113
              replace rv118 : (m105 86 3).toInt ≤ (m114 86 3).toInt ∧ (m114 86 3).toInt ≤ (m114 86 2).toInt ∧ (m114 86 2).toInt = (m105 86 2).toInt := rv118
              have K117c := K117
              have K117 := K108.trans (K117.sub (fun _ _ q => q))
              show PV _ _ _ _ _ _ _ 90 [.ref 86, .int x0, .int v2] [.int v118] _
              refine pv_if_eq (M := mX7_readClause) (tgt := 102) dX7_readClause_90 93 rfl (by decide) (fun c119 => ?_) (fun c119 => ?_)
              · have c119 := iv_eq (X := v118.toInt) (Y := 0) c119 rfl (by decide)
                refine pv_iconst (M := mX7_readClause) (v := 0) dX7_readClause_102 103 rfl (by decide) ?_
                have z120 : (0 : Int32).toInt = 0 := by decide
                exact pv_iret (M := mX7_readClause) dX7_readClause_103 rfl rfl ⟨_, _, _, rfl, rfl, I116, K117, by decide, by decide, (by refine ⟨?_, ?_, ?_⟩ <;> omega)⟩
              · have c119 := iv_ne (X := v118.toInt) (Y := 0) c119 rfl (by decide)
                refine pv_aload_n (M := mX7_readClause) 0 dX7_readClause_93 94 rfl rfl rfl ?_
                refine pv_bipush (M := mX7_readClause) (v := 41) dX7_readClause_94 96 rfl (by decide) ?_
                have z121 : (41 : Int32).toInt = 41 := by decide
                refine pv_callv (M := mX7_readClause) (as := [.int 41]) (st := []) (kc2 := 0) (ks2 := 0) dX7_readClause_96 wd555 YX7_pass ⟨wd557, wd8⟩ (mk_get (tl86 hT)) rfl rfl (s_X7_pass g hT I116 R 41 (by decide) (by decide) (by first | omega | assumption | exact (iv_rng _).2 | exact (iv_rng _).1 | decide)) rfl rfl (Nat.le_of_ble_eq_true rfl) (by decide) rfl rfl 99 rfl (fun rv h1 q122 => ?_)
                obtain ⟨m123, n124, v127, rfl, rfl, I125, K126, pv127, qv127, rv127⟩ := q122
                replace rv127 : (m114 86 3).toInt ≤ (m123 86 3).toInt ∧ (m123 86 3).toInt ≤ (m123 86 2).toInt ∧ (m123 86 2).toInt = (m114 86 2).toInt := rv127
                have K126c := K126
                have K126 := K117.trans (K126.sub (fun _ _ q => q))
                show PV _ _ _ _ _ _ _ 99 [.ref 86, .int x0, .int v2] [.int v127] _
                refine pv_if_ne (M := mX7_readClause) (tgt := 104) dX7_readClause_99 102 rfl (by decide) (fun c128 => ?_) (fun c128 => ?_)
                · have c128 := iv_ne (X := v127.toInt) (Y := 0) c128 rfl (by decide)
                  refine pv_aload_n (M := mX7_readClause) 0 dX7_readClause_104 105 rfl rfl rfl ?_
                  refine mv_get (M := mX7_readClause) (v := .ref lb) dX7_readClause_105 FX7 1 wd281 (by decide) (tl86 hT) rfl R.2.2.2.1 108 rfl ?_
                  refine pv_callv (M := mX7_readClause) (as := []) (st := []) (kc2 := 0) (ks2 := 0) dX7_readClause_108 wd683 YX6_endClause ⟨wd684, wd685⟩ (mk_get R.2.2.2.2.2.2.1) rfl rfl (s_X6_endClause g hT I125 lb R.2.2.2.2.2) rfl rfl (Nat.le_of_ble_eq_true rfl) (by decide) rfl rfl 111 rfl (fun rv h1 q129 => ?_)
                  obtain ⟨m130, n131, rfl, rfl, I132, K133, rm130⟩ := q129
                  have K133c := K133
                  have w134 : (m130 86 3).toInt = (m123 86 3).toInt := congrArg Int32.toInt (K133 86 3 (wr_out (by omega)))
                  have w135 : (m130 86 2).toInt = (m123 86 2).toInt := congrArg Int32.toInt (K133 86 2 (wr_out (by omega)))
                  have K133 := K126.trans (K133.sub (wr_wr (by omega) (by omega)))
                  show PV _ _ _ _ _ _ _ 111 [.ref 86, .int x0, .int v2] [] _
                  refine pv_iconst (M := mX7_readClause) (v := 1) dX7_readClause_111 112 rfl (by decide) ?_
                  have z136 : (1 : Int32).toInt = 1 := by decide
                  exact pv_iret (M := mX7_readClause) dX7_readClause_112 rfl rfl ⟨_, _, _, rfl, rfl, I132, K133, by decide, by decide, (by refine ⟨?_, ?_, ?_⟩ <;> omega)⟩
                · have c128 := iv_eq (X := v127.toInt) (Y := 0) c128 rfl (by decide)
                  refine pv_iconst (M := mX7_readClause) (v := 0) dX7_readClause_102 103 rfl (by decide) ?_
                  have z137 : (0 : Int32).toInt = 0 := by decide
                  exact pv_iret (M := mX7_readClause) dX7_readClause_103 rfl rfl ⟨_, _, _, rfl, rfl, I125, K126, by decide, by decide, (by refine ⟨?_, ?_, ?_⟩ <;> omega)⟩
          · have c95 := iv_eq (X := v94.toInt) (Y := 0) c95 rfl (by decide)
            refine pv_iconst (M := mX7_readClause) (v := 0) dX7_readClause_67 68 rfl (by decide) ?_
            have z138 : (0 : Int32).toInt = 0 := by decide
            exact pv_iret (M := mX7_readClause) dX7_readClause_68 rfl rfl ⟨_, _, _, rfl, rfl, I92, K93, by decide, by decide, (by refine ⟨?_, ?_, ?_⟩ <;> omega)⟩
      · have c71 := iv_nlt (X := x0.toInt) (Y := 12) c71 rfl (by decide)
        refine pv_aload_n (M := mX7_readClause) 0 dX7_readClause_29 30 rfl rfl rfl ?_
        refine pv_iconst (M := mX7_readClause) (v := 4) dX7_readClause_30 31 rfl (by decide) ?_
        have z139 : (4 : Int32).toInt = 4 := by decide
        refine pv_callv (M := mX7_readClause) (as := [.int 4]) (st := []) (kc2 := 0) (ks2 := 0) dX7_readClause_31 wd531 YX7_fail ⟨wd533, wd3⟩ (mk_get (tl86 hT)) rfl rfl (s_X7_fail g hT I R 4 (by first | omega | assumption | exact (iv_rng _).2 | exact (iv_rng _).1 | decide)) rfl rfl (Nat.le_of_ble_eq_true rfl) (by decide) rfl rfl 34 rfl (fun rv h1 q140 => ?_)
        obtain ⟨m141, n142, v145, rfl, rfl, I143, K144, pv145, qv145, rv145⟩ := q140
        replace rv145 : v145.toInt = 0 ∧ (m 86 3).toInt ≤ (m141 86 3).toInt ∧ (m141 86 3).toInt ≤ (m141 86 2).toInt ∧ (m141 86 2).toInt = (m 86 2).toInt := rv145
        have K144c := K144
        have K144 := Kp.trans (K144.sub (fun _ _ q => q))
        show PV _ _ _ _ _ _ _ 34 [.ref 86, .int x0, .int v2] [.int v145] _
        exact pv_iret (M := mX7_readClause) dX7_readClause_34 rfl (iv_nz (by omega) (by omega)) ⟨_, _, _, rfl, rfl, I143, K144, by omega, by omega, (by refine ⟨?_, ?_, ?_⟩ <;> omega)⟩
    · have c70 := iv_ne (X := v2.toInt) (Y := 112) c70 rfl (by decide)
      refine pv_aload_n (M := mX7_readClause) 0 dX7_readClause_17 18 rfl rfl rfl ?_
      refine pv_iconst (M := mX7_readClause) (v := 1) dX7_readClause_18 19 rfl (by decide) ?_
      have z146 : (1 : Int32).toInt = 1 := by decide
      refine pv_callv (M := mX7_readClause) (as := [.int 1]) (st := []) (kc2 := 0) (ks2 := 0) dX7_readClause_19 wd531 YX7_fail ⟨wd533, wd3⟩ (mk_get (tl86 hT)) rfl rfl (s_X7_fail g hT I R 1 (by first | omega | assumption | exact (iv_rng _).2 | exact (iv_rng _).1 | decide)) rfl rfl (Nat.le_of_ble_eq_true rfl) (by decide) rfl rfl 22 rfl (fun rv h1 q147 => ?_)
      obtain ⟨m148, n149, v152, rfl, rfl, I150, K151, pv152, qv152, rv152⟩ := q147
      replace rv152 : v152.toInt = 0 ∧ (m 86 3).toInt ≤ (m148 86 3).toInt ∧ (m148 86 3).toInt ≤ (m148 86 2).toInt ∧ (m148 86 2).toInt = (m 86 2).toInt := rv152
      have K151c := K151
      have K151 := Kp.trans (K151.sub (fun _ _ q => q))
      show PV _ _ _ _ _ _ _ 22 [.ref 86, .int x0, .int v2] [.int v152] _
      exact pv_iret (M := mX7_readClause) dX7_readClause_22 rfl (iv_nz (by omega) (by omega)) ⟨_, _, _, rfl, rfl, I150, K151, by omega, by omega, (by refine ⟨?_, ?_, ?_⟩ <;> omega)⟩

set_option maxHeartbeats 2000000 in
set_option maxRecDepth 20000 in
theorem s_X7_read (g : pv_G) {T : List mv_T} {m : Nat → Nat → Int32} {n : Nat → Nat → Int64} {r : Nat → Value} {la lb : Nat} (hT : TX T) (I : IV BB m) (R : RX T r la lb) (x1 : Int32) (hl1 : 0 ≤ x1.toInt) (hh1 : x1.toInt ≤ 200) : PM g mX7_read yX7_read (sqI T BB (wl [(77, 96, none)]) r m (-2147483648) 2147483647 (fun m' v => True)) 27 0 0 [.ref 86, .ref 2, .int x1] (mk T m n r) := by
  have Kp : fr (wl [(77, 96, none)]) m m := fr.rf
  have R0 := R
  have zR := R.2.2.2.2.1.1
  have zR2 := R.2.2.2.2.2.1
  have z86 : 0 ≤ (m 86 3).toInt ∧ (m 86 3).toInt ≤ 160 := I 86 3
  have z87 : 0 ≤ (m 86 2).toInt ∧ (m 86 2).toInt ≤ 160 := I 86 2
  refine PM.of 2 (lo := [.ref 86, .ref 2, .int x1, pv_U, pv_U]) rfl (by decide) rfl rfl (Nat.le_of_ble_eq_true rfl) ?_
  refine pv_aload_n (M := mX7_read) 0 dX7_read_0 1 rfl rfl rfl ?_
  refine pv_iconst (M := mX7_read) (v := 0) dX7_read_1 2 rfl (by decide) ?_
  refine pv_iload_n (M := mX7_read) 2 dX7_read_2 3 rfl rfl rfl ?_
  refine pv_aload_n (M := mX7_read) 1 dX7_read_3 4 rfl rfl rfl ?_
  refine pv_alen (M := mX7_read) (v := 200) dX7_read_4 (mk_get (tl2 hT)) (by decide) (show Int32.ofNat 200 = 200 by decide) 5 rfl ?_
  refine pv_sipush (M := mX7_read) (v := 160) dX7_read_5 8 rfl (by decide) ?_
  refine iv_min (M := mX7_read) (X := 200) (Y := 160) dX7_read_8 wd512 Wmmin (Nat.le_of_ble_eq_true rfl) (by decide) (by decide) (by decide) 11 rfl (fun v2 ev2 fv2 gv2 => ?_)
  refine iv_min (M := mX7_read) (X := x1.toInt) (Y := v2.toInt) dX7_read_11 wd512 Wmmin (Nat.le_of_ble_eq_true rfl) (by decide) rfl rfl 14 rfl (fun v3 ev3 fv3 gv3 => ?_)
  refine iv_max (M := mX7_read) (X := 0) (Y := v3.toInt) dX7_read_14 wd515 Wmmax (Nat.le_of_ble_eq_true rfl) (by decide) (by decide) rfl 17 rfl (fun v4 ev4 fv4 gv4 => ?_)
  refine iv_put (M := mX7_read) (l1 := 0) (l2 := 160) dX7_read_17 FX7 2 wd282 (by decide) rfl (tl86 hT) rfl rfl rfl I rfl (by omega) (by omega) 20 rfl (fun m5 e8 I6 => ?_)
  have K7 := Kp.set e8 (wl_r (by omega) (by omega))
  have w9 : (m5 86 3).toInt = (m 86 3).toInt := by rw [e8, up2_ne (by omega)]
  have w10 : (m5 86 2).toInt = v4.toInt := by rw [e8, up2_eq]
  refine pv_aload_n (M := mX7_read) 1 dX7_read_20 21 rfl rfl rfl ?_
  refine pv_iconst (M := mX7_read) (v := 0) dX7_read_21 22 rfl (by decide) ?_
  refine pv_aload_n (M := mX7_read) 0 dX7_read_22 23 rfl rfl rfl ?_
  refine mv_get (M := mX7_read) (v := .ref 87) dX7_read_23 FX7 0 wd280 (by decide) (tl86 hT) rfl rfl 26 rfl ?_
  refine pv_iconst (M := mX7_read) (v := 0) dX7_read_26 27 rfl (by decide) ?_
  refine pv_aload_n (M := mX7_read) 0 dX7_read_27 28 rfl rfl rfl ?_
  refine iv_get (M := mX7_read) (l1 := 0) (l2 := 160) dX7_read_28 FX7 2 wd282 (by decide) (tl86 hT) rfl I6 rfl 31 rfl (fun v11 ev11 pv11 qv11 => ?_)
  have wv11 : v11.toInt = (m5 86 2).toInt := congrArg Int32.toInt ev11
  refine iv_copy (M := mX7_read) (X := 0) (Y := 0) (Z := v11.toInt) dX7_read_31 wd516 Wnat Wcst Wcin (tl2 hT) (tl87 hT) (by decide) (by decide) rfl (by omega) (by omega) (by omega) (by omega) (by omega) (Nat.le_of_ble_eq_true rfl) (by decide) I6 (fun _ => rfl) (fun _ => rfl) (by omega) (by omega) 34 rfl (fun m12 e15 I13 => ?_)
  have K14 := K7.trans (fr_off e15 (fun _ => (wl_r (by omega) (by omega))))
  have w16 : (m12 86 3).toInt = (m5 86 3).toInt := by rw [e15 86 (by omega)]
  have w17 : (m12 86 2).toInt = (m5 86 2).toInt := by rw [e15 86 (by omega)]
  refine pv_aload_n (M := mX7_read) 0 dX7_read_34 35 rfl rfl rfl ?_
  refine mv_get (M := mX7_read) (v := .ref lb) dX7_read_35 FX7 1 wd281 (by decide) (tl86 hT) rfl R.2.2.2.1 38 rfl ?_
  refine pv_callv (M := mX7_read) (as := []) (st := []) (kc2 := 0) (ks2 := 0) dX7_read_38 wd519 YX6_clear ⟨wd520, wd521⟩ (mk_get R.2.2.2.2.2.2.1) rfl rfl (s_X6_clear g hT I13 lb R.2.2.2.2.2) rfl rfl (Nat.le_of_ble_eq_true rfl) (by decide) rfl rfl 41 rfl (fun rv h1 q18 => ?_)
  obtain ⟨m19, n20, rfl, rfl, I21, K22, rm19⟩ := q18
  have K22c := K22
  have w23 : (m19 86 3).toInt = (m12 86 3).toInt := congrArg Int32.toInt (K22 86 3 (wr_out (by omega)))
  have w24 : (m19 86 2).toInt = (m12 86 2).toInt := congrArg Int32.toInt (K22 86 2 (wr_out (by omega)))
  have K22 := K14.trans (K22.sub (wr_wr (by omega) (by omega)))
  show PV _ _ _ _ _ _ _ 41 [.ref 86, .ref 2, .int x1, pv_U, pv_U] [] _
  refine pv_aload_n (M := mX7_read) 0 dX7_read_41 42 rfl rfl rfl ?_
  refine pv_iconst (M := mX7_read) (v := 0) dX7_read_42 43 rfl (by decide) ?_
  refine iv_put (M := mX7_read) (l1 := 0) (l2 := 160) dX7_read_43 FX7 3 wd283 (by decide) rfl (tl86 hT) rfl rfl rfl I21 rfl (by decide) (by decide) 46 rfl (fun m25 e28 I26 => ?_)
  have K27 := K22.set e28 (wl_r (by omega) (by omega))
  have w29 : (m25 86 3).toInt = 0 := by rw [e28, up2_eq] <;> rfl
  have w30 : (m25 86 2).toInt = (m19 86 2).toInt := by rw [e28, up2_ne (by omega)]
  refine pv_aload_n (M := mX7_read) 0 dX7_read_46 47 rfl rfl rfl ?_
  refine pv_iconst (M := mX7_read) (v := 0) dX7_read_47 48 rfl (by decide) ?_
  refine iv_put (M := mX7_read) (l1 := (-2147483648)) (l2 := 2147483647) dX7_read_48 FX7 4 wd284 (by decide) rfl (tl86 hT) rfl rfl rfl I26 rfl (by decide) (by decide) 51 rfl (fun m31 e34 I32 => ?_)
  have K33 := K27.set e34 (wl_r (by omega) (by omega))
  have w35 : (m31 86 3).toInt = (m25 86 3).toInt := by rw [e34, up2_ne (by omega)]
  have w36 : (m31 86 2).toInt = (m25 86 2).toInt := by rw [e34, up2_ne (by omega)]
  refine pv_iconst (M := mX7_read) (v := 1) dX7_read_51 52 rfl (by decide) ?_
  refine pv_istore_n (M := mX7_read) 3 (lo2 := [.ref 86, .ref 2, .int x1, .int 1, pv_U]) dX7_read_52 53 rfl rfl (by decide) rfl rfl ?_
  refine pv_iconst (M := mX7_read) (v := 0) dX7_read_53 54 rfl (by decide) ?_
  refine pv_istore (M := mX7_read) (lo2 := [.ref 86, .ref 2, .int x1, .int 1, .int 0]) dX7_read_54 56 rfl (by decide) rfl rfl ?_
  have lp44 : ∀ (fuel43 : Nat) (y37 : Int32) (y38 : Int32) (m39 : Nat → Nat → Int32) (n40 : Nat → Nat → Int64), (0 ≤ y37.toInt) → (y37.toInt ≤ 1) → (0 ≤ y38.toInt) → (y38.toInt ≤ 13) → ((m39 86 3).toInt ≤ (m39 86 2).toInt) → IV BB m39 → fr (wl [(77, 96, none)]) m m39 → ((13 - y38.toInt) : Int).toNat < fuel43 → PV none g mX7_read (sqI T BB (wl [(77, 96, none)]) r m (-2147483648) 2147483647 (fun m' v => True)) 27 0 0 56 [.ref 86, .ref 2, .int x1, .int y37, .int y38] [] (mk T m39 n40 r) := by
    intro fuel43
    induction fuel43 with
    | zero => intro y37 y38 m39 n40 b46 b47 b48 b49 b50 I41 K42 z51; omega
    | succ fuel43 ih45 =>
      intro y37 y38 m39 n40 b46 b47 b48 b49 b50 I41 K42 z51
      have z52 : 0 ≤ (m39 86 3).toInt ∧ (m39 86 3).toInt ≤ 160 := I41 86 3
      have z53 : 0 ≤ (m39 86 2).toInt ∧ (m39 86 2).toInt ≤ 160 := I41 86 2
      refine pv_iload (M := mX7_read) dX7_read_56 58 rfl rfl ?_
      refine pv_bipush (M := mX7_read) (v := 12) dX7_read_58 60 rfl (by decide) ?_
      refine pv_icmp_gt (M := mX7_read) (tgt := 122) dX7_read_60 63 rfl (by decide) (fun c54 => ?_) (fun c54 => ?_)
      · have c54 := iv_lt (X := 12) (Y := y38.toInt) c54 (by decide) rfl
        refine pv_aload_n (M := mX7_read) 0 dX7_read_122 123 rfl rfl rfl ?_
        refine mv_get (M := mX7_read) (v := .ref lb) dX7_read_123 FX7 1 wd281 (by decide) (tl86 hT) rfl R.2.2.2.1 126 rfl ?_
        refine iv_get (M := mX7_read) (l1 := 0) (l2 := 12) dX7_read_126 FX6 7 wd241 (by decide) R.2.2.2.2.2.2.1 rfl I41 (law_b7 R.2.2.2.2.2) 129 rfl (fun v55 ev55 pv55 qv55 => ?_)
        exact pv_iret (M := mX7_read) dX7_read_129 rfl rfl ⟨_, _, _, rfl, rfl, I41, K42, (iv_rng v55).1, (iv_rng v55).2, trivial⟩
      · have c54 := iv_nlt (X := 12) (Y := y38.toInt) c54 (by decide) rfl
        refine pv_iload_n (M := mX7_read) 3 dX7_read_63 64 rfl rfl rfl ?_
        refine pv_if_eq (M := mX7_read) (tgt := 122) dX7_read_64 67 rfl (by decide) (fun c56 => ?_) (fun c56 => ?_)
        · have c56 := iv_eq (X := y37.toInt) (Y := 0) c56 rfl (by decide)
          refine pv_aload_n (M := mX7_read) 0 dX7_read_122 123 rfl rfl rfl ?_
          refine mv_get (M := mX7_read) (v := .ref lb) dX7_read_123 FX7 1 wd281 (by decide) (tl86 hT) rfl R.2.2.2.1 126 rfl ?_
          refine iv_get (M := mX7_read) (l1 := 0) (l2 := 12) dX7_read_126 FX6 7 wd241 (by decide) R.2.2.2.2.2.2.1 rfl I41 (law_b7 R.2.2.2.2.2) 129 rfl (fun v57 ev57 pv57 qv57 => ?_)
          exact pv_iret (M := mX7_read) dX7_read_129 rfl rfl ⟨_, _, _, rfl, rfl, I41, K42, (iv_rng v57).1, (iv_rng v57).2, trivial⟩
        · have c56 := iv_ne (X := y37.toInt) (Y := 0) c56 rfl (by decide)
          refine pv_aload_n (M := mX7_read) 0 dX7_read_67 68 rfl rfl rfl ?_
          refine pv_iload (M := mX7_read) dX7_read_68 70 rfl rfl ?_
          refine pv_callv (M := mX7_read) (as := [.int y38]) (st := []) (kc2 := 0) (ks2 := 0) dX7_read_70 wd523 YX7_readClause ⟨wd525, wd1⟩ (mk_get (tl86 hT)) rfl rfl (s_X7_readClause g hT I41 R y38 (by first | omega | assumption | exact (iv_rng _).2 | exact (iv_rng _).1 | decide)) rfl rfl (Nat.le_of_ble_eq_true rfl) (by decide) rfl rfl 73 rfl (fun rv h1 q58 => ?_)
          obtain ⟨m59, n60, v63, rfl, rfl, I61, K62, pv63, qv63, rv63⟩ := q58
          replace rv63 : (m39 86 3).toInt ≤ (m59 86 3).toInt ∧ (m59 86 3).toInt ≤ (m59 86 2).toInt ∧ (m59 86 2).toInt = (m39 86 2).toInt := rv63
          have K62c := K62
          have K62 := K42.trans (K62.sub (fun _ _ q => q))
          show PV _ _ _ _ _ _ _ 73 [.ref 86, .ref 2, .int x1, .int y37, .int y38] [.int v63] _
          refine pv_if_ne (M := mX7_read) (tgt := 81) dX7_read_73 76 rfl (by decide) (fun c64 => ?_) (fun c64 => ?_)
          · have c64 := iv_ne (X := v63.toInt) (Y := 0) c64 rfl (by decide)
            refine pv_aload_n (M := mX7_read) 0 dX7_read_81 82 rfl rfl rfl ?_
            refine iv_get (M := mX7_read) (l1 := 0) (l2 := 160) dX7_read_82 FX7 3 wd283 (by decide) (tl86 hT) rfl I61 rfl 85 rfl (fun v65 ev65 pv65 qv65 => ?_)
            have wv65 : v65.toInt = (m59 86 3).toInt := congrArg Int32.toInt ev65
            refine pv_aload_n (M := mX7_read) 0 dX7_read_85 86 rfl rfl rfl ?_
            refine iv_get (M := mX7_read) (l1 := 0) (l2 := 160) dX7_read_86 FX7 2 wd282 (by decide) (tl86 hT) rfl I61 rfl 89 rfl (fun v66 ev66 pv66 qv66 => ?_)
            have wv66 : v66.toInt = (m59 86 2).toInt := congrArg Int32.toInt ev66
            refine pv_icmp_ge (M := mX7_read) (tgt := 96) dX7_read_89 92 rfl (by decide) (fun c67 => ?_) (fun c67 => ?_)
            · have c67 := iv_le (X := v66.toInt) (Y := v65.toInt) c67 rfl rfl
              refine pv_iconst (M := mX7_read) (v := 0) dX7_read_96 97 rfl (by decide) ?_
              refine pv_istore_n (M := mX7_read) 3 (lo2 := [.ref 86, .ref 2, .int x1, .int 0, .int y38]) dX7_read_97 98 rfl rfl (by decide) rfl rfl ?_
              refine pv_iload_n (M := mX7_read) 3 dX7_read_98 99 rfl rfl rfl ?_
              refine pv_if_eq (M := mX7_read) (tgt := 116) dX7_read_99 102 rfl (by decide) (fun _ => ?_) (fun q => absurd (by decide) q)
              refine iv_inc (M := mX7_read) (C := 1) dX7_read_116 119 rfl rfl (by decide) rfl rfl (by decide) (by omega) (by omega) (fun v69 ev69 => ?_)
              show PV _ _ _ _ _ _ _ 119 [.ref 86, .ref 2, .int x1, .int 0, .int v69] [] _
              refine pv_goto (M := mX7_read) (tgt := 56) dX7_read_119 (by decide) ?_
              have z70 : (0 : Int32).toInt = 0 := by decide
              exact ih45 0 v69 m59 n60 (by first | omega | assumption | exact (iv_rng _).2 | exact (iv_rng _).1 | decide) (by first | omega | assumption | exact (iv_rng _).2 | exact (iv_rng _).1 | decide) (by first | omega | assumption | exact (iv_rng _).2 | exact (iv_rng _).1 | decide) (by first | omega | assumption | exact (iv_rng _).2 | exact (iv_rng _).1 | decide) (by first | omega | assumption | (show (m59 86 3).toInt ≤ (m59 86 2).toInt; omega) | decide) I61 K62 (by omega)
            · have c67 := iv_nle (X := v66.toInt) (Y := v65.toInt) c67 rfl rfl
              refine pv_iconst (M := mX7_read) (v := 1) dX7_read_92 93 rfl (by decide) ?_
              refine pv_goto (M := mX7_read) (tgt := 97) dX7_read_93 (by decide) ?_
              refine pv_istore_n (M := mX7_read) 3 (lo2 := [.ref 86, .ref 2, .int x1, .int 1, .int y38]) dX7_read_97 98 rfl rfl (by decide) rfl rfl ?_
              refine pv_iload_n (M := mX7_read) 3 dX7_read_98 99 rfl rfl rfl ?_
              refine pv_if_eq (M := mX7_read) (tgt := 116) dX7_read_99 102 rfl (by decide) (fun q => absurd q (by decide)) (fun _ => ?_)
              refine pv_aload_n (M := mX7_read) 0 dX7_read_102 103 rfl rfl rfl ?_
              refine pv_bipush (M := mX7_read) (v := 59) dX7_read_103 105 rfl (by decide) ?_
              have z72 : (59 : Int32).toInt = 59 := by decide
              refine pv_callv (M := mX7_read) (as := [.int 59]) (st := []) (kc2 := 0) (ks2 := 0) dX7_read_105 wd555 YX7_pass ⟨wd557, wd8⟩ (mk_get (tl86 hT)) rfl rfl (s_X7_pass g hT I61 R 59 (by decide) (by decide) (by first | omega | assumption | exact (iv_rng _).2 | exact (iv_rng _).1 | decide)) rfl rfl (Nat.le_of_ble_eq_true rfl) (by decide) rfl rfl 108 rfl (fun rv h1 q73 => ?_)
              obtain ⟨m74, n75, v78, rfl, rfl, I76, K77, pv78, qv78, rv78⟩ := q73
              replace rv78 : (m59 86 3).toInt ≤ (m74 86 3).toInt ∧ (m74 86 3).toInt ≤ (m74 86 2).toInt ∧ (m74 86 2).toInt = (m59 86 2).toInt := rv78
              have K77c := K77
              have K77 := K62.trans (K77.sub (fun _ _ q => q))
              show PV _ _ _ _ _ _ _ 108 [.ref 86, .ref 2, .int x1, .int 1, .int y38] [.int v78] _
              refine pv_if_ne (M := mX7_read) (tgt := 116) dX7_read_108 111 rfl (by decide) (fun c79 => ?_) (fun c79 => ?_)
              · have c79 := iv_ne (X := v78.toInt) (Y := 0) c79 rfl (by decide)
                refine iv_inc (M := mX7_read) (C := 1) dX7_read_116 119 rfl rfl (by decide) rfl rfl (by decide) (by omega) (by omega) (fun v80 ev80 => ?_)
                show PV _ _ _ _ _ _ _ 119 [.ref 86, .ref 2, .int x1, .int 1, .int v80] [] _
                refine pv_goto (M := mX7_read) (tgt := 56) dX7_read_119 (by decide) ?_
                have z81 : (1 : Int32).toInt = 1 := by decide
                exact ih45 1 v80 m74 n75 (by first | omega | assumption | exact (iv_rng _).2 | exact (iv_rng _).1 | decide) (by first | omega | assumption | exact (iv_rng _).2 | exact (iv_rng _).1 | decide) (by first | omega | assumption | exact (iv_rng _).2 | exact (iv_rng _).1 | decide) (by first | omega | assumption | exact (iv_rng _).2 | exact (iv_rng _).1 | decide) (by first | omega | assumption | (show (m74 86 3).toInt ≤ (m74 86 2).toInt; omega) | decide) I76 K77 (by omega)
              · have c79 := iv_eq (X := v78.toInt) (Y := 0) c79 rfl (by decide)
                refine pv_aload_n (M := mX7_read) 0 dX7_read_111 112 rfl rfl rfl ?_
                refine iv_get (M := mX7_read) (l1 := (-2147483648)) (l2 := 2147483647) dX7_read_112 FX7 4 wd284 (by decide) (tl86 hT) rfl I76 rfl 115 rfl (fun v82 ev82 pv82 qv82 => ?_)
                exact pv_iret (M := mX7_read) dX7_read_115 rfl rfl ⟨_, _, _, rfl, rfl, I76, K77, (iv_rng v82).1, (iv_rng v82).2, trivial⟩
          · have c64 := iv_eq (X := v63.toInt) (Y := 0) c64 rfl (by decide)
            refine pv_aload_n (M := mX7_read) 0 dX7_read_76 77 rfl rfl rfl ?_
            refine iv_get (M := mX7_read) (l1 := (-2147483648)) (l2 := 2147483647) dX7_read_77 FX7 4 wd284 (by decide) (tl86 hT) rfl I61 rfl 80 rfl (fun v83 ev83 pv83 qv83 => ?_)
            exact pv_iret (M := mX7_read) dX7_read_80 rfl rfl ⟨_, _, _, rfl, rfl, I61, K62, (iv_rng v83).1, (iv_rng v83).2, trivial⟩
  have z84 : (1 : Int32).toInt = 1 := by decide
  have z85 : (0 : Int32).toInt = 0 := by decide
  exact lp44 (((13 - 0) : Int).toNat + 1) 1 0 m31 n20 (by first | omega | assumption | exact (iv_rng _).2 | exact (iv_rng _).1 | decide) (by first | omega | assumption | exact (iv_rng _).2 | exact (iv_rng _).1 | decide) (by first | omega | assumption | exact (iv_rng _).2 | exact (iv_rng _).1 | decide) (by first | omega | assumption | exact (iv_rng _).2 | exact (iv_rng _).1 | decide) (by first | omega | assumption | (show (m31 86 3).toInt ≤ (m31 86 2).toInt; omega) | decide) I32 K33 (by omega)
