set_option maxHeartbeats 2000000 in
set_option maxRecDepth 20000 in
theorem s_X11_seed_va (g : pv_G) {T : List mv_T} {m : Nat → Nat → Int32} {n : Nat → Nat → Int64} {r : Nat → Value} {la lb : Nat} (hT : TX T) (I : IV BB m) (R : RX T r la lb) (x0 : Int32) : PM g mX11_seed yX11_seed (sqI T BB (wl [(0, 0, some 8)]) r m 0 1 (fun m' v => (v.toInt = 1 ∧ 0 ≤ x0.toInt ∧ x0.toInt ≤ 65535 ∧ m' 0 8 = x0) ∨ (v.toInt = 0 ∧ (x0.toInt < 0 ∨ 65535 < x0.toInt) ∧ m' 0 8 = m 0 8))) 1 0 0 [.ref 0, .int x0] (mk T m n r) := by
  have Kp : fr (wl [(0, 0, some 8)]) m m := fr.rf
  have R0 := R
  have zR := R.2.2.2.2.1.1
  have zR2 := R.2.2.2.2.2.1
  refine PM.of 0 (lo := [.ref 0, .int x0]) rfl (by decide) rfl rfl (Nat.le_of_ble_eq_true rfl) ?_
  refine pv_iload_n (M := mX11_seed) 1 dX11_seed_0 1 rfl rfl rfl ?_
  refine pv_if_lt (M := mX11_seed) (tgt := 11) dX11_seed_1 4 rfl (by decide) (fun c1 => ?_) (fun c1 => ?_)
  · have c1 := iv_lt (X := x0.toInt) (Y := 0) c1 rfl (by decide)
    refine pv_iconst (M := mX11_seed) (v := 0) dX11_seed_11 12 rfl (by decide) ?_
    have z2 : (0 : Int32).toInt = 0 := by decide
    exact pv_iret (M := mX11_seed) dX11_seed_12 rfl rfl ⟨_, _, _, rfl, rfl, I, Kp, by decide, by decide, (Or.inr ⟨by decide, by omega, rfl⟩)⟩
  · have c1 := iv_nlt (X := x0.toInt) (Y := 0) c1 rfl (by decide)
    refine pv_iload_n (M := mX11_seed) 1 dX11_seed_4 5 rfl rfl rfl ?_
    refine pv_ldcw (M := mX11_seed) (v := 65536) dX11_seed_5 8 rfl wd1145 ?_
    refine pv_icmp_lt (M := mX11_seed) (tgt := 13) dX11_seed_8 11 rfl (by decide) (fun c3 => ?_) (fun c3 => ?_)
    · have c3 := iv_lt (X := x0.toInt) (Y := 65536) c3 rfl (by decide)
      refine pv_aload_n (M := mX11_seed) 0 dX11_seed_13 14 rfl rfl rfl ?_
      refine pv_iload_n (M := mX11_seed) 1 dX11_seed_14 15 rfl rfl rfl ?_
      refine iv_put (M := mX11_seed) (l1 := 0) (l2 := 65535) dX11_seed_15 FX11 8 wd415 (by decide) rfl (tl0 hT) rfl rfl rfl I rfl (by omega) (by omega) 18 rfl (fun m4 e7 I5 => ?_)
      have K6 := Kp.set e7 rfl
      refine pv_iconst (M := mX11_seed) (v := 1) dX11_seed_18 19 rfl (by decide) ?_
      have z8 : (1 : Int32).toInt = 1 := by decide
      exact pv_iret (M := mX11_seed) dX11_seed_19 rfl rfl ⟨_, _, _, rfl, rfl, I5, K6, by decide, by decide, (Or.inl ⟨by decide, by omega, by omega, by rw [e7, up2_at rfl]⟩)⟩
    · have c3 := iv_nlt (X := x0.toInt) (Y := 65536) c3 rfl (by decide)
      refine pv_iconst (M := mX11_seed) (v := 0) dX11_seed_11 12 rfl (by decide) ?_
      have z9 : (0 : Int32).toInt = 0 := by decide
      exact pv_iret (M := mX11_seed) dX11_seed_12 rfl rfl ⟨_, _, _, rfl, rfl, I, Kp, by decide, by decide, (Or.inr ⟨by decide, by omega, rfl⟩)⟩

set_option maxHeartbeats 2000000 in
set_option maxRecDepth 20000 in
theorem s_X12_seed_va (g : pv_G) {T : List mv_T} {m : Nat → Nat → Int32} {n : Nat → Nat → Int64} {r : Nat → Value} (hT : TX T) (I : IV BB m) (x0 : Int32) : PM g mX12_seed yX12_seed (sqI T BB (wl [(123, 123, some 2)]) r m 0 1 (fun m' v => (v.toInt = 1 ∧ 0 ≤ x0.toInt ∧ x0.toInt ≤ 65535 ∧ m' 123 2 = x0) ∨ (v.toInt = 0 ∧ (x0.toInt < 0 ∨ 65535 < x0.toInt) ∧ m' 123 2 = m 123 2))) 2 0 0 [.ref 123, .int x0] (mk T m n r) := by
  have Kp : fr (wl [(123, 123, some 2)]) m m := fr.rf
  refine PM.of 0 (lo := [.ref 123, .int x0]) rfl (by decide) rfl rfl (Nat.le_of_ble_eq_true rfl) ?_
  refine pv_iload_n (M := mX12_seed) 1 dX12_seed_0 1 rfl rfl rfl ?_
  refine pv_iconst (M := mX12_seed) (v := 0) dX12_seed_1 2 rfl (by decide) ?_
  refine pv_ldcw (M := mX12_seed) (v := 65535) dX12_seed_2 5 rfl wd1777 ?_
  have z1 : (0 : Int32).toInt = 0 := by decide
  have z2 : (65535 : Int32).toInt = 65535 := by decide
  refine pv_calls (M := mX12_seed) (as := [.int x0, .int 0, .int 65535]) (st := []) (kc2 := 0) (ks2 := 0) dX12_seed_5 wd1370 YX12_in wd1371 (s_X12_in_vx g hT I x0 0 65535) rfl rfl (Nat.le_of_ble_eq_true rfl) (by decide) rfl rfl 8 rfl (fun rv h1 q3 => ?_)
  obtain ⟨v4, rfl, rfl, pv4, qv4, rv4⟩ := q3
  replace rv4 : (v4 = 0 ∨ ((0 : Int) ≤ x0.toInt ∧ x0.toInt ≤ (65535 : Int))) ∧ ((v4.toInt = 1 ∧ (0 : Int) ≤ x0.toInt ∧ x0.toInt ≤ (65535 : Int)) ∨ (v4.toInt = 0 ∧ (x0.toInt < (0 : Int) ∨ (65535 : Int) < x0.toInt))) := by have q_ := rv4; (try rw [z1] at q_); (try rw [z2] at q_); exact q_
  show PV _ _ _ _ _ _ _ 8 [.ref 123, .int x0] [.int v4] _
  have k8 := rv4.2
  refine pv_if_ne (M := mX12_seed) (tgt := 13) dX12_seed_8 11 rfl (by decide) (fun c6 => ?_) (fun c6 => ?_)
  · have pc6 := rv4.1.resolve_left c6
    have c6 := iv_ne (X := v4.toInt) (Y := 0) c6 rfl (by decide)
    refine pv_aload_n (M := mX12_seed) 0 dX12_seed_13 14 rfl rfl rfl ?_
    refine pv_iload_n (M := mX12_seed) 1 dX12_seed_14 15 rfl rfl rfl ?_
    refine iv_put (M := mX12_seed) (l1 := 0) (l2 := 65535) dX12_seed_15 FX12 2 wd1175 (by decide) rfl (tl123 hT) rfl rfl rfl I rfl (by omega) (by omega) 18 rfl (fun m7 e10 I8 => ?_)
    have K9 := Kp.set e10 rfl
    refine pv_iconst (M := mX12_seed) (v := 1) dX12_seed_18 19 rfl (by decide) ?_
    have z11 : (1 : Int32).toInt = 1 := by decide
    exact pv_iret (M := mX12_seed) dX12_seed_19 rfl rfl ⟨_, _, _, rfl, rfl, I8, K9, by decide, by decide, (Or.inl ⟨by decide, by omega, by omega, by rw [e10, up2_at rfl]⟩)⟩
  · have c6 := iv_eq (X := v4.toInt) (Y := 0) c6 rfl (by decide)
    refine pv_iconst (M := mX12_seed) (v := 0) dX12_seed_11 12 rfl (by decide) ?_
    have z12 : (0 : Int32).toInt = 0 := by decide
    exact pv_iret (M := mX12_seed) dX12_seed_12 rfl rfl ⟨_, _, _, rfl, rfl, I, Kp, by decide, by decide, (Or.inr ⟨by decide, by omega, rfl⟩)⟩

set_option maxHeartbeats 2000000 in
set_option maxRecDepth 20000 in
theorem s_X11_law_vz (g : pv_G) {T : List mv_T} {m : Nat → Nat → Int32} {n : Nat → Nat → Int64} {r : Nat → Value} {la lb : Nat} (hT : TX T) (I : IV BB m) (R : RX T r la lb) (hK : TK T) (x0 : Int32) (hp0 : la ≠ lb) : PM g mX11_law yX11_law (sqIr T BB wPl rl r m (-2147483648) 2147483647 (fun m' r' v => RXE T r' ∧ LWK x0.toInt (m 1 1).toInt (m' 1 1).toInt ∧ LWV x0.toInt (m 1 1).toInt (tK (m 2) x0.toInt) v.toInt ∧ LWZ m m' la lb (tK (m 2) x0.toInt) r r' v.toInt)) 28 0 0 [.ref 0, .int x0] (mk T m n r) := by
  have Kp : fr wPl m m := fr.rf
  have R0 := R
  have zR := R.2.2.2.2.1.1
  have zR2 := R.2.2.2.2.2.1
  have z35 : 0 ≤ (m 1 1).toInt ∧ (m 1 1).toInt ≤ 200 := I 1 1
  refine PM.of 1 (lo := [.ref 0, .int x0, pv_U]) rfl (by decide) rfl rfl (Nat.le_of_ble_eq_true rfl) ?_
  refine pv_iload_n (M := mX11_law) 1 dX11_law_0 1 rfl rfl rfl ?_
  refine pv_iconst (M := mX11_law) (v := 1) dX11_law_1 2 rfl (by decide) ?_
  refine pv_icmp_lt (M := mX11_law) (tgt := 23) dX11_law_2 5 rfl (by decide) (fun c1 => ?_) (fun c1 => ?_)
  · have c1 := iv_lt (X := x0.toInt) (Y := 1) c1 rfl (by decide)
    refine pv_iconst (M := mX11_law) (v := (-1)) dX11_law_23 24 rfl (by decide) ?_
    have z2 : ((-1) : Int32).toInt = (-1) := by decide
    exact pv_iret (M := mX11_law) dX11_law_24 rfl rfl ⟨_, _, _, _, rfl, rfl, I, Kp, rl.rf, by decide, by decide, ⟨by first | exact ⟨_, _, R⟩ | exact RX_swap R kx er, (by first | exact Or.inr ⟨by omega, by omega⟩ | exact Or.inl ⟨by omega, by omega, by omega, by first | omega | decide⟩), (by first | exact Or.inr ⟨by omega, by decide⟩ | exact Or.inl ⟨by omega, by omega, by omega, k40⟩), (by first | exact LWZ_0 (by decide) rfl rfl (fun _ _ => rfl) | exact LWZ_no (by omega) kz49 rfl rfl | exact LWZ_yes (by omega) kz49 (by rw [er]; exact up1_eq _ _ _) (by rw [er, up1_ne (by omega), kx]; exact up1_eq _ _ _))⟩⟩
  · have c1 := iv_nlt (X := x0.toInt) (Y := 1) c1 rfl (by decide)
    refine pv_iload_n (M := mX11_law) 1 dX11_law_5 6 rfl rfl rfl ?_
    refine pv_sipush (M := mX11_law) (v := 160) dX11_law_6 9 rfl (by decide) ?_
    refine pv_icmp_gt (M := mX11_law) (tgt := 23) dX11_law_9 12 rfl (by decide) (fun c3 => ?_) (fun c3 => ?_)
    · have c3 := iv_lt (X := 160) (Y := x0.toInt) c3 (by decide) rfl
      refine pv_iconst (M := mX11_law) (v := (-1)) dX11_law_23 24 rfl (by decide) ?_
      have z4 : ((-1) : Int32).toInt = (-1) := by decide
      exact pv_iret (M := mX11_law) dX11_law_24 rfl rfl ⟨_, _, _, _, rfl, rfl, I, Kp, rl.rf, by decide, by decide, ⟨by first | exact ⟨_, _, R⟩ | exact RX_swap R kx er, (by first | exact Or.inr ⟨by omega, by omega⟩ | exact Or.inl ⟨by omega, by omega, by omega, by first | omega | decide⟩), (by first | exact Or.inr ⟨by omega, by decide⟩ | exact Or.inl ⟨by omega, by omega, by omega, k40⟩), (by first | exact LWZ_0 (by decide) rfl rfl (fun _ _ => rfl) | exact LWZ_no (by omega) kz49 rfl rfl | exact LWZ_yes (by omega) kz49 (by rw [er]; exact up1_eq _ _ _) (by rw [er, up1_ne (by omega), kx]; exact up1_eq _ _ _))⟩⟩
    · have c3 := iv_nlt (X := 160) (Y := x0.toInt) c3 (by decide) rfl
      refine pv_iload_n (M := mX11_law) 1 dX11_law_12 13 rfl rfl rfl ?_
      refine pv_aload_n (M := mX11_law) 0 dX11_law_13 14 rfl rfl rfl ?_
      refine mv_get (M := mX11_law) (v := .ref 1) dX11_law_14 FX11 0 wd407 (by decide) (tl0 hT) rfl rfl 17 rfl ?_
      refine iv_get (M := mX11_law) (l1 := 0) (l2 := 200) dX11_law_17 FX10 1 wd164 (by decide) (tl1 hT) rfl I rfl 20 rfl (fun v5 ev5 pv5 qv5 => ?_)
      have wv5 : v5.toInt = (m 1 1).toInt := congrArg Int32.toInt ev5
      refine pv_icmp_le (M := mX11_law) (tgt := 25) dX11_law_20 23 rfl (by decide) (fun c6 => ?_) (fun c6 => ?_)
      · have c6 := iv_le (X := x0.toInt) (Y := v5.toInt) c6 rfl rfl
        refine pv_aload_n (M := mX11_law) 0 dX11_law_25 26 rfl rfl rfl ?_
        refine mv_get (M := mX11_law) (v := .ref 86) dX11_law_26 FX11 5 wd412 (by decide) (tl0 hT) rfl rfl 29 rfl ?_
        refine pv_aload_n (M := mX11_law) 0 dX11_law_29 30 rfl rfl rfl ?_
        refine mv_get (M := mX11_law) (v := .ref 1) dX11_law_30 FX11 0 wd407 (by decide) (tl0 hT) rfl rfl 33 rfl ?_
        refine mv_get (M := mX11_law) (v := .ref 2) dX11_law_33 FX10 0 wd162 (by decide) (tl1 hT) rfl rfl 36 rfl ?_
        refine pv_iload_n (M := mX11_law) 1 dX11_law_36 37 rfl rfl rfl ?_
        refine pv_callv (M := mX11_law) (as := [.ref 2, .int x0]) (st := []) (kc2 := 0) (ks2 := 0) dX11_law_37 wd508 YX7_read ⟨wd509, wd510⟩ (mk_get (tl86 hT)) rfl rfl (s_X7_read_vz g hT I R x0 (by omega) (by omega) (by first | omega | assumption | exact (iv_rng _).2 | exact (iv_rng _).1 | decide) (by first | omega | assumption | exact (iv_rng _).2 | exact (iv_rng _).1 | decide)) rfl rfl (Nat.le_of_ble_eq_true rfl) (by decide) rfl rfl 40 rfl (fun rv h1 q7 => ?_)
        obtain ⟨m8, n9, v12, rfl, rfl, I10, K11, pv12, qv12, rv12⟩ := q7
        replace rv12 : v12.toInt = LWA (tK (m 2) x0.toInt) x0.toInt 14 0 0 ∧ RDZ (tK (m 2) x0.toInt) lb m8 v12.toInt := rv12
        have K11c := K11
        have K11 := Kp.trans (K11.sub (by first | exact wR_wPl zR2 | exact wg_l (by decide)))
        show PV _ _ _ _ _ _ _ 40 [.ref 0, .int x0, pv_U] [.int v12] _
        have k40 := rv12.1
        have k40z := rv12.2
        have k40f : fr (wR lb) m m8 := K11c
        refine pv_istore_n (M := mX11_law) 2 (lo2 := [.ref 0, .int x0, .int v12]) dX11_law_40 41 rfl rfl (by decide) rfl rfl ?_
        refine pv_aload_n (M := mX11_law) 0 dX11_law_41 42 rfl rfl rfl ?_
        refine mv_get (M := mX11_law) (v := .ref 1) dX11_law_42 FX11 0 wd407 (by decide) (tl0 hT) rfl rfl 45 rfl ?_
        refine pv_iconst (M := mX11_law) (v := 0) dX11_law_45 46 rfl (by decide) ?_
        refine iv_put (M := mX11_law) (l1 := 0) (l2 := 200) dX11_law_46 FX10 1 wd164 (by decide) rfl (tl1 hT) rfl rfl rfl I10 rfl (by decide) (by decide) 49 rfl (fun m16 e19 I17 => ?_)
        have K18 := K11.set e19 (by first | rfl | decide)
        have w20 : (m16 1 1).toInt = 0 := by rw [e19, up2_eq] <;> rfl
        have kz49 := LWZ_h zR zR2 hp0 k40f (fun a i q => (show m16 a i = m8 a i from by rw [e19, up2_ne (by omega)])) k40z
        refine pv_iload_n (M := mX11_law) 2 dX11_law_49 50 rfl rfl rfl ?_
        refine pv_if_lt (M := mX11_law) (tgt := 68) dX11_law_50 53 rfl (by decide) (fun c22 => ?_) (fun c22 => ?_)
        · have c22 := iv_lt (X := v12.toInt) (Y := 0) c22 rfl (by decide)
          refine pv_iload_n (M := mX11_law) 2 dX11_law_68 69 rfl rfl rfl ?_
          exact pv_iret (M := mX11_law) dX11_law_69 rfl rfl ⟨_, _, _, _, rfl, rfl, I17, K18, rl.rf, (iv_rng v12).1, (iv_rng v12).2, ⟨by first | exact ⟨_, _, R⟩ | exact RX_swap R kx er, (by first | exact Or.inr ⟨by omega, by omega⟩ | exact Or.inl ⟨by omega, by omega, by omega, by first | omega | decide⟩), (by first | exact Or.inr ⟨by omega, by decide⟩ | exact Or.inl ⟨by omega, by omega, by omega, k40⟩), (by first | exact LWZ_0 (by decide) rfl rfl (fun _ _ => rfl) | exact LWZ_no (by omega) kz49 rfl rfl | exact LWZ_yes (by omega) kz49 (by rw [er]; exact up1_eq _ _ _) (by rw [er, up1_ne (by omega), kx]; exact up1_eq _ _ _))⟩⟩
        · have c22 := iv_nlt (X := v12.toInt) (Y := 0) c22 rfl (by decide)
          refine pv_aload_n (M := mX11_law) 0 dX11_law_53 54 rfl rfl rfl ?_
          refine pv_aload_n (M := mX11_law) 0 dX11_law_54 55 rfl rfl rfl ?_
          refine mv_get (M := mX11_law) (v := .ref 86) dX11_law_55 FX11 5 wd412 (by decide) (tl0 hT) rfl rfl 58 rfl ?_
          refine pv_aload_n (M := mX11_law) 0 dX11_law_58 59 rfl rfl rfl ?_
          refine mv_get (M := mX11_law) (v := .ref la) dX11_law_59 FX11 4 wd411 (by decide) (tl0 hT) rfl R.2.2.1 62 rfl ?_
          refine pv_callv (M := mX11_law) (as := [.ref la]) (st := [.ref 0]) (kc2 := 0) (ks2 := 0) dX11_law_62 wd687 YX7_exchange ⟨wd688, wd689⟩ (mk_get (tl86 hT)) rfl rfl (s_X7_exchange g hT I17 R hK la R.2.2.2.2.1) rfl rfl (Nat.le_of_ble_eq_true rfl) (by decide) rfl rfl 65 rfl (fun rv h1 q23 => ?_)
          obtain ⟨m24, n25, r28, rfl, rfl, I26, K27, qr28, rm24⟩ := q23
          replace rm24 : r28 = up1 r 3 (.ref la) := rm24
          have or28 := rl.trans rl.rf qr28
          have K27c := K27
          have w29 : (m24 1 1).toInt = (m16 1 1).toInt := congrArg Int32.toInt (K27 1 1 rfl)
          have K27 := K18.trans (K27.sub (by first | exact wR_wPl zR2 | exact wg_l (by decide)))
          show PV _ _ _ _ _ _ _ 65 [.ref 0, .int x0, .int v12] [.ref lb, .ref 0] _
          have kx := rm24
          have kem : m24 = m16 := funext fun a => funext fun i => K27c a i rfl
          rw [← kem] at kz49
          refine mv_putr (M := mX11_law) (j := 1) (v := .ref lb) dX11_law_65 FX11 4 wd411 (by decide) rfl (tl0 hT) rfl (hu_of (by decide)) (NM1k hK) (fun _ => rfl) (fun _ => rfl) 68 rfl (fun r33 er33 => ?_)
          have or33 := rl.set or28 er33 (by decide)
          refine pv_iload_n (M := mX11_law) 2 dX11_law_68 69 rfl rfl rfl ?_
          exact pv_iret (M := mX11_law) dX11_law_69 rfl rfl ⟨_, _, _, _, rfl, rfl, I26, K27, or33, (iv_rng v12).1, (iv_rng v12).2, ⟨by first | exact ⟨_, _, R⟩ | exact RX_swap R kx er33, (by first | exact Or.inr ⟨by omega, by omega⟩ | exact Or.inl ⟨by omega, by omega, by omega, by first | omega | decide⟩), (by first | exact Or.inr ⟨by omega, by decide⟩ | exact Or.inl ⟨by omega, by omega, by omega, k40⟩), (by first | exact LWZ_0 (by decide) rfl rfl (fun _ _ => rfl) | exact LWZ_no (by omega) kz49 rfl rfl | exact LWZ_yes (by omega) kz49 (by rw [er33]; exact up1_eq _ _ _) (by rw [er33, up1_ne (by omega), kx]; exact up1_eq _ _ _))⟩⟩
      · have c6 := iv_nle (X := x0.toInt) (Y := v5.toInt) c6 rfl rfl
        refine pv_iconst (M := mX11_law) (v := (-1)) dX11_law_23 24 rfl (by decide) ?_
        have z34 : ((-1) : Int32).toInt = (-1) := by decide
        exact pv_iret (M := mX11_law) dX11_law_24 rfl rfl ⟨_, _, _, _, rfl, rfl, I, Kp, rl.rf, by decide, by decide, ⟨by first | exact ⟨_, _, R⟩ | exact RX_swap R kx er, (by first | exact Or.inr ⟨by omega, by omega⟩ | exact Or.inl ⟨by omega, by omega, by omega, by first | omega | decide⟩), (by first | exact Or.inr ⟨by omega, by decide⟩ | exact Or.inl ⟨by omega, by omega, by omega, k40⟩), (by first | exact LWZ_0 (by decide) rfl rfl (fun _ _ => rfl) | exact LWZ_no (by omega) kz49 rfl rfl | exact LWZ_yes (by omega) kz49 (by rw [er]; exact up1_eq _ _ _) (by rw [er, up1_ne (by omega), kx]; exact up1_eq _ _ _))⟩⟩

set_option maxHeartbeats 2000000 in
set_option maxRecDepth 20000 in
theorem s_X11_blank_va (g : pv_G) {T : List mv_T} {m : Nat → Nat → Int32} {n : Nat → Nat → Int64} {r : Nat → Value} {la lb : Nat} (hT : TX T) (I : IV BB m) (R : RX T r la lb) (x0 : Int32) : PM g mX11_blank yX11_blank (sqI T BB wPb r m (-2147483648) 2147483647 (fun m' v => BLK x0.toInt (m 0 2).toInt (m 1 1).toInt (LET 2 m x0.toInt) v.toInt (m' 0 2).toInt (m' 1 1).toInt ∧ BLWc m m' x0.toInt ∧ ((m' 0 2).toInt = (m 0 2).toInt + 1 → RST m' (4 + 7 * (m 0 2).toInt.toNat)) ∧ (∀ a i, 5 ≤ a → a ≤ 59 → ((m' 0 2).toInt = (m 0 2).toInt ∨ a < 4 + 7 * (m 0 2).toInt.toNat ∨ 4 + 7 * (m 0 2).toInt.toNat + 6 < a) → m' a i = m a i))) 3 0 0 [.ref 0, .int x0] (mk T m n r) := by
  have Kp : fr wPb m m := fr.rf
  have R0 := R
  have zR := R.2.2.2.2.1.1
  have zR2 := R.2.2.2.2.2.1
  have z66 : 0 ≤ (m 0 2).toInt ∧ (m 0 2).toInt ≤ 8 := I 0 2
  have z67 : 0 ≤ (m 1 1).toInt ∧ (m 1 1).toInt ≤ 200 := I 1 1
  refine PM.of 1 (lo := [.ref 0, .int x0, pv_U]) rfl (by decide) rfl rfl (Nat.le_of_ble_eq_true rfl) ?_
  refine pv_iload_n (M := mX11_blank) 1 dX11_blank_0 1 rfl rfl rfl ?_
  refine pv_iconst (M := mX11_blank) (v := 1) dX11_blank_1 2 rfl (by decide) ?_
  refine pv_icmp_lt (M := mX11_blank) (tgt := 31) dX11_blank_2 5 rfl (by decide) (fun c1 => ?_) (fun c1 => ?_)
  · have c1 := iv_lt (X := x0.toInt) (Y := 1) c1 rfl (by decide)
    refine pv_iconst (M := mX11_blank) (v := (-1)) dX11_blank_31 32 rfl (by decide) ?_
    have z2 : ((-1) : Int32).toInt = (-1) := by decide
    exact pv_iret (M := mX11_blank) dX11_blank_32 rfl rfl ⟨_, _, _, rfl, rfl, I, Kp, by decide, by decide, ⟨(by first | exact Or.inr ⟨by omega, (by first | omega | decide), (by first | omega | decide), (by first | omega | decide)⟩ | exact Or.inl ⟨by omega, by omega, by omega, by omega, (by first | omega | decide), (kf.elim (fun q => Or.inl ⟨q.2, by omega, by omega⟩) (fun q => by exfalso; omega))⟩ | exact Or.inl ⟨by omega, by omega, by omega, by omega, (by first | omega | decide), (kf.elim (fun q => by exfalso; omega) (fun q => Or.inr ⟨q.2, (by first | omega | decide), by omega⟩))⟩), (by first | exact ⟨fun _ _ _ _ => rfl, fun q => by exfalso; omega⟩ | exact ⟨fun a j h _ => by have z := isW_b h; rw [noE, up2_ne (by omega)], fun q => by exfalso; omega⟩ | exact ⟨fun a j h h1 => by have z := isW_b h; have h1 := h1.resolve_left (by omega); rw [noE, up2_ne (by omega), noE, up2_ne (by omega), kgf a j (wr_out (by omega)), kcf a j (wr_out (by omega))], fun q => ⟨by rw [noE, up2_ne (by omega), noE, up2_ne (by omega), kgf _ _ (wr_out (by omega)), ← kba]; exact kc.1, fun k hk => by rw [noE, up2_ne (by omega), noE, up2_ne (by omega), kgf _ _ (wr_out (by omega)), ← kbb]; exact kc.2 k hk⟩⟩), (by first | exact fun _ => RST_eq k78 (fun a j h1 h2 => by rw [noE, up2_ne (by omega), noE, up2_ne (by omega)]) | exact fun q => by exfalso; omega), (by first | exact fun _ _ _ _ _ => rfl | exact fun a i h1 h2 h3 => by have h3 := h3.resolve_left (by omega); rw [noE, up2_ne (by omega), noE, up2_ne (by omega), kgf a i (wr_out (by omega)), kcf a i (wr_out (by omega))] | exact fun a i h1 h2 h3 => by rw [noE, up2_ne (by omega)])⟩⟩
  · have c1 := iv_nlt (X := x0.toInt) (Y := 1) c1 rfl (by decide)
    refine pv_iload_n (M := mX11_blank) 1 dX11_blank_5 6 rfl rfl rfl ?_
    refine pv_bipush (M := mX11_blank) (v := 40) dX11_blank_6 8 rfl (by decide) ?_
    refine pv_icmp_gt (M := mX11_blank) (tgt := 31) dX11_blank_8 11 rfl (by decide) (fun c3 => ?_) (fun c3 => ?_)
    · have c3 := iv_lt (X := 40) (Y := x0.toInt) c3 (by decide) rfl
      refine pv_iconst (M := mX11_blank) (v := (-1)) dX11_blank_31 32 rfl (by decide) ?_
      have z4 : ((-1) : Int32).toInt = (-1) := by decide
      exact pv_iret (M := mX11_blank) dX11_blank_32 rfl rfl ⟨_, _, _, rfl, rfl, I, Kp, by decide, by decide, ⟨(by first | exact Or.inr ⟨by omega, (by first | omega | decide), (by first | omega | decide), (by first | omega | decide)⟩ | exact Or.inl ⟨by omega, by omega, by omega, by omega, (by first | omega | decide), (kf.elim (fun q => Or.inl ⟨q.2, by omega, by omega⟩) (fun q => by exfalso; omega))⟩ | exact Or.inl ⟨by omega, by omega, by omega, by omega, (by first | omega | decide), (kf.elim (fun q => by exfalso; omega) (fun q => Or.inr ⟨q.2, (by first | omega | decide), by omega⟩))⟩), (by first | exact ⟨fun _ _ _ _ => rfl, fun q => by exfalso; omega⟩ | exact ⟨fun a j h _ => by have z := isW_b h; rw [noE, up2_ne (by omega)], fun q => by exfalso; omega⟩ | exact ⟨fun a j h h1 => by have z := isW_b h; have h1 := h1.resolve_left (by omega); rw [noE, up2_ne (by omega), noE, up2_ne (by omega), kgf a j (wr_out (by omega)), kcf a j (wr_out (by omega))], fun q => ⟨by rw [noE, up2_ne (by omega), noE, up2_ne (by omega), kgf _ _ (wr_out (by omega)), ← kba]; exact kc.1, fun k hk => by rw [noE, up2_ne (by omega), noE, up2_ne (by omega), kgf _ _ (wr_out (by omega)), ← kbb]; exact kc.2 k hk⟩⟩), (by first | exact fun _ => RST_eq k78 (fun a j h1 h2 => by rw [noE, up2_ne (by omega), noE, up2_ne (by omega)]) | exact fun q => by exfalso; omega), (by first | exact fun _ _ _ _ _ => rfl | exact fun a i h1 h2 h3 => by have h3 := h3.resolve_left (by omega); rw [noE, up2_ne (by omega), noE, up2_ne (by omega), kgf a i (wr_out (by omega)), kcf a i (wr_out (by omega))] | exact fun a i h1 h2 h3 => by rw [noE, up2_ne (by omega)])⟩⟩
    · have c3 := iv_nlt (X := 40) (Y := x0.toInt) c3 (by decide) rfl
      refine pv_aload_n (M := mX11_blank) 0 dX11_blank_11 12 rfl rfl rfl ?_
      refine iv_get (M := mX11_blank) (l1 := 0) (l2 := 8) dX11_blank_12 FX11 2 wd409 (by decide) (tl0 hT) rfl I rfl 15 rfl (fun v5 ev5 pv5 qv5 => ?_)
      have wv5 : v5.toInt = (m 0 2).toInt := congrArg Int32.toInt ev5
      refine pv_bipush (M := mX11_blank) (v := 8) dX11_blank_15 17 rfl (by decide) ?_
      refine pv_icmp_ge (M := mX11_blank) (tgt := 31) dX11_blank_17 20 rfl (by decide) (fun c6 => ?_) (fun c6 => ?_)
      · have c6 := iv_le (X := 8) (Y := v5.toInt) c6 (by decide) rfl
        refine pv_iconst (M := mX11_blank) (v := (-1)) dX11_blank_31 32 rfl (by decide) ?_
        have z7 : ((-1) : Int32).toInt = (-1) := by decide
        exact pv_iret (M := mX11_blank) dX11_blank_32 rfl rfl ⟨_, _, _, rfl, rfl, I, Kp, by decide, by decide, ⟨(by first | exact Or.inr ⟨by omega, (by first | omega | decide), (by first | omega | decide), (by first | omega | decide)⟩ | exact Or.inl ⟨by omega, by omega, by omega, by omega, (by first | omega | decide), (kf.elim (fun q => Or.inl ⟨q.2, by omega, by omega⟩) (fun q => by exfalso; omega))⟩ | exact Or.inl ⟨by omega, by omega, by omega, by omega, (by first | omega | decide), (kf.elim (fun q => by exfalso; omega) (fun q => Or.inr ⟨q.2, (by first | omega | decide), by omega⟩))⟩), (by first | exact ⟨fun _ _ _ _ => rfl, fun q => by exfalso; omega⟩ | exact ⟨fun a j h _ => by have z := isW_b h; rw [noE, up2_ne (by omega)], fun q => by exfalso; omega⟩ | exact ⟨fun a j h h1 => by have z := isW_b h; have h1 := h1.resolve_left (by omega); rw [noE, up2_ne (by omega), noE, up2_ne (by omega), kgf a j (wr_out (by omega)), kcf a j (wr_out (by omega))], fun q => ⟨by rw [noE, up2_ne (by omega), noE, up2_ne (by omega), kgf _ _ (wr_out (by omega)), ← kba]; exact kc.1, fun k hk => by rw [noE, up2_ne (by omega), noE, up2_ne (by omega), kgf _ _ (wr_out (by omega)), ← kbb]; exact kc.2 k hk⟩⟩), (by first | exact fun _ => RST_eq k78 (fun a j h1 h2 => by rw [noE, up2_ne (by omega), noE, up2_ne (by omega)]) | exact fun q => by exfalso; omega), (by first | exact fun _ _ _ _ _ => rfl | exact fun a i h1 h2 h3 => by have h3 := h3.resolve_left (by omega); rw [noE, up2_ne (by omega), noE, up2_ne (by omega), kgf a i (wr_out (by omega)), kcf a i (wr_out (by omega))] | exact fun a i h1 h2 h3 => by rw [noE, up2_ne (by omega)])⟩⟩
      · have c6 := iv_nle (X := 8) (Y := v5.toInt) c6 (by decide) rfl
        refine pv_iload_n (M := mX11_blank) 1 dX11_blank_20 21 rfl rfl rfl ?_
        refine pv_aload_n (M := mX11_blank) 0 dX11_blank_21 22 rfl rfl rfl ?_
        refine mv_get (M := mX11_blank) (v := .ref 1) dX11_blank_22 FX11 0 wd407 (by decide) (tl0 hT) rfl rfl 25 rfl ?_
        refine iv_get (M := mX11_blank) (l1 := 0) (l2 := 200) dX11_blank_25 FX10 1 wd164 (by decide) (tl1 hT) rfl I rfl 28 rfl (fun v8 ev8 pv8 qv8 => ?_)
        have wv8 : v8.toInt = (m 1 1).toInt := congrArg Int32.toInt ev8
        refine pv_icmp_le (M := mX11_blank) (tgt := 33) dX11_blank_28 31 rfl (by decide) (fun c9 => ?_) (fun c9 => ?_)
        · have c9 := iv_le (X := x0.toInt) (Y := v8.toInt) c9 rfl rfl
          refine pv_aload_n (M := mX11_blank) 0 dX11_blank_33 34 rfl rfl rfl ?_
          refine mv_get (M := mX11_blank) (v := .ref 1) dX11_blank_34 FX11 0 wd407 (by decide) (tl0 hT) rfl rfl 37 rfl ?_
          refine pv_iload_n (M := mX11_blank) 1 dX11_blank_37 38 rfl rfl rfl ?_
          refine pv_callv (M := mX11_blank) (as := [.int x0]) (st := []) (kc2 := 0) (ks2 := 0) dX11_blank_38 wd479 YX10_holdsLetters ⟨wd480, wd481⟩ (mk_get (tl1 hT)) rfl rfl (s_X10_holdsLetters_vx g hT I x0 (by omega) (by omega)) rfl rfl (Nat.le_of_ble_eq_true rfl) (by decide) rfl rfl 41 rfl (fun rv h1 q10 => ?_)
          obtain ⟨v11, rfl, rfl, pv11, qv11, rv11⟩ := q10
          replace rv11 : (v11.toInt = 1 ∧ LET 2 m x0.toInt) ∨ (v11.toInt = 0 ∧ ¬ LET 2 m x0.toInt) := rv11
          show PV _ _ _ _ _ _ _ 41 [.ref 0, .int x0, pv_U] [.int v11] _
          have kf := rv11
          refine pv_istore_n (M := mX11_blank) 2 (lo2 := [.ref 0, .int x0, .int v11]) dX11_blank_41 42 rfl rfl (by decide) rfl rfl ?_
          refine pv_iload_n (M := mX11_blank) 2 dX11_blank_42 43 rfl rfl rfl ?_
          refine pv_if_eq (M := mX11_blank) (tgt := 88) dX11_blank_43 46 rfl (by decide) (fun c13 => ?_) (fun c13 => ?_)
          · have c13 := iv_eq (X := v11.toInt) (Y := 0) c13 rfl (by decide)
            refine pv_aload_n (M := mX11_blank) 0 dX11_blank_88 89 rfl rfl rfl ?_
            refine mv_get (M := mX11_blank) (v := .ref 1) dX11_blank_89 FX11 0 wd407 (by decide) (tl0 hT) rfl rfl 92 rfl ?_
            refine pv_iconst (M := mX11_blank) (v := 0) dX11_blank_92 93 rfl (by decide) ?_
            refine iv_put (M := mX11_blank) (l1 := 0) (l2 := 200) dX11_blank_93 FX10 1 wd164 (by decide) rfl (tl1 hT) rfl rfl rfl I rfl (by decide) (by decide) 96 rfl (fun m14 e17 I15 => ?_)
            have K16 := Kp.set e17 (by first | rfl | decide)
            have w18 : (m14 0 2).toInt = (m 0 2).toInt := by rw [e17, up2_ne (by omega)]
            have w19 : (m14 1 1).toInt = 0 := by rw [e17, up2_eq] <;> rfl
            refine pv_iload_n (M := mX11_blank) 2 dX11_blank_96 97 rfl rfl rfl ?_
            refine pv_if_eq (M := mX11_blank) (tgt := 109) dX11_blank_97 100 rfl (by decide) (fun c20 => ?_) (fun c20 => ?_)
            · have c20 := iv_eq (X := v11.toInt) (Y := 0) c20 rfl (by decide)
              refine pv_bipush (M := mX11_blank) (v := (-2)) dX11_blank_109 111 rfl (by decide) ?_
              have z21 : ((-2) : Int32).toInt = (-2) := by decide
              exact pv_iret (M := mX11_blank) dX11_blank_111 rfl rfl ⟨_, _, _, rfl, rfl, I15, K16, by decide, by decide, ⟨(by first | exact Or.inr ⟨by omega, (by first | omega | decide), (by first | omega | decide), (by first | omega | decide)⟩ | exact Or.inl ⟨by omega, by omega, by omega, by omega, (by first | omega | decide), (kf.elim (fun q => Or.inl ⟨q.2, by omega, by omega⟩) (fun q => by exfalso; omega))⟩ | exact Or.inl ⟨by omega, by omega, by omega, by omega, (by first | omega | decide), (kf.elim (fun q => by exfalso; omega) (fun q => Or.inr ⟨q.2, (by first | omega | decide), by omega⟩))⟩), (by first | exact ⟨fun _ _ _ _ => rfl, fun q => by exfalso; omega⟩ | exact ⟨fun a j h _ => by have z := isW_b h; rw [e17, up2_ne (by omega)], fun q => by exfalso; omega⟩ | exact ⟨fun a j h h1 => by have z := isW_b h; have h1 := h1.resolve_left (by omega); rw [e17, up2_ne (by omega), noE, up2_ne (by omega), kgf a j (wr_out (by omega)), kcf a j (wr_out (by omega))], fun q => ⟨by rw [e17, up2_ne (by omega), noE, up2_ne (by omega), kgf _ _ (wr_out (by omega)), ← kba]; exact kc.1, fun k hk => by rw [e17, up2_ne (by omega), noE, up2_ne (by omega), kgf _ _ (wr_out (by omega)), ← kbb]; exact kc.2 k hk⟩⟩), (by first | exact fun _ => RST_eq k78 (fun a j h1 h2 => by rw [e17, up2_ne (by omega), noE, up2_ne (by omega)]) | exact fun q => by exfalso; omega), (by first | exact fun _ _ _ _ _ => rfl | exact fun a i h1 h2 h3 => by have h3 := h3.resolve_left (by omega); rw [e17, up2_ne (by omega), noE, up2_ne (by omega), kgf a i (wr_out (by omega)), kcf a i (wr_out (by omega))] | exact fun a i h1 h2 h3 => by rw [e17, up2_ne (by omega)])⟩⟩
            · have c20 := iv_ne (X := v11.toInt) (Y := 0) c20 rfl (by decide)
              omega
          · have c13 := iv_ne (X := v11.toInt) (Y := 0) c13 rfl (by decide)
            refine pv_aload_n (M := mX11_blank) 0 dX11_blank_46 47 rfl rfl rfl ?_
            refine mv_get (M := mX11_blank) (v := .ref 1) dX11_blank_47 FX11 0 wd407 (by decide) (tl0 hT) rfl rfl 50 rfl ?_
            refine pv_iload_n (M := mX11_blank) 1 dX11_blank_50 51 rfl rfl rfl ?_
            refine pv_aload_n (M := mX11_blank) 0 dX11_blank_51 52 rfl rfl rfl ?_
            refine mv_get (M := mX11_blank) (v := .ref 3) dX11_blank_52 FX11 1 wd408 (by decide) (tl0 hT) rfl rfl 55 rfl ?_
            refine pv_aload_n (M := mX11_blank) 0 dX11_blank_55 56 rfl rfl rfl ?_
            refine iv_get (M := mX11_blank) (l1 := 0) (l2 := 8) dX11_blank_56 FX11 2 wd409 (by decide) (tl0 hT) rfl I rfl 59 rfl (fun v22 ev22 pv22 qv22 => ?_)
            have wv22 : v22.toInt = (m 0 2).toInt := congrArg Int32.toInt ev22
            refine iv_qblank (M := mX11_blank) (X := v22.toInt) dX11_blank_59 hT R rfl (by omega) (by omega) 60 rfl (fun b23 eb23 hb23 => ?_)
            have zb23 := hb23.2.2.2.2.2.2.2
            refine mv_get (M := mX11_blank) (v := .ref (b23 + 1)) dX11_blank_60 FX0 0 wd208 (by decide) hb23.1 rfl rfl 63 rfl ?_
            have kba : (b23 + 1) = 5 + 7 * cnc m := by unfold cnc; omega
            have kbb : (b23 + 1) + 1 = 6 + 7 * cnc m := by omega
            refine pv_callv (M := mX11_blank) (as := [.int x0, .ref (b23 + 1)]) (st := []) (kc2 := 0) (ks2 := 0) dX11_blank_63 wd483 YX10_copyLetters ⟨wd484, wd485⟩ (mk_get (tl1 hT)) rfl rfl (s_X10_copyLetters_vy g hT I x0 (by omega) (by omega) (b23 + 1) 40 hb23.2.1 (by omega)) rfl rfl (Nat.le_of_ble_eq_true rfl) (by decide) rfl rfl 66 rfl (fun rv h1 q26 => ?_)
            obtain ⟨m27, n28, rfl, rfl, I29, K30, rm27⟩ := q26
            replace rm27 : (m27 (b23 + 1) 1).toInt = x0.toInt ∧ ∀ k : Nat, (k : Int) < x0.toInt → (m27 ((b23 + 1) + 1) k).toInt = (m 2 k).toInt - 97 := rm27
            have K30c := K30
            have w31 : (m27 0 2).toInt = (m 0 2).toInt := congrArg Int32.toInt (K30 0 2 (wr_out (by omega)))
            have w32 : (m27 1 1).toInt = (m 1 1).toInt := congrArg Int32.toInt (K30 1 1 (wr_out (by omega)))
            have K30 := Kp.trans (K30.sub (by first | exact bl_wPb1 (by omega) (by omega) (by omega) | exact bl_wPb3 (by omega) (by omega) (by omega) | first | exact wg_l (by decide) | exact wg_g (by decide) | exact WX_wg | exact la7_wg zR (by decide) | exact wsL_wg zR (by decide)))
            show PV _ _ _ _ _ _ _ 66 [.ref 0, .int x0, .int v11] [] _
            have kc := rm27
            have kcf := K30c
            refine pv_aload_n (M := mX11_blank) 0 dX11_blank_66 67 rfl rfl rfl ?_
            refine mv_get (M := mX11_blank) (v := .ref 3) dX11_blank_67 FX11 1 wd408 (by decide) (tl0 hT) rfl rfl 70 rfl ?_
            refine pv_aload_n (M := mX11_blank) 0 dX11_blank_70 71 rfl rfl rfl ?_
            refine iv_get (M := mX11_blank) (l1 := 0) (l2 := 8) dX11_blank_71 FX11 2 wd409 (by decide) (tl0 hT) rfl I29 rfl 74 rfl (fun v35 ev35 pv35 qv35 => ?_)
            have wv35 : v35.toInt = (m27 0 2).toInt := congrArg Int32.toInt ev35
            refine iv_qblank (M := mX11_blank) (X := v35.toInt) dX11_blank_74 hT R rfl (by omega) (by omega) 75 rfl (fun b36 eb36 hb36 => ?_)
            have zb36 := hb36.2.2.2.2.2.2.2
            have k75 : b36 = 4 + 7 * (m 0 2).toInt.toNat := by omega
            refine pv_callv (M := mX11_blank) (as := []) (st := []) (kc2 := 0) (ks2 := 0) dX11_blank_75 wd491 YX0_gather ⟨wd492, wd493⟩ (mk_get hb36.1) rfl rfl (s_X0_gather_vz g hT I29 b36 hb36) rfl rfl (Nat.le_of_ble_eq_true rfl) (by decide) rfl rfl 78 rfl (fun rv h1 q38 => ?_)
            obtain ⟨m39, n40, rfl, rfl, I41, K42, rm39⟩ := q38
            replace rm39 : RST m39 b36 := rm39
            have K42c := K42
            have w43 : (m39 0 2).toInt = (m27 0 2).toInt := congrArg Int32.toInt (K42 0 2 (wr_out (by omega)))
            have w44 : (m39 1 1).toInt = (m27 1 1).toInt := congrArg Int32.toInt (K42 1 1 (wr_out (by omega)))
            have K42 := K30.trans (K42.sub (by first | exact bl_wPb1 (by omega) (by omega) (by omega) | exact bl_wPb3 (by omega) (by omega) (by omega) | first | exact wg_l (by decide) | exact wg_g (by decide) | exact WX_wg | exact la7_wg zR (by decide) | exact wsL_wg zR (by decide)))
            show PV _ _ _ _ _ _ _ 78 [.ref 0, .int x0, .int v11] [] _
            have kgf := K42c
            have k78 := rm39
            rw [k75] at k78
            refine pv_aload_n (M := mX11_blank) 0 dX11_blank_78 79 rfl rfl rfl ?_
            refine pv_dup (M := mX11_blank) dX11_blank_79 80 rfl rfl ?_
            refine iv_get (M := mX11_blank) (l1 := 0) (l2 := 8) dX11_blank_80 FX11 2 wd409 (by decide) (tl0 hT) rfl I41 rfl 83 rfl (fun v48 ev48 pv48 qv48 => ?_)
            have wv48 : v48.toInt = (m39 0 2).toInt := congrArg Int32.toInt ev48
            refine pv_iconst (M := mX11_blank) (v := 1) dX11_blank_83 84 rfl (by decide) ?_
            refine iv_iadd (M := mX11_blank) (X := v48.toInt) (Y := 1) dX11_blank_84 85 rfl rfl (by decide) (by omega) (by omega) (fun v49 ev49 => ?_)
            refine iv_put (M := mX11_blank) (l1 := 0) (l2 := 8) dX11_blank_85 FX11 2 wd409 (by decide) rfl (tl0 hT) rfl rfl rfl I41 rfl (by omega) (by omega) 88 rfl (fun m50 e53 I51 => ?_)
            have K52 := K42.set e53 (by first | rfl | decide)
            have w54 : (m50 0 2).toInt = v49.toInt := by rw [e53, up2_eq]
            have w55 : (m50 1 1).toInt = (m39 1 1).toInt := by rw [e53, up2_ne (by omega)]
            refine pv_aload_n (M := mX11_blank) 0 dX11_blank_88 89 rfl rfl rfl ?_
            refine mv_get (M := mX11_blank) (v := .ref 1) dX11_blank_89 FX11 0 wd407 (by decide) (tl0 hT) rfl rfl 92 rfl ?_
            refine pv_iconst (M := mX11_blank) (v := 0) dX11_blank_92 93 rfl (by decide) ?_
            refine iv_put (M := mX11_blank) (l1 := 0) (l2 := 200) dX11_blank_93 FX10 1 wd164 (by decide) rfl (tl1 hT) rfl rfl rfl I51 rfl (by decide) (by decide) 96 rfl (fun m56 e59 I57 => ?_)
            have K58 := K52.set e59 (by first | rfl | decide)
            have w60 : (m56 0 2).toInt = (m50 0 2).toInt := by rw [e59, up2_ne (by omega)]
            have w61 : (m56 1 1).toInt = 0 := by rw [e59, up2_eq] <;> rfl
            refine pv_iload_n (M := mX11_blank) 2 dX11_blank_96 97 rfl rfl rfl ?_
            refine pv_if_eq (M := mX11_blank) (tgt := 109) dX11_blank_97 100 rfl (by decide) (fun c62 => ?_) (fun c62 => ?_)
            · have c62 := iv_eq (X := v11.toInt) (Y := 0) c62 rfl (by decide)
              omega
            · have c62 := iv_ne (X := v11.toInt) (Y := 0) c62 rfl (by decide)
              refine pv_aload_n (M := mX11_blank) 0 dX11_blank_100 101 rfl rfl rfl ?_
              refine iv_get (M := mX11_blank) (l1 := 0) (l2 := 8) dX11_blank_101 FX11 2 wd409 (by decide) (tl0 hT) rfl I57 rfl 104 rfl (fun v63 ev63 pv63 qv63 => ?_)
              have wv63 : v63.toInt = (m56 0 2).toInt := congrArg Int32.toInt ev63
              refine pv_iconst (M := mX11_blank) (v := 1) dX11_blank_104 105 rfl (by decide) ?_
              refine iv_isub (M := mX11_blank) (X := v63.toInt) (Y := 1) dX11_blank_105 106 rfl rfl (by decide) (by omega) (by omega) (fun v64 ev64 => ?_)
              refine pv_goto (M := mX11_blank) (tgt := 111) dX11_blank_106 (by decide) ?_
              exact pv_iret (M := mX11_blank) dX11_blank_111 rfl rfl ⟨_, _, _, rfl, rfl, I57, K58, (iv_rng v64).1, (iv_rng v64).2, ⟨(by first | exact Or.inr ⟨by omega, (by first | omega | decide), (by first | omega | decide), (by first | omega | decide)⟩ | exact Or.inl ⟨by omega, by omega, by omega, by omega, (by first | omega | decide), (kf.elim (fun q => Or.inl ⟨q.2, by omega, by omega⟩) (fun q => by exfalso; omega))⟩ | exact Or.inl ⟨by omega, by omega, by omega, by omega, (by first | omega | decide), (kf.elim (fun q => by exfalso; omega) (fun q => Or.inr ⟨q.2, (by first | omega | decide), by omega⟩))⟩), (by first | exact ⟨fun _ _ _ _ => rfl, fun q => by exfalso; omega⟩ | exact ⟨fun a j h _ => by have z := isW_b h; rw [e59, up2_ne (by omega)], fun q => by exfalso; omega⟩ | exact ⟨fun a j h h1 => by have z := isW_b h; have h1 := h1.resolve_left (by omega); rw [e59, up2_ne (by omega), e53, up2_ne (by omega), kgf a j (wr_out (by omega)), kcf a j (wr_out (by omega))], fun q => ⟨by rw [e59, up2_ne (by omega), e53, up2_ne (by omega), kgf _ _ (wr_out (by omega)), ← kba]; exact kc.1, fun k hk => by rw [e59, up2_ne (by omega), e53, up2_ne (by omega), kgf _ _ (wr_out (by omega)), ← kbb]; exact kc.2 k hk⟩⟩), (by first | exact fun _ => RST_eq k78 (fun a j h1 h2 => by rw [e59, up2_ne (by omega), e53, up2_ne (by omega)]) | exact fun q => by exfalso; omega), (by first | exact fun _ _ _ _ _ => rfl | exact fun a i h1 h2 h3 => by have h3 := h3.resolve_left (by omega); rw [e59, up2_ne (by omega), e53, up2_ne (by omega), kgf a i (wr_out (by omega)), kcf a i (wr_out (by omega))] | exact fun a i h1 h2 h3 => by rw [e59, up2_ne (by omega)])⟩⟩
        · have c9 := iv_nle (X := x0.toInt) (Y := v8.toInt) c9 rfl rfl
          refine pv_iconst (M := mX11_blank) (v := (-1)) dX11_blank_31 32 rfl (by decide) ?_
          have z65 : ((-1) : Int32).toInt = (-1) := by decide
          exact pv_iret (M := mX11_blank) dX11_blank_32 rfl rfl ⟨_, _, _, rfl, rfl, I, Kp, by decide, by decide, ⟨(by first | exact Or.inr ⟨by omega, (by first | omega | decide), (by first | omega | decide), (by first | omega | decide)⟩ | exact Or.inl ⟨by omega, by omega, by omega, by omega, (by first | omega | decide), (kf.elim (fun q => Or.inl ⟨q.2, by omega, by omega⟩) (fun q => by exfalso; omega))⟩ | exact Or.inl ⟨by omega, by omega, by omega, by omega, (by first | omega | decide), (kf.elim (fun q => by exfalso; omega) (fun q => Or.inr ⟨q.2, (by first | omega | decide), by omega⟩))⟩), (by first | exact ⟨fun _ _ _ _ => rfl, fun q => by exfalso; omega⟩ | exact ⟨fun a j h _ => by have z := isW_b h; rw [noE, up2_ne (by omega)], fun q => by exfalso; omega⟩ | exact ⟨fun a j h h1 => by have z := isW_b h; have h1 := h1.resolve_left (by omega); rw [noE, up2_ne (by omega), noE, up2_ne (by omega), kgf a j (wr_out (by omega)), kcf a j (wr_out (by omega))], fun q => ⟨by rw [noE, up2_ne (by omega), noE, up2_ne (by omega), kgf _ _ (wr_out (by omega)), ← kba]; exact kc.1, fun k hk => by rw [noE, up2_ne (by omega), noE, up2_ne (by omega), kgf _ _ (wr_out (by omega)), ← kbb]; exact kc.2 k hk⟩⟩), (by first | exact fun _ => RST_eq k78 (fun a j h1 h2 => by rw [noE, up2_ne (by omega), noE, up2_ne (by omega)]) | exact fun q => by exfalso; omega), (by first | exact fun _ _ _ _ _ => rfl | exact fun a i h1 h2 h3 => by have h3 := h3.resolve_left (by omega); rw [noE, up2_ne (by omega), noE, up2_ne (by omega), kgf a i (wr_out (by omega)), kcf a i (wr_out (by omega))] | exact fun a i h1 h2 h3 => by rw [noE, up2_ne (by omega)])⟩⟩
