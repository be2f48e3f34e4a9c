set_option maxHeartbeats 2000000 in
set_option maxRecDepth 20000 in
theorem s_X12_in_vx (g : pv_G) {T : List mv_T} {m : Nat → Nat → Int32} {n : Nat → Nat → Int64} {r : Nat → Value} (hT : TX T) (I : IV BB m) (x0 : Int32) (x1 : Int32) (x2 : Int32) : PM g mX12_in yX12_in (sqP (mk T m n r) 0 1 (fun v => (v.toInt = 1 ∧ x1.toInt ≤ x0.toInt ∧ x0.toInt ≤ x2.toInt) ∨ (v.toInt = 0 ∧ (x0.toInt < x1.toInt ∨ x2.toInt < x0.toInt)))) 1 0 0 [.int x0, .int x1, .int x2] (mk T m n r) := by
  have Kp : fr (wl []) m m := fr.rf
  refine PM.of 0 (lo := [.int x0, .int x1, .int x2]) rfl (by decide) rfl rfl (Nat.le_of_ble_eq_true rfl) ?_
  refine pv_iload_n (M := mX12_in) 0 dX12_in_0 1 rfl rfl rfl ?_
  refine pv_iload_n (M := mX12_in) 1 dX12_in_1 2 rfl rfl rfl ?_
  refine pv_icmp_lt (M := mX12_in) (tgt := 14) dX12_in_2 5 rfl (by decide) (fun c1 => ?_) (fun c1 => ?_)
  · have c1 := iv_lt (X := x0.toInt) (Y := x1.toInt) c1 rfl rfl
    refine pv_iconst (M := mX12_in) (v := 0) dX12_in_14 15 rfl (by decide) ?_
    have z2 : (0 : Int32).toInt = 0 := by decide
    exact pv_iret (M := mX12_in) dX12_in_15 rfl rfl ⟨_, rfl, rfl, by decide, by decide, (Or.inr ⟨by decide, by omega⟩)⟩
  · have c1 := iv_nlt (X := x0.toInt) (Y := x1.toInt) c1 rfl rfl
    refine pv_iload_n (M := mX12_in) 0 dX12_in_5 6 rfl rfl rfl ?_
    refine pv_iload_n (M := mX12_in) 2 dX12_in_6 7 rfl rfl rfl ?_
    refine pv_icmp_gt (M := mX12_in) (tgt := 14) dX12_in_7 10 rfl (by decide) (fun c3 => ?_) (fun c3 => ?_)
    · have c3 := iv_lt (X := x2.toInt) (Y := x0.toInt) c3 rfl rfl
      refine pv_iconst (M := mX12_in) (v := 0) dX12_in_14 15 rfl (by decide) ?_
      have z4 : (0 : Int32).toInt = 0 := by decide
      exact pv_iret (M := mX12_in) dX12_in_15 rfl rfl ⟨_, rfl, rfl, by decide, by decide, (Or.inr ⟨by decide, by omega⟩)⟩
    · have c3 := iv_nlt (X := x2.toInt) (Y := x0.toInt) c3 rfl rfl
      refine pv_iconst (M := mX12_in) (v := 1) dX12_in_10 11 rfl (by decide) ?_
      refine pv_goto (M := mX12_in) (tgt := 15) dX12_in_11 (by decide) ?_
      have z5 : (1 : Int32).toInt = 1 := by decide
      exact pv_iret (M := mX12_in) dX12_in_15 rfl rfl ⟨_, rfl, rfl, by decide, by decide, (Or.inl ⟨by decide, by omega, by omega⟩)⟩

set_option maxHeartbeats 2000000 in
set_option maxRecDepth 20000 in
theorem s_X12_seed_vx (g : pv_G) {T : List mv_T} {m : Nat → Nat → Int32} {n : Nat → Nat → Int64} {r : Nat → Value} (hT : TX T) (I : IV BB m) (x0 : Int32) : PM g mX12_seed yX12_seed (sqI T BB (wl [(123, 123, some 2)]) r m 0 1 (fun m' v => (v.toInt = 1 ∧ 0 ≤ x0.toInt ∧ x0.toInt ≤ 65535) ∨ (v.toInt = 0 ∧ (x0.toInt < 0 ∨ 65535 < x0.toInt)))) 2 0 0 [.ref 123, .int x0] (mk T m n r) := by
  have Kp : fr (wl [(123, 123, some 2)]) m m := fr.rf
  refine PM.of 0 (lo := [.ref 123, .int x0]) rfl (by decide) rfl rfl (Nat.le_of_ble_eq_true rfl) ?_
  refine pv_iload_n (M := mX12_seed) 1 dX12_seed_0 1 rfl rfl rfl ?_
  refine pv_iconst (M := mX12_seed) (v := 0) dX12_seed_1 2 rfl (by decide) ?_
  refine pv_ldcw (M := mX12_seed) (v := 65535) dX12_seed_2 5 rfl wd1777 ?_
  have z1 : (0 : Int32).toInt = 0 := by decide
  have z2 : (65535 : Int32).toInt = 65535 := by decide
  refine pv_calls (M := mX12_seed) (as := [.int x0, .int 0, .int 65535]) (st := []) (kc2 := 0) (ks2 := 0) dX12_seed_5 wd1370 YX12_in wd1371 (s_X12_in_vx g hT I x0 0 65535) rfl rfl (Nat.le_of_ble_eq_true rfl) (by decide) rfl rfl 8 rfl (fun rv h1 q3 => ?_)
  obtain ⟨v4, rfl, rfl, pv4, qv4, rv4⟩ := q3
  replace rv4 : (v4.toInt = 1 ∧ (0 : Int) ≤ x0.toInt ∧ x0.toInt ≤ (65535 : Int)) ∨ (v4.toInt = 0 ∧ (x0.toInt < (0 : Int) ∨ (65535 : Int) < x0.toInt)) := by have q_ := rv4; (try rw [z1] at q_); (try rw [z2] at q_); exact q_
  show PV _ _ _ _ _ _ _ 8 [.ref 123, .int x0] [.int v4] _
  refine pv_if_ne (M := mX12_seed) (tgt := 13) dX12_seed_8 11 rfl (by decide) (fun c5 => ?_) (fun c5 => ?_)
  · have c5 := iv_ne (X := v4.toInt) (Y := 0) c5 rfl (by decide)
    refine pv_aload_n (M := mX12_seed) 0 dX12_seed_13 14 rfl rfl rfl ?_
    refine pv_iload_n (M := mX12_seed) 1 dX12_seed_14 15 rfl rfl rfl ?_
    refine iv_put (M := mX12_seed) (l1 := 0) (l2 := 65535) dX12_seed_15 FX12 2 wd1175 (by decide) rfl (tl123 hT) rfl rfl rfl I rfl (by omega) (by omega) 18 rfl (fun m6 e9 I7 => ?_)
    have K8 := Kp.set e9 rfl
    refine pv_iconst (M := mX12_seed) (v := 1) dX12_seed_18 19 rfl (by decide) ?_
    have z10 : (1 : Int32).toInt = 1 := by decide
    exact pv_iret (M := mX12_seed) dX12_seed_19 rfl rfl ⟨_, _, _, rfl, rfl, I7, K8, by decide, by decide, (Or.inl ⟨by decide, by omega, by omega⟩)⟩
  · have c5 := iv_eq (X := v4.toInt) (Y := 0) c5 rfl (by decide)
    refine pv_iconst (M := mX12_seed) (v := 0) dX12_seed_11 12 rfl (by decide) ?_
    have z11 : (0 : Int32).toInt = 0 := by decide
    exact pv_iret (M := mX12_seed) dX12_seed_12 rfl rfl ⟨_, _, _, rfl, rfl, I, Kp, by decide, by decide, (Or.inr ⟨by decide, by omega⟩)⟩

set_option maxHeartbeats 2000000 in
set_option maxRecDepth 20000 in
theorem s_X11_seed_vx (g : pv_G) {T : List mv_T} {m : Nat → Nat → Int32} {n : Nat → Nat → Int64} {r : Nat → Value} {la lb : Nat} (hT : TX T) (I : IV BB m) (R : RX T r la lb) (x0 : Int32) : PM g mX11_seed yX11_seed (sqI T BB wC r m 0 1 (fun m' v => (v.toInt = 1 ∧ 0 ≤ x0.toInt ∧ x0.toInt ≤ 65535) ∨ (v.toInt = 0 ∧ (x0.toInt < 0 ∨ 65535 < x0.toInt)))) 1 0 0 [.ref 0, .int x0] (mk T m n r) := by
  have Kp : fr wC m m := fr.rf
  have R0 := R
  have zR := R.2.2.2.2.1.1
  have zR2 := R.2.2.2.2.2.1
  refine PM.of 0 (lo := [.ref 0, .int x0]) rfl (by decide) rfl rfl (Nat.le_of_ble_eq_true rfl) ?_
  refine pv_iload_n (M := mX11_seed) 1 dX11_seed_0 1 rfl rfl rfl ?_
  refine pv_if_lt (M := mX11_seed) (tgt := 11) dX11_seed_1 4 rfl (by decide) (fun c1 => ?_) (fun c1 => ?_)
  · have c1 := iv_lt (X := x0.toInt) (Y := 0) c1 rfl (by decide)
    refine pv_iconst (M := mX11_seed) (v := 0) dX11_seed_11 12 rfl (by decide) ?_
    have z2 : (0 : Int32).toInt = 0 := by decide
    exact pv_iret (M := mX11_seed) dX11_seed_12 rfl rfl ⟨_, _, _, rfl, rfl, I, Kp, by decide, by decide, (Or.inr ⟨by decide, by omega⟩)⟩
  · have c1 := iv_nlt (X := x0.toInt) (Y := 0) c1 rfl (by decide)
    refine pv_iload_n (M := mX11_seed) 1 dX11_seed_4 5 rfl rfl rfl ?_
    refine pv_ldcw (M := mX11_seed) (v := 65536) dX11_seed_5 8 rfl wd1145 ?_
    refine pv_icmp_lt (M := mX11_seed) (tgt := 13) dX11_seed_8 11 rfl (by decide) (fun c3 => ?_) (fun c3 => ?_)
    · have c3 := iv_lt (X := x0.toInt) (Y := 65536) c3 rfl (by decide)
      refine pv_aload_n (M := mX11_seed) 0 dX11_seed_13 14 rfl rfl rfl ?_
      refine pv_iload_n (M := mX11_seed) 1 dX11_seed_14 15 rfl rfl rfl ?_
      refine iv_put (M := mX11_seed) (l1 := 0) (l2 := 65535) dX11_seed_15 FX11 8 wd415 (by decide) rfl (tl0 hT) rfl rfl rfl I rfl (by omega) (by omega) 18 rfl (fun m4 e7 I5 => ?_)
      have K6 := Kp.set e7 rfl
      refine pv_iconst (M := mX11_seed) (v := 1) dX11_seed_18 19 rfl (by decide) ?_
      have z8 : (1 : Int32).toInt = 1 := by decide
      exact pv_iret (M := mX11_seed) dX11_seed_19 rfl rfl ⟨_, _, _, rfl, rfl, I5, K6, by decide, by decide, (Or.inl ⟨by decide, by omega, by omega⟩)⟩
    · have c3 := iv_nlt (X := x0.toInt) (Y := 65536) c3 rfl (by decide)
      refine pv_iconst (M := mX11_seed) (v := 0) dX11_seed_11 12 rfl (by decide) ?_
      have z9 : (0 : Int32).toInt = 0 := by decide
      exact pv_iret (M := mX11_seed) dX11_seed_12 rfl rfl ⟨_, _, _, rfl, rfl, I, Kp, by decide, by decide, (Or.inr ⟨by decide, by omega⟩)⟩
