set_option maxHeartbeats 2000000 in
set_option maxRecDepth 20000 in
theorem s_X12_in (g : pv_G) {T : List mv_T} {m : Nat → Nat → Int32} {n : Nat → Nat → Int64} {r : Nat → Value} (hT : TX T) (I : IV BB m) (x0 : Int32) (x1 : Int32) (x2 : Int32) : PM g mX12_in yX12_in (sqP (mk T m n r) 0 1 (fun v => v = 0 ∨ (x1.toInt ≤ x0.toInt ∧ x0.toInt ≤ x2.toInt))) 1 0 0 [.int x0, .int x1, .int x2] (mk T m n r) := by
  have Kp : fr (wl []) m m := fr.rf
  refine PM.of 0 (lo := [.int x0, .int x1, .int x2]) rfl (by decide) rfl rfl (Nat.le_of_ble_eq_true rfl) ?_
  refine pv_iload_n (M := mX12_in) 0 dX12_in_0 1 rfl rfl rfl ?_
  refine pv_iload_n (M := mX12_in) 1 dX12_in_1 2 rfl rfl rfl ?_
  refine pv_icmp_lt (M := mX12_in) (tgt := 14) dX12_in_2 5 rfl (by decide) (fun c1 => ?_) (fun c1 => ?_)
  · have c1 := iv_lt (X := x0.toInt) (Y := x1.toInt) c1 rfl rfl
    refine pv_iconst (M := mX12_in) (v := 0) dX12_in_14 15 rfl (by decide) ?_
    have z2 : (0 : Int32).toInt = 0 := by decide
    exact pv_iret (M := mX12_in) dX12_in_15 rfl rfl ⟨_, rfl, rfl, by decide, by decide, Or.inl rfl⟩
  · have c1 := iv_nlt (X := x0.toInt) (Y := x1.toInt) c1 rfl rfl
    refine pv_iload_n (M := mX12_in) 0 dX12_in_5 6 rfl rfl rfl ?_
    refine pv_iload_n (M := mX12_in) 2 dX12_in_6 7 rfl rfl rfl ?_
    refine pv_icmp_gt (M := mX12_in) (tgt := 14) dX12_in_7 10 rfl (by decide) (fun c3 => ?_) (fun c3 => ?_)
    · have c3 := iv_lt (X := x2.toInt) (Y := x0.toInt) c3 rfl rfl
      refine pv_iconst (M := mX12_in) (v := 0) dX12_in_14 15 rfl (by decide) ?_
      have z4 : (0 : Int32).toInt = 0 := by decide
      exact pv_iret (M := mX12_in) dX12_in_15 rfl rfl ⟨_, rfl, rfl, by decide, by decide, Or.inl rfl⟩
    · have c3 := iv_nlt (X := x2.toInt) (Y := x0.toInt) c3 rfl rfl
      refine pv_iconst (M := mX12_in) (v := 1) dX12_in_10 11 rfl (by decide) ?_
      refine pv_goto (M := mX12_in) (tgt := 15) dX12_in_11 (by decide) ?_
      have z5 : (1 : Int32).toInt = 1 := by decide
      exact pv_iret (M := mX12_in) dX12_in_15 rfl rfl ⟨_, rfl, rfl, by decide, by decide, (Or.inr (by omega))⟩

set_option maxHeartbeats 2000000 in
set_option maxRecDepth 20000 in
theorem s_X12_isBlank (g : pv_G) {T : List mv_T} {m : Nat → Nat → Int32} {n : Nat → Nat → Int64} {r : Nat → Value} (hT : TX T) (I : IV BB m) (x0 : Int32) : PM g mX12_isBlank yX12_isBlank (sqP (mk T m n r) 0 1 (fun v => v = 0 ∨ (0 ≤ x0.toInt ∧ x0.toInt ≤ 7))) 1 0 0 [.ref 123, .int x0] (mk T m n r) := by
  have Kp : fr (wl []) m m := fr.rf
  refine PM.of 0 (lo := [.ref 123, .int x0]) rfl (by decide) rfl rfl (Nat.le_of_ble_eq_true rfl) ?_
  refine pv_iload_n (M := mX12_isBlank) 1 dX12_isBlank_0 1 rfl rfl rfl ?_
  refine pv_if_lt (M := mX12_isBlank) (tgt := 16) dX12_isBlank_1 4 rfl (by decide) (fun c1 => ?_) (fun c1 => ?_)
  · have c1 := iv_lt (X := x0.toInt) (Y := 0) c1 rfl (by decide)
    refine pv_iconst (M := mX12_isBlank) (v := 0) dX12_isBlank_16 17 rfl (by decide) ?_
    have z2 : (0 : Int32).toInt = 0 := by decide
    exact pv_iret (M := mX12_isBlank) dX12_isBlank_17 rfl rfl ⟨_, rfl, rfl, by decide, by decide, Or.inl rfl⟩
  · have c1 := iv_nlt (X := x0.toInt) (Y := 0) c1 rfl (by decide)
    refine pv_iload_n (M := mX12_isBlank) 1 dX12_isBlank_4 5 rfl rfl rfl ?_
    refine pv_aload_n (M := mX12_isBlank) 0 dX12_isBlank_5 6 rfl rfl rfl ?_
    refine iv_get (M := mX12_isBlank) (l1 := 0) (l2 := 8) dX12_isBlank_6 FX12 0 wd1173 (by decide) (tl123 hT) rfl I rfl 9 rfl (fun v3 ev3 pv3 qv3 => ?_)
    refine pv_icmp_ge (M := mX12_isBlank) (tgt := 16) dX12_isBlank_9 12 rfl (by decide) (fun c4 => ?_) (fun c4 => ?_)
    · have c4 := iv_le (X := v3.toInt) (Y := x0.toInt) c4 rfl rfl
      refine pv_iconst (M := mX12_isBlank) (v := 0) dX12_isBlank_16 17 rfl (by decide) ?_
      have z5 : (0 : Int32).toInt = 0 := by decide
      exact pv_iret (M := mX12_isBlank) dX12_isBlank_17 rfl rfl ⟨_, rfl, rfl, by decide, by decide, Or.inl rfl⟩
    · have c4 := iv_nle (X := v3.toInt) (Y := x0.toInt) c4 rfl rfl
      refine pv_iconst (M := mX12_isBlank) (v := 1) dX12_isBlank_12 13 rfl (by decide) ?_
      refine pv_goto (M := mX12_isBlank) (tgt := 17) dX12_isBlank_13 (by decide) ?_
      have z6 : (1 : Int32).toInt = 1 := by decide
      exact pv_iret (M := mX12_isBlank) dX12_isBlank_17 rfl rfl ⟨_, rfl, rfl, by decide, by decide, (Or.inr (by omega))⟩

set_option maxHeartbeats 2000000 in
set_option maxRecDepth 20000 in
theorem s_X12_isDeed (g : pv_G) {T : List mv_T} {m : Nat → Nat → Int32} {n : Nat → Nat → Int64} {r : Nat → Value} (hT : TX T) (I : IV BB m) (x0 : Int32) : PM g mX12_isDeed yX12_isDeed (sqP (mk T m n r) 0 1 (fun v => v = 0 ∨ (0 ≤ x0.toInt ∧ x0.toInt ≤ 7))) 1 0 0 [.ref 123, .int x0] (mk T m n r) := by
  have Kp : fr (wl []) m m := fr.rf
  refine PM.of 0 (lo := [.ref 123, .int x0]) rfl (by decide) rfl rfl (Nat.le_of_ble_eq_true rfl) ?_
  refine pv_iload_n (M := mX12_isDeed) 1 dX12_isDeed_0 1 rfl rfl rfl ?_
  refine pv_if_lt (M := mX12_isDeed) (tgt := 26) dX12_isDeed_1 4 rfl (by decide) (fun c1 => ?_) (fun c1 => ?_)
  · have c1 := iv_lt (X := x0.toInt) (Y := 0) c1 rfl (by decide)
    refine pv_iconst (M := mX12_isDeed) (v := 0) dX12_isDeed_26 27 rfl (by decide) ?_
    have z2 : (0 : Int32).toInt = 0 := by decide
    exact pv_iret (M := mX12_isDeed) dX12_isDeed_27 rfl rfl ⟨_, rfl, rfl, by decide, by decide, Or.inl rfl⟩
  · have c1 := iv_nlt (X := x0.toInt) (Y := 0) c1 rfl (by decide)
    refine pv_iload_n (M := mX12_isDeed) 1 dX12_isDeed_4 5 rfl rfl rfl ?_
    refine pv_bipush (M := mX12_isDeed) (v := 8) dX12_isDeed_5 7 rfl (by decide) ?_
    refine pv_icmp_ge (M := mX12_isDeed) (tgt := 26) dX12_isDeed_7 10 rfl (by decide) (fun c3 => ?_) (fun c3 => ?_)
    · have c3 := iv_le (X := 8) (Y := x0.toInt) c3 (by decide) rfl
      refine pv_iconst (M := mX12_isDeed) (v := 0) dX12_isDeed_26 27 rfl (by decide) ?_
      have z4 : (0 : Int32).toInt = 0 := by decide
      exact pv_iret (M := mX12_isDeed) dX12_isDeed_27 rfl rfl ⟨_, rfl, rfl, by decide, by decide, Or.inl rfl⟩
    · have c3 := iv_nle (X := 8) (Y := x0.toInt) c3 (by decide) rfl
      refine pv_aload_n (M := mX12_isDeed) 0 dX12_isDeed_10 11 rfl rfl rfl ?_
      refine iv_get (M := mX12_isDeed) (l1 := 0) (l2 := 255) dX12_isDeed_11 FX12 4 wd1177 (by decide) (tl123 hT) rfl I rfl 14 rfl (fun v5 ev5 pv5 qv5 => ?_)
      refine pv_iload_n (M := mX12_isDeed) 1 dX12_isDeed_14 15 rfl rfl rfl ?_
      refine iv_shrU (M := mX12_isDeed) dX12_isDeed_15 16 rfl (fun v6 ev6 => ?_)
      refine pv_iconst (M := mX12_isDeed) (v := 1) dX12_isDeed_16 17 rfl (by decide) ?_
      refine iv_iandm (M := mX12_isDeed) dX12_isDeed_17 18 rfl 1 (by decide) (by decide) (fun v7 ev7 pv7 qv7 => ?_)
      have qv7 : v7.toInt < 2 := qv7
      refine pv_iconst (M := mX12_isDeed) (v := 1) dX12_isDeed_18 19 rfl (by decide) ?_
      refine pv_icmp_ne (M := mX12_isDeed) (tgt := 26) dX12_isDeed_19 22 rfl (by decide) (fun c8 => ?_) (fun c8 => ?_)
      · have c8 := iv_ne (X := v7.toInt) (Y := 1) c8 rfl (by decide)
        refine pv_iconst (M := mX12_isDeed) (v := 0) dX12_isDeed_26 27 rfl (by decide) ?_
        have z9 : (0 : Int32).toInt = 0 := by decide
        exact pv_iret (M := mX12_isDeed) dX12_isDeed_27 rfl rfl ⟨_, rfl, rfl, by decide, by decide, Or.inl rfl⟩
      · have c8 := iv_eq (X := v7.toInt) (Y := 1) c8 rfl (by decide)
        refine pv_iconst (M := mX12_isDeed) (v := 1) dX12_isDeed_22 23 rfl (by decide) ?_
        refine pv_goto (M := mX12_isDeed) (tgt := 27) dX12_isDeed_23 (by decide) ?_
        have z10 : (1 : Int32).toInt = 1 := by decide
        exact pv_iret (M := mX12_isDeed) dX12_isDeed_27 rfl rfl ⟨_, rfl, rfl, by decide, by decide, (Or.inr (by omega))⟩

set_option maxHeartbeats 2000000 in
set_option maxRecDepth 20000 in
theorem s_X12_isClerk (g : pv_G) {T : List mv_T} {m : Nat → Nat → Int32} {n : Nat → Nat → Int64} {r : Nat → Value} (hT : TX T) (I : IV BB m) (x0 : Int32) : PM g mX12_isClerk yX12_isClerk (sqP (mk T m n r) 0 1 (fun v => v = 0 ∨ (0 ≤ x0.toInt ∧ x0.toInt ≤ 7))) 1 0 0 [.int x0] (mk T m n r) := by
  have Kp : fr (wl []) m m := fr.rf
  refine PM.of 0 (lo := [.int x0]) rfl (by decide) rfl rfl (Nat.le_of_ble_eq_true rfl) ?_
  refine pv_iload_n (M := mX12_isClerk) 0 dX12_isClerk_0 1 rfl rfl rfl ?_
  refine pv_if_lt (M := mX12_isClerk) (tgt := 14) dX12_isClerk_1 4 rfl (by decide) (fun c1 => ?_) (fun c1 => ?_)
  · have c1 := iv_lt (X := x0.toInt) (Y := 0) c1 rfl (by decide)
    refine pv_iconst (M := mX12_isClerk) (v := 0) dX12_isClerk_14 15 rfl (by decide) ?_
    have z2 : (0 : Int32).toInt = 0 := by decide
    exact pv_iret (M := mX12_isClerk) dX12_isClerk_15 rfl rfl ⟨_, rfl, rfl, by decide, by decide, Or.inl rfl⟩
  · have c1 := iv_nlt (X := x0.toInt) (Y := 0) c1 rfl (by decide)
    refine pv_iload_n (M := mX12_isClerk) 0 dX12_isClerk_4 5 rfl rfl rfl ?_
    refine pv_bipush (M := mX12_isClerk) (v := 8) dX12_isClerk_5 7 rfl (by decide) ?_
    refine pv_icmp_ge (M := mX12_isClerk) (tgt := 14) dX12_isClerk_7 10 rfl (by decide) (fun c3 => ?_) (fun c3 => ?_)
    · have c3 := iv_le (X := 8) (Y := x0.toInt) c3 (by decide) rfl
      refine pv_iconst (M := mX12_isClerk) (v := 0) dX12_isClerk_14 15 rfl (by decide) ?_
      have z4 : (0 : Int32).toInt = 0 := by decide
      exact pv_iret (M := mX12_isClerk) dX12_isClerk_15 rfl rfl ⟨_, rfl, rfl, by decide, by decide, Or.inl rfl⟩
    · have c3 := iv_nle (X := 8) (Y := x0.toInt) c3 (by decide) rfl
      refine pv_iconst (M := mX12_isClerk) (v := 1) dX12_isClerk_10 11 rfl (by decide) ?_
      refine pv_goto (M := mX12_isClerk) (tgt := 15) dX12_isClerk_11 (by decide) ?_
      have z5 : (1 : Int32).toInt = 1 := by decide
      exact pv_iret (M := mX12_isClerk) dX12_isClerk_15 rfl rfl ⟨_, rfl, rfl, by decide, by decide, (Or.inr (by omega))⟩

set_option maxHeartbeats 2000000 in
set_option maxRecDepth 20000 in
theorem s_X12_isAsked (g : pv_G) {T : List mv_T} {m : Nat → Nat → Int32} {n : Nat → Nat → Int64} {r : Nat → Value} (hT : TX T) (I : IV BB m) (x0 : Int32) (x1 : Int32) : PM g mX12_isAsked yX12_isAsked (sqP (mk T m n r) 0 1 (fun v => v = 0 ∨ ((0 ≤ x0.toInt ∧ x0.toInt ≤ 7) ∧ (0 ≤ x1.toInt ∧ x1.toInt ≤ 7)))) 2 0 0 [.ref 123, .int x0, .int x1] (mk T m n r) := by
  have Kp : fr (wl []) m m := fr.rf
  refine PM.of 0 (lo := [.ref 123, .int x0, .int x1]) rfl (by decide) rfl rfl (Nat.le_of_ble_eq_true rfl) ?_
  refine pv_aload_n (M := mX12_isAsked) 0 dX12_isAsked_0 1 rfl rfl rfl ?_
  refine pv_iload_n (M := mX12_isAsked) 1 dX12_isAsked_1 2 rfl rfl rfl ?_
  refine pv_callv (M := mX12_isAsked) (as := [.int x0]) (st := []) (kc2 := 0) (ks2 := 0) dX12_isAsked_2 wd1389 YX12_isBlank ⟨wd1391, wd55⟩ (mk_get (tl123 hT)) rfl rfl (s_X12_isBlank g hT I x0) rfl rfl (Nat.le_of_ble_eq_true rfl) (by decide) rfl rfl 5 rfl (fun rv h1 q1 => ?_)
  obtain ⟨v2, rfl, rfl, pv2, qv2, rv2⟩ := q1
  replace rv2 : v2 = 0 ∨ (0 ≤ x0.toInt ∧ x0.toInt ≤ 7) := rv2
  show PV _ _ _ _ _ _ _ 5 [.ref 123, .int x0, .int x1] [.int v2] _
  refine pv_if_eq (M := mX12_isAsked) (tgt := 20) dX12_isAsked_5 8 rfl (by decide) (fun c3 => ?_) (fun c3 => ?_)
  · have c3 := iv_eq (X := v2.toInt) (Y := 0) c3 rfl (by decide)
    refine pv_iconst (M := mX12_isAsked) (v := 0) dX12_isAsked_20 21 rfl (by decide) ?_
    have z4 : (0 : Int32).toInt = 0 := by decide
    exact pv_iret (M := mX12_isAsked) dX12_isAsked_21 rfl rfl ⟨_, rfl, rfl, by decide, by decide, Or.inl rfl⟩
  · have pc3 := rv2.resolve_left c3
    have c3 := iv_ne (X := v2.toInt) (Y := 0) c3 rfl (by decide)
    refine pv_aload_n (M := mX12_isAsked) 0 dX12_isAsked_8 9 rfl rfl rfl ?_
    refine pv_iload_n (M := mX12_isAsked) 2 dX12_isAsked_9 10 rfl rfl rfl ?_
    refine pv_callv (M := mX12_isAsked) (as := [.int x1]) (st := []) (kc2 := 0) (ks2 := 0) dX12_isAsked_10 wd1558 YX12_isDeed ⟨wd1560, wd87⟩ (mk_get (tl123 hT)) rfl rfl (s_X12_isDeed g hT I x1) rfl rfl (Nat.le_of_ble_eq_true rfl) (by decide) rfl rfl 13 rfl (fun rv h1 q5 => ?_)
    obtain ⟨v6, rfl, rfl, pv6, qv6, rv6⟩ := q5
    replace rv6 : v6 = 0 ∨ (0 ≤ x1.toInt ∧ x1.toInt ≤ 7) := rv6
    show PV _ _ _ _ _ _ _ 13 [.ref 123, .int x0, .int x1] [.int v6] _
    refine pv_if_eq (M := mX12_isAsked) (tgt := 20) dX12_isAsked_13 16 rfl (by decide) (fun c7 => ?_) (fun c7 => ?_)
    · have c7 := iv_eq (X := v6.toInt) (Y := 0) c7 rfl (by decide)
      refine pv_iconst (M := mX12_isAsked) (v := 0) dX12_isAsked_20 21 rfl (by decide) ?_
      have z8 : (0 : Int32).toInt = 0 := by decide
      exact pv_iret (M := mX12_isAsked) dX12_isAsked_21 rfl rfl ⟨_, rfl, rfl, by decide, by decide, Or.inl rfl⟩
    · have pc7 := rv6.resolve_left c7
      have c7 := iv_ne (X := v6.toInt) (Y := 0) c7 rfl (by decide)
      refine pv_iconst (M := mX12_isAsked) (v := 1) dX12_isAsked_16 17 rfl (by decide) ?_
      refine pv_goto (M := mX12_isAsked) (tgt := 21) dX12_isAsked_17 (by decide) ?_
      have z9 : (1 : Int32).toInt = 1 := by decide
      exact pv_iret (M := mX12_isAsked) dX12_isAsked_21 rfl rfl ⟨_, rfl, rfl, by decide, by decide, (Or.inr (by omega))⟩

set_option maxHeartbeats 2000000 in
set_option maxRecDepth 20000 in
theorem s_X12_leftMany (g : pv_G) {T : List mv_T} {m : Nat → Nat → Int32} {n : Nat → Nat → Int64} {r : Nat → Value} (hT : TX T) (I : IV BB m) (x0 : Int32) (hl0 : 0 ≤ x0.toInt) (hh0 : x0.toInt ≤ 7) : PM g mX12_leftMany yX12_leftMany (sqP (mk T m n r) 0 40 (fun v => v.toInt = nu m x0.toInt 0)) 1 0 0 [.ref 123, .int x0] (mk T m n r) := by
  have Kp : fr (wl []) m m := fr.rf
  refine PM.of 2 (lo := [.ref 123, .int x0, pv_U, pv_U]) rfl (by decide) rfl rfl (Nat.le_of_ble_eq_true rfl) ?_
  refine pv_iconst (M := mX12_leftMany) (v := 0) dX12_leftMany_0 1 rfl (by decide) ?_
  refine pv_istore_n (M := mX12_leftMany) 2 (lo2 := [.ref 123, .int x0, .int 0, pv_U]) dX12_leftMany_1 2 rfl rfl (by decide) rfl rfl ?_
  refine pv_iconst (M := mX12_leftMany) (v := 0) dX12_leftMany_2 3 rfl (by decide) ?_
  refine pv_istore_n (M := mX12_leftMany) 3 (lo2 := [.ref 123, .int x0, .int 0, .int 0]) dX12_leftMany_3 4 rfl rfl (by decide) rfl rfl ?_
  have lp8 : ∀ (fuel7 : Nat) (y1 : Int32) (y2 : Int32), (0 ≤ y1.toInt) → (y1.toInt ≤ 40) → (0 ≤ y2.toInt) → (y2.toInt ≤ 40) → (y1.toInt ≤ y2.toInt) → (y1.toInt + nu m x0.toInt y2.toInt = nu m x0.toInt 0) → ((40 - y2.toInt) : Int).toNat < fuel7 → PV none g mX12_leftMany (sqP (mk T m n r) 0 40 (fun v => v.toInt = nu m x0.toInt 0)) 1 0 0 4 [.ref 123, .int x0, .int y1, .int y2] [] (mk T m n r) := by
    intro fuel7
    induction fuel7 with
    | zero => intro y1 y2 b10 b11 b12 b13 b14 b15 z16; omega
    | succ fuel7 ih9 =>
      intro y1 y2 b10 b11 b12 b13 b14 b15 z16
      refine pv_iload_n (M := mX12_leftMany) 3 dX12_leftMany_4 5 rfl rfl rfl ?_
      refine pv_aload_n (M := mX12_leftMany) 0 dX12_leftMany_5 6 rfl rfl rfl ?_
      refine mv_get (M := mX12_leftMany) (v := .ref 124) dX12_leftMany_6 FX12 5 wd1178 (by decide) (tl123 hT) rfl rfl 9 rfl ?_
      refine pv_iload_n (M := mX12_leftMany) 1 dX12_leftMany_9 10 rfl rfl rfl ?_
      refine iv_iald (M := mX12_leftMany) (X := x0.toInt) (l1 := 0) (l2 := 40) dX12_leftMany_10 (tl124 hT) rfl (by omega) (by omega) I (fun _ => rfl) 11 rfl (fun v17 ev17 pv17 qv17 => ?_)
      have k11 : v17.toInt = (m 124 x0.toInt.toNat).toInt := congrArg Int32.toInt ev17
      refine pv_icmp_ge (M := mX12_leftMany) (tgt := 42) dX12_leftMany_11 14 rfl (by decide) (fun c19 => ?_) (fun c19 => ?_)
      · have c19 := iv_le (X := v17.toInt) (Y := y2.toInt) c19 rfl rfl
        have k42 := nu_end (m := m) (b := x0.toInt) (w := y2.toInt) (by omega)
        refine pv_iload_n (M := mX12_leftMany) 2 dX12_leftMany_42 43 rfl rfl rfl ?_
        exact pv_iret (M := mX12_leftMany) dX12_leftMany_43 rfl rfl ⟨_, rfl, rfl, by omega, by omega, (by first | omega | assumption)⟩
      · have c19 := iv_nle (X := v17.toInt) (Y := y2.toInt) c19 rfl rfl
        refine pv_iload_n (M := mX12_leftMany) 2 dX12_leftMany_14 15 rfl rfl rfl ?_
        refine pv_aload_n (M := mX12_leftMany) 0 dX12_leftMany_15 16 rfl rfl rfl ?_
        refine mv_get (M := mX12_leftMany) (v := .ref 128) dX12_leftMany_16 FX12 9 wd1182 (by decide) (tl123 hT) rfl rfl 19 rfl ?_
        refine pv_bipush (M := mX12_leftMany) (v := 40) dX12_leftMany_19 21 rfl (by decide) ?_
        refine pv_iload_n (M := mX12_leftMany) 1 dX12_leftMany_21 22 rfl rfl rfl ?_
        refine iv_imul (M := mX12_leftMany) (X := 40) (Y := x0.toInt) dX12_leftMany_22 23 rfl (by decide) rfl (by omega) (by omega) (fun v21 ev21 => ?_)
        refine pv_iload_n (M := mX12_leftMany) 3 dX12_leftMany_23 24 rfl rfl rfl ?_
        refine iv_iadd (M := mX12_leftMany) (X := v21.toInt) (Y := y2.toInt) dX12_leftMany_24 25 rfl rfl rfl (by omega) (by omega) (fun v22 ev22 => ?_)
        refine iv_zald (M := mX12_leftMany) (X := v22.toInt) (l1 := 0) (l2 := 1) dX12_leftMany_25 (tl128 hT) rfl (by omega) (by omega) I (fun _ => rfl) 26 rfl (fun v23 ev23 pv23 qv23 => ?_)
        have k26 : v23.toInt = (m 128 (40 * x0.toInt + y2.toInt).toNat).toInt := (congrArg Int32.toInt ev23).trans (congrArg (fun z => (m 128 z).toInt) (by omega))
        refine pv_if_eq (M := mX12_leftMany) (tgt := 33) dX12_leftMany_26 29 rfl (by decide) (fun c25 => ?_) (fun c25 => ?_)
        · have c25 := iv_eq (X := v23.toInt) (Y := 0) c25 rfl (by decide)
          have k33 := nu_free (m := m) (b := x0.toInt) (w := y2.toInt) (by omega) (by omega) (by omega) (by omega)
          refine pv_iconst (M := mX12_leftMany) (v := 1) dX12_leftMany_33 34 rfl (by decide) ?_
          refine iv_iadd (M := mX12_leftMany) (X := y1.toInt) (Y := 1) dX12_leftMany_34 35 rfl rfl (by decide) (by omega) (by omega) (fun v27 ev27 => ?_)
          refine pv_istore_n (M := mX12_leftMany) 2 (lo2 := [.ref 123, .int x0, .int v27, .int y2]) dX12_leftMany_35 36 rfl rfl (by decide) rfl rfl ?_
          refine iv_inc (M := mX12_leftMany) (C := 1) dX12_leftMany_36 39 rfl rfl (by decide) rfl rfl (by decide) (by omega) (by omega) (fun v28 ev28 => ?_)
          show PV _ _ _ _ _ _ _ 39 [.ref 123, .int x0, .int v27, .int v28] [] _
          refine pv_goto (M := mX12_leftMany) (tgt := 4) dX12_leftMany_39 (by decide) ?_
          have kb : nu m x0.toInt v28.toInt = nu m x0.toInt (y2.toInt + 1) := congrArg (nu m x0.toInt) (by omega)
          exact ih9 v27 v28 (by first | omega | assumption | exact (iv_rng _).2 | exact (iv_rng _).1 | decide) (by first | omega | assumption | exact (iv_rng _).2 | exact (iv_rng _).1 | decide) (by first | omega | assumption | exact (iv_rng _).2 | exact (iv_rng _).1 | decide) (by first | omega | assumption | exact (iv_rng _).2 | exact (iv_rng _).1 | decide) (by first | omega | assumption | (show v27.toInt ≤ v28.toInt; omega) | decide) (by first | omega | assumption | (show v27.toInt + nu m x0.toInt v28.toInt = nu m x0.toInt 0; omega) | decide) (by omega)
        · have c25 := iv_ne (X := v23.toInt) (Y := 0) c25 rfl (by decide)
          have k29 := nu_str (m := m) (b := x0.toInt) (w := y2.toInt) (by omega) (by omega) (by omega) (by omega)
          refine pv_iconst (M := mX12_leftMany) (v := 0) dX12_leftMany_29 30 rfl (by decide) ?_
          refine pv_goto (M := mX12_leftMany) (tgt := 34) dX12_leftMany_30 (by decide) ?_
          refine iv_iadd (M := mX12_leftMany) (X := y1.toInt) (Y := 0) dX12_leftMany_34 35 rfl rfl (by decide) (by omega) (by omega) (fun v31 ev31 => ?_)
          refine pv_istore_n (M := mX12_leftMany) 2 (lo2 := [.ref 123, .int x0, .int v31, .int y2]) dX12_leftMany_35 36 rfl rfl (by decide) rfl rfl ?_
          refine iv_inc (M := mX12_leftMany) (C := 1) dX12_leftMany_36 39 rfl rfl (by decide) rfl rfl (by decide) (by omega) (by omega) (fun v32 ev32 => ?_)
          show PV _ _ _ _ _ _ _ 39 [.ref 123, .int x0, .int v31, .int v32] [] _
          refine pv_goto (M := mX12_leftMany) (tgt := 4) dX12_leftMany_39 (by decide) ?_
          have kb : nu m x0.toInt v32.toInt = nu m x0.toInt (y2.toInt + 1) := congrArg (nu m x0.toInt) (by omega)
          exact ih9 v31 v32 (by first | omega | assumption | exact (iv_rng _).2 | exact (iv_rng _).1 | decide) (by first | omega | assumption | exact (iv_rng _).2 | exact (iv_rng _).1 | decide) (by first | omega | assumption | exact (iv_rng _).2 | exact (iv_rng _).1 | decide) (by first | omega | assumption | exact (iv_rng _).2 | exact (iv_rng _).1 | decide) (by first | omega | assumption | (show v31.toInt ≤ v32.toInt; omega) | decide) (by first | omega | assumption | (show v31.toInt + nu m x0.toInt v32.toInt = nu m x0.toInt 0; omega) | decide) (by omega)
  have z34 : (0 : Int32).toInt = 0 := by decide
  have z35 : (0 : Int32).toInt = 0 := by decide
  exact lp8 (((40 - 0) : Int).toNat + 1) 0 0 (by first | omega | assumption | exact (iv_rng _).2 | exact (iv_rng _).1 | decide) (by first | omega | assumption | exact (iv_rng _).2 | exact (iv_rng _).1 | decide) (by first | omega | assumption | exact (iv_rng _).2 | exact (iv_rng _).1 | decide) (by first | omega | assumption | exact (iv_rng _).2 | exact (iv_rng _).1 | decide) (by first | omega | assumption | (show 0 ≤ 0; omega) | decide) (by first | omega | assumption | (show 0 + nu m x0.toInt 0 = nu m x0.toInt 0; omega) | decide) (by omega)

set_option maxHeartbeats 2000000 in
set_option maxRecDepth 20000 in
theorem s_X12_numberAt (g : pv_G) {T : List mv_T} {m : Nat → Nat → Int32} {n : Nat → Nat → Int64} {r : Nat → Value} (hT : TX T) (I : IV BB m) (x0 : Int32) (hl0 : 0 ≤ x0.toInt) (hh0 : x0.toInt ≤ 7) (x1 : Int32) (hl1 : 0 ≤ x1.toInt) (hh1 : x1.toInt ≤ 39) (hp0 : x1.toInt < nu m x0.toInt 0) : PM g mX12_numberAt yX12_numberAt (sqP (mk T m n r) 0 39 (fun v => v.toInt < (m 124 x0.toInt.toNat).toInt ∧ (m 128 (40 * x0.toInt + v.toInt).toNat).toInt = 0)) 1 0 0 [.ref 123, .int x0, .int x1] (mk T m n r) := by
  have Kp : fr (wl []) m m := fr.rf
  refine PM.of 2 (lo := [.ref 123, .int x0, .int x1, pv_U, pv_U]) rfl (by decide) rfl rfl (Nat.le_of_ble_eq_true rfl) ?_
  refine pv_iload_n (M := mX12_numberAt) 2 dX12_numberAt_0 1 rfl rfl rfl ?_
  refine pv_istore_n (M := mX12_numberAt) 3 (lo2 := [.ref 123, .int x0, .int x1, .int x1, pv_U]) dX12_numberAt_1 2 rfl rfl (by decide) rfl rfl ?_
  refine pv_iconst (M := mX12_numberAt) (v := 0) dX12_numberAt_2 3 rfl (by decide) ?_
  refine pv_istore (M := mX12_numberAt) (lo2 := [.ref 123, .int x0, .int x1, .int x1, .int 0]) dX12_numberAt_3 5 rfl (by decide) rfl rfl ?_
  have lp8 : ∀ (fuel7 : Nat) (y1 : Int32) (y2 : Int32), (0 ≤ y1.toInt) → (y1.toInt ≤ 39) → (0 ≤ y2.toInt) → (y2.toInt ≤ 40) → (y1.toInt < nu m x0.toInt y2.toInt) → ((40 - y2.toInt) : Int).toNat < fuel7 → PV none g mX12_numberAt (sqP (mk T m n r) 0 39 (fun v => v.toInt < (m 124 x0.toInt.toNat).toInt ∧ (m 128 (40 * x0.toInt + v.toInt).toNat).toInt = 0)) 1 0 0 5 [.ref 123, .int x0, .int x1, .int y1, .int y2] [] (mk T m n r) := by
    intro fuel7
    induction fuel7 with
    | zero => intro y1 y2 b10 b11 b12 b13 b14 z15; omega
    | succ fuel7 ih9 =>
      intro y1 y2 b10 b11 b12 b13 b14 z15
      have k5 := nu_pos (m := m) (b := x0.toInt) (w := y2.toInt) (by omega)
      have k5b := (I 124 x0.toInt.toNat).2
      have k5c : (m 124 x0.toInt.toNat).toInt ≤ 40 := k5b
      refine pv_aload_n (M := mX12_numberAt) 0 dX12_numberAt_5 6 rfl rfl rfl ?_
      refine mv_get (M := mX12_numberAt) (v := .ref 128) dX12_numberAt_6 FX12 9 wd1182 (by decide) (tl123 hT) rfl rfl 9 rfl ?_
      refine pv_bipush (M := mX12_numberAt) (v := 40) dX12_numberAt_9 11 rfl (by decide) ?_
      refine pv_iload_n (M := mX12_numberAt) 1 dX12_numberAt_11 12 rfl rfl rfl ?_
      refine iv_imul (M := mX12_numberAt) (X := 40) (Y := x0.toInt) dX12_numberAt_12 13 rfl (by decide) rfl (by omega) (by omega) (fun v19 ev19 => ?_)
      refine pv_iload (M := mX12_numberAt) dX12_numberAt_13 15 rfl rfl ?_
      refine iv_iadd (M := mX12_numberAt) (X := v19.toInt) (Y := y2.toInt) dX12_numberAt_15 16 rfl rfl rfl (by omega) (by omega) (fun v20 ev20 => ?_)
      refine iv_zald (M := mX12_numberAt) (X := v20.toInt) (l1 := 0) (l2 := 1) dX12_numberAt_16 (tl128 hT) rfl (by omega) (by omega) I (fun _ => rfl) 17 rfl (fun v21 ev21 pv21 qv21 => ?_)
      have k17 : v21.toInt = (m 128 (40 * x0.toInt + y2.toInt).toNat).toInt := (congrArg Int32.toInt ev21).trans (congrArg (fun z => (m 128 z).toInt) (by omega))
      refine pv_if_ne (M := mX12_numberAt) (tgt := 24) dX12_numberAt_17 20 rfl (by decide) (fun c23 => ?_) (fun c23 => ?_)
      · have c23 := iv_ne (X := v21.toInt) (Y := 0) c23 rfl (by decide)
        refine pv_aload_n (M := mX12_numberAt) 0 dX12_numberAt_24 25 rfl rfl rfl ?_
        refine mv_get (M := mX12_numberAt) (v := .ref 128) dX12_numberAt_25 FX12 9 wd1182 (by decide) (tl123 hT) rfl rfl 28 rfl ?_
        refine pv_bipush (M := mX12_numberAt) (v := 40) dX12_numberAt_28 30 rfl (by decide) ?_
        refine pv_iload_n (M := mX12_numberAt) 1 dX12_numberAt_30 31 rfl rfl rfl ?_
        refine iv_imul (M := mX12_numberAt) (X := 40) (Y := x0.toInt) dX12_numberAt_31 32 rfl (by decide) rfl (by omega) (by omega) (fun v24 ev24 => ?_)
        refine pv_iload (M := mX12_numberAt) dX12_numberAt_32 34 rfl rfl ?_
        refine iv_iadd (M := mX12_numberAt) (X := v24.toInt) (Y := y2.toInt) dX12_numberAt_34 35 rfl rfl rfl (by omega) (by omega) (fun v25 ev25 => ?_)
        refine iv_zald (M := mX12_numberAt) (X := v25.toInt) (l1 := 0) (l2 := 1) dX12_numberAt_35 (tl128 hT) rfl (by omega) (by omega) I (fun _ => rfl) 36 rfl (fun v26 ev26 pv26 qv26 => ?_)
        have k36 : v26.toInt = (m 128 (40 * x0.toInt + y2.toInt).toNat).toInt := (congrArg Int32.toInt ev26).trans (congrArg (fun z => (m 128 z).toInt) (by omega))
        refine pv_if_eq (M := mX12_numberAt) (tgt := 43) dX12_numberAt_36 39 rfl (by decide) (fun c28 => ?_) (fun c28 => ?_)
        · have c28 := iv_eq (X := v26.toInt) (Y := 0) c28 rfl (by decide)
          have k43 := nu_free (m := m) (b := x0.toInt) (w := y2.toInt) (by omega) (by omega) (by omega) (by omega)
          refine pv_iload_n (M := mX12_numberAt) 3 dX12_numberAt_43 44 rfl rfl rfl ?_
          refine pv_iconst (M := mX12_numberAt) (v := 1) dX12_numberAt_44 45 rfl (by decide) ?_
          refine iv_isub (M := mX12_numberAt) (X := y1.toInt) (Y := 1) dX12_numberAt_45 46 rfl rfl (by decide) (by omega) (by omega) (fun v30 ev30 => ?_)
          refine pv_istore_n (M := mX12_numberAt) 3 (lo2 := [.ref 123, .int x0, .int x1, .int v30, .int y2]) dX12_numberAt_46 47 rfl rfl (by decide) rfl rfl ?_
          refine pv_iload (M := mX12_numberAt) dX12_numberAt_47 49 rfl rfl ?_
          refine pv_iconst (M := mX12_numberAt) (v := 1) dX12_numberAt_49 50 rfl (by decide) ?_
          refine iv_iadd (M := mX12_numberAt) (X := y2.toInt) (Y := 1) dX12_numberAt_50 51 rfl rfl (by decide) (by omega) (by omega) (fun v31 ev31 => ?_)
          refine pv_istore (M := mX12_numberAt) (lo2 := [.ref 123, .int x0, .int x1, .int v30, .int v31]) dX12_numberAt_51 53 rfl (by decide) rfl rfl ?_
          refine pv_goto (M := mX12_numberAt) (tgt := 5) dX12_numberAt_53 (by decide) ?_
          have kb : nu m x0.toInt v31.toInt = nu m x0.toInt (y2.toInt + 1) := congrArg (nu m x0.toInt) (by omega)
          exact ih9 v30 v31 (by first | omega | assumption | exact (iv_rng _).2 | exact (iv_rng _).1 | decide) (by first | omega | assumption | exact (iv_rng _).2 | exact (iv_rng _).1 | decide) (by first | omega | assumption | exact (iv_rng _).2 | exact (iv_rng _).1 | decide) (by first | omega | assumption | exact (iv_rng _).2 | exact (iv_rng _).1 | decide) (by first | omega | assumption | (show v30.toInt < nu m x0.toInt v31.toInt; omega) | decide) (by omega)
        · have c28 := iv_ne (X := v26.toInt) (Y := 0) c28 rfl (by decide)
          have k39 := nu_str (m := m) (b := x0.toInt) (w := y2.toInt) (by omega) (by omega) (by omega) (by omega)
          refine pv_iload_n (M := mX12_numberAt) 3 dX12_numberAt_39 40 rfl rfl rfl ?_
          refine pv_goto (M := mX12_numberAt) (tgt := 46) dX12_numberAt_40 (by decide) ?_
          refine pv_istore_n (M := mX12_numberAt) 3 (lo2 := [.ref 123, .int x0, .int x1, .int y1, .int y2]) dX12_numberAt_46 47 rfl rfl (by decide) rfl rfl ?_
          refine pv_iload (M := mX12_numberAt) dX12_numberAt_47 49 rfl rfl ?_
          refine pv_iconst (M := mX12_numberAt) (v := 1) dX12_numberAt_49 50 rfl (by decide) ?_
          refine iv_iadd (M := mX12_numberAt) (X := y2.toInt) (Y := 1) dX12_numberAt_50 51 rfl rfl (by decide) (by omega) (by omega) (fun v34 ev34 => ?_)
          refine pv_istore (M := mX12_numberAt) (lo2 := [.ref 123, .int x0, .int x1, .int y1, .int v34]) dX12_numberAt_51 53 rfl (by decide) rfl rfl ?_
          refine pv_goto (M := mX12_numberAt) (tgt := 5) dX12_numberAt_53 (by decide) ?_
          have kb : nu m x0.toInt v34.toInt = nu m x0.toInt (y2.toInt + 1) := congrArg (nu m x0.toInt) (by omega)
          exact ih9 y1 v34 (by first | omega | assumption | exact (iv_rng _).2 | exact (iv_rng _).1 | decide) (by first | omega | assumption | exact (iv_rng _).2 | exact (iv_rng _).1 | decide) (by first | omega | assumption | exact (iv_rng _).2 | exact (iv_rng _).1 | decide) (by first | omega | assumption | exact (iv_rng _).2 | exact (iv_rng _).1 | decide) (by first | omega | assumption | (show y1.toInt < nu m x0.toInt v34.toInt; omega) | decide) (by omega)
      · have c23 := iv_eq (X := v21.toInt) (Y := 0) c23 rfl (by decide)
        refine pv_iload_n (M := mX12_numberAt) 3 dX12_numberAt_20 21 rfl rfl rfl ?_
        refine pv_if_le (M := mX12_numberAt) (tgt := 56) dX12_numberAt_21 24 rfl (by decide) (fun c36 => ?_) (fun c36 => ?_)
        · have c36 := iv_le (X := y1.toInt) (Y := 0) c36 rfl (by decide)
          refine pv_iload (M := mX12_numberAt) dX12_numberAt_56 58 rfl rfl ?_
          exact pv_iret (M := mX12_numberAt) dX12_numberAt_58 rfl rfl ⟨_, rfl, rfl, by omega, by omega, (by constructor <;> omega)⟩
        · have c36 := iv_nle (X := y1.toInt) (Y := 0) c36 rfl (by decide)
          refine pv_aload_n (M := mX12_numberAt) 0 dX12_numberAt_24 25 rfl rfl rfl ?_
          refine mv_get (M := mX12_numberAt) (v := .ref 128) dX12_numberAt_25 FX12 9 wd1182 (by decide) (tl123 hT) rfl rfl 28 rfl ?_
          refine pv_bipush (M := mX12_numberAt) (v := 40) dX12_numberAt_28 30 rfl (by decide) ?_
          refine pv_iload_n (M := mX12_numberAt) 1 dX12_numberAt_30 31 rfl rfl rfl ?_
          refine iv_imul (M := mX12_numberAt) (X := 40) (Y := x0.toInt) dX12_numberAt_31 32 rfl (by decide) rfl (by omega) (by omega) (fun v37 ev37 => ?_)
          refine pv_iload (M := mX12_numberAt) dX12_numberAt_32 34 rfl rfl ?_
          refine iv_iadd (M := mX12_numberAt) (X := v37.toInt) (Y := y2.toInt) dX12_numberAt_34 35 rfl rfl rfl (by omega) (by omega) (fun v38 ev38 => ?_)
          refine iv_zald (M := mX12_numberAt) (X := v38.toInt) (l1 := 0) (l2 := 1) dX12_numberAt_35 (tl128 hT) rfl (by omega) (by omega) I (fun _ => rfl) 36 rfl (fun v39 ev39 pv39 qv39 => ?_)
          have k36 : v39.toInt = (m 128 (40 * x0.toInt + y2.toInt).toNat).toInt := (congrArg Int32.toInt ev39).trans (congrArg (fun z => (m 128 z).toInt) (by omega))
          refine pv_if_eq (M := mX12_numberAt) (tgt := 43) dX12_numberAt_36 39 rfl (by decide) (fun c41 => ?_) (fun c41 => ?_)
          · have c41 := iv_eq (X := v39.toInt) (Y := 0) c41 rfl (by decide)
            have k43 := nu_free (m := m) (b := x0.toInt) (w := y2.toInt) (by omega) (by omega) (by omega) (by omega)
            refine pv_iload_n (M := mX12_numberAt) 3 dX12_numberAt_43 44 rfl rfl rfl ?_
            refine pv_iconst (M := mX12_numberAt) (v := 1) dX12_numberAt_44 45 rfl (by decide) ?_
            refine iv_isub (M := mX12_numberAt) (X := y1.toInt) (Y := 1) dX12_numberAt_45 46 rfl rfl (by decide) (by omega) (by omega) (fun v43 ev43 => ?_)
            refine pv_istore_n (M := mX12_numberAt) 3 (lo2 := [.ref 123, .int x0, .int x1, .int v43, .int y2]) dX12_numberAt_46 47 rfl rfl (by decide) rfl rfl ?_
            refine pv_iload (M := mX12_numberAt) dX12_numberAt_47 49 rfl rfl ?_
            refine pv_iconst (M := mX12_numberAt) (v := 1) dX12_numberAt_49 50 rfl (by decide) ?_
            refine iv_iadd (M := mX12_numberAt) (X := y2.toInt) (Y := 1) dX12_numberAt_50 51 rfl rfl (by decide) (by omega) (by omega) (fun v44 ev44 => ?_)
            refine pv_istore (M := mX12_numberAt) (lo2 := [.ref 123, .int x0, .int x1, .int v43, .int v44]) dX12_numberAt_51 53 rfl (by decide) rfl rfl ?_
            refine pv_goto (M := mX12_numberAt) (tgt := 5) dX12_numberAt_53 (by decide) ?_
            have kb : nu m x0.toInt v44.toInt = nu m x0.toInt (y2.toInt + 1) := congrArg (nu m x0.toInt) (by omega)
            exact ih9 v43 v44 (by first | omega | assumption | exact (iv_rng _).2 | exact (iv_rng _).1 | decide) (by first | omega | assumption | exact (iv_rng _).2 | exact (iv_rng _).1 | decide) (by first | omega | assumption | exact (iv_rng _).2 | exact (iv_rng _).1 | decide) (by first | omega | assumption | exact (iv_rng _).2 | exact (iv_rng _).1 | decide) (by first | omega | assumption | (show v43.toInt < nu m x0.toInt v44.toInt; omega) | decide) (by omega)
          · have c41 := iv_ne (X := v39.toInt) (Y := 0) c41 rfl (by decide)
            have k39 := nu_str (m := m) (b := x0.toInt) (w := y2.toInt) (by omega) (by omega) (by omega) (by omega)
            refine pv_iload_n (M := mX12_numberAt) 3 dX12_numberAt_39 40 rfl rfl rfl ?_
            refine pv_goto (M := mX12_numberAt) (tgt := 46) dX12_numberAt_40 (by decide) ?_
            refine pv_istore_n (M := mX12_numberAt) 3 (lo2 := [.ref 123, .int x0, .int x1, .int y1, .int y2]) dX12_numberAt_46 47 rfl rfl (by decide) rfl rfl ?_
            refine pv_iload (M := mX12_numberAt) dX12_numberAt_47 49 rfl rfl ?_
            refine pv_iconst (M := mX12_numberAt) (v := 1) dX12_numberAt_49 50 rfl (by decide) ?_
            refine iv_iadd (M := mX12_numberAt) (X := y2.toInt) (Y := 1) dX12_numberAt_50 51 rfl rfl (by decide) (by omega) (by omega) (fun v47 ev47 => ?_)
            refine pv_istore (M := mX12_numberAt) (lo2 := [.ref 123, .int x0, .int x1, .int y1, .int v47]) dX12_numberAt_51 53 rfl (by decide) rfl rfl ?_
            refine pv_goto (M := mX12_numberAt) (tgt := 5) dX12_numberAt_53 (by decide) ?_
            have kb : nu m x0.toInt v47.toInt = nu m x0.toInt (y2.toInt + 1) := congrArg (nu m x0.toInt) (by omega)
            exact ih9 y1 v47 (by first | omega | assumption | exact (iv_rng _).2 | exact (iv_rng _).1 | decide) (by first | omega | assumption | exact (iv_rng _).2 | exact (iv_rng _).1 | decide) (by first | omega | assumption | exact (iv_rng _).2 | exact (iv_rng _).1 | decide) (by first | omega | assumption | exact (iv_rng _).2 | exact (iv_rng _).1 | decide) (by first | omega | assumption | (show y1.toInt < nu m x0.toInt v47.toInt; omega) | decide) (by omega)
  have z49 : (0 : Int32).toInt = 0 := by decide
  exact lp8 (((40 - 0) : Int).toNat + 1) x1 0 (by first | omega | assumption | exact (iv_rng _).2 | exact (iv_rng _).1 | decide) (by first | omega | assumption | exact (iv_rng _).2 | exact (iv_rng _).1 | decide) (by first | omega | assumption | exact (iv_rng _).2 | exact (iv_rng _).1 | decide) (by first | omega | assumption | exact (iv_rng _).2 | exact (iv_rng _).1 | decide) (by first | omega | assumption | (show x1.toInt < nu m x0.toInt 0; omega) | decide) (by omega)

set_option maxHeartbeats 2000000 in
set_option maxRecDepth 20000 in
theorem s_X12_left (g : pv_G) {T : List mv_T} {m : Nat → Nat → Int32} {n : Nat → Nat → Int64} {r : Nat → Value} (hT : TX T) (I : IV BB m) (x0 : Int32) (x1 : Int32) (x2 : Int32) : PM g mX12_left yX12_left (sqP (mk T m n r) (-2147483648) 2147483647 (fun v => True)) 2 0 0 [.ref 123, .int x0, .int x1, .int x2] (mk T m n r) := by
  have Kp : fr (wl []) m m := fr.rf
  refine PM.of 1 (lo := [.ref 123, .int x0, .int x1, .int x2, pv_U]) rfl (by decide) rfl rfl (Nat.le_of_ble_eq_true rfl) ?_
  refine pv_aload_n (M := mX12_left) 0 dX12_left_0 1 rfl rfl rfl ?_
  refine pv_iload_n (M := mX12_left) 1 dX12_left_1 2 rfl rfl rfl ?_
  refine pv_callv (M := mX12_left) (as := [.int x0]) (st := []) (kc2 := 0) (ks2 := 0) dX12_left_2 wd1389 YX12_isBlank ⟨wd1391, wd55⟩ (mk_get (tl123 hT)) rfl rfl (s_X12_isBlank g hT I x0) rfl rfl (Nat.le_of_ble_eq_true rfl) (by decide) rfl rfl 5 rfl (fun rv h1 q1 => ?_)
  obtain ⟨v2, rfl, rfl, pv2, qv2, rv2⟩ := q1
  replace rv2 : v2 = 0 ∨ (0 ≤ x0.toInt ∧ x0.toInt ≤ 7) := rv2
  show PV _ _ _ _ _ _ _ 5 [.ref 123, .int x0, .int x1, .int x2, pv_U] [.int v2] _
  refine pv_if_eq (M := mX12_left) (tgt := 30) dX12_left_5 8 rfl (by decide) (fun c3 => ?_) (fun c3 => ?_)
  · have c3 := iv_eq (X := v2.toInt) (Y := 0) c3 rfl (by decide)
    refine pv_iconst (M := mX12_left) (v := (-1)) dX12_left_30 31 rfl (by decide) ?_
    exact pv_iret (M := mX12_left) dX12_left_31 rfl rfl ⟨_, rfl, rfl, by decide, by decide, trivial⟩
  · have pc3 := rv2.resolve_left c3
    have c3 := iv_ne (X := v2.toInt) (Y := 0) c3 rfl (by decide)
    refine pv_iload_n (M := mX12_left) 2 dX12_left_8 9 rfl rfl rfl ?_
    refine pv_if_lt (M := mX12_left) (tgt := 30) dX12_left_9 12 rfl (by decide) (fun c4 => ?_) (fun c4 => ?_)
    · have c4 := iv_lt (X := x1.toInt) (Y := 0) c4 rfl (by decide)
      refine pv_iconst (M := mX12_left) (v := (-1)) dX12_left_30 31 rfl (by decide) ?_
      exact pv_iret (M := mX12_left) dX12_left_31 rfl rfl ⟨_, rfl, rfl, by decide, by decide, trivial⟩
    · have c4 := iv_nlt (X := x1.toInt) (Y := 0) c4 rfl (by decide)
      refine pv_iload_n (M := mX12_left) 2 dX12_left_12 13 rfl rfl rfl ?_
      refine pv_aload_n (M := mX12_left) 0 dX12_left_13 14 rfl rfl rfl ?_
      refine pv_iload_n (M := mX12_left) 1 dX12_left_14 15 rfl rfl rfl ?_
      refine pv_callv (M := mX12_left) (as := [.int x0]) (st := [.int x1]) (kc2 := 0) (ks2 := 0) dX12_left_15 wd1393 YX12_leftMany ⟨wd1395, wd56⟩ (mk_get (tl123 hT)) rfl rfl (s_X12_leftMany g hT I x0 (by omega) (by omega)) rfl rfl (Nat.le_of_ble_eq_true rfl) (by decide) rfl rfl 18 rfl (fun rv h1 q5 => ?_)
      obtain ⟨v6, rfl, rfl, pv6, qv6, rv6⟩ := q5
      replace rv6 : v6.toInt = nu m x0.toInt 0 := rv6
      show PV _ _ _ _ _ _ _ 18 [.ref 123, .int x0, .int x1, .int x2, pv_U] [.int v6, .int x1] _
      refine pv_icmp_ge (M := mX12_left) (tgt := 30) dX12_left_18 21 rfl (by decide) (fun c7 => ?_) (fun c7 => ?_)
      · have c7 := iv_le (X := v6.toInt) (Y := x1.toInt) c7 rfl rfl
        refine pv_iconst (M := mX12_left) (v := (-1)) dX12_left_30 31 rfl (by decide) ?_
        exact pv_iret (M := mX12_left) dX12_left_31 rfl rfl ⟨_, rfl, rfl, by decide, by decide, trivial⟩
      · have c7 := iv_nle (X := v6.toInt) (Y := x1.toInt) c7 rfl rfl
        refine pv_iload_n (M := mX12_left) 3 dX12_left_21 22 rfl rfl rfl ?_
        refine pv_iconst (M := mX12_left) (v := 0) dX12_left_22 23 rfl (by decide) ?_
        refine pv_iconst (M := mX12_left) (v := 1) dX12_left_23 24 rfl (by decide) ?_
        have z8 : (0 : Int32).toInt = 0 := by decide
        have z9 : (1 : Int32).toInt = 1 := by decide
        refine pv_calls (M := mX12_left) (as := [.int x2, .int 0, .int 1]) (st := []) (kc2 := 0) (ks2 := 0) dX12_left_24 wd1370 YX12_in wd1371 (s_X12_in g hT I x2 0 1) rfl rfl (Nat.le_of_ble_eq_true rfl) (by decide) rfl rfl 27 rfl (fun rv h1 q10 => ?_)
        obtain ⟨v11, rfl, rfl, pv11, qv11, rv11⟩ := q10
        replace rv11 : v11 = 0 ∨ ((0 : Int) ≤ x2.toInt ∧ x2.toInt ≤ (1 : Int)) := by have q_ := rv11; (try rw [z8] at q_); (try rw [z9] at q_); exact q_
        show PV _ _ _ _ _ _ _ 27 [.ref 123, .int x0, .int x1, .int x2, pv_U] [.int v11] _
        refine pv_if_ne (M := mX12_left) (tgt := 32) dX12_left_27 30 rfl (by decide) (fun c12 => ?_) (fun c12 => ?_)
        · have pc12 := rv11.resolve_left c12
          have c12 := iv_ne (X := v11.toInt) (Y := 0) c12 rfl (by decide)
          refine pv_aload_n (M := mX12_left) 0 dX12_left_32 33 rfl rfl rfl ?_
          refine pv_iload_n (M := mX12_left) 1 dX12_left_33 34 rfl rfl rfl ?_
          refine pv_iload_n (M := mX12_left) 2 dX12_left_34 35 rfl rfl rfl ?_
          refine pv_callv (M := mX12_left) (as := [.int x0, .int x1]) (st := []) (kc2 := 0) (ks2 := 0) dX12_left_35 wd1397 YX12_numberAt ⟨wd1399, wd57⟩ (mk_get (tl123 hT)) rfl rfl (s_X12_numberAt g hT I x0 (by omega) (by omega) x1 (by omega) (by omega) (by first | omega | assumption | exact (iv_rng _).2 | exact (iv_rng _).1 | decide)) rfl rfl (Nat.le_of_ble_eq_true rfl) (by decide) rfl rfl 38 rfl (fun rv h1 q13 => ?_)
          obtain ⟨v14, rfl, rfl, pv14, qv14, rv14⟩ := q13
          replace rv14 : v14.toInt < (m 124 x0.toInt.toNat).toInt ∧ (m 128 (40 * x0.toInt + v14.toInt).toNat).toInt = 0 := rv14
          show PV _ _ _ _ _ _ _ 38 [.ref 123, .int x0, .int x1, .int x2, pv_U] [.int v14] _
          refine pv_istore (M := mX12_left) (lo2 := [.ref 123, .int x0, .int x1, .int x2, .int v14]) dX12_left_38 40 rfl (by decide) rfl rfl ?_
          refine pv_iload_n (M := mX12_left) 3 dX12_left_40 41 rfl rfl rfl ?_
          refine pv_if_ne (M := mX12_left) (tgt := 59) dX12_left_41 44 rfl (by decide) (fun c15 => ?_) (fun c15 => ?_)
          · have c15 := iv_ne (X := x2.toInt) (Y := 0) c15 rfl (by decide)
            refine pv_iload (M := mX12_left) dX12_left_59 61 rfl rfl ?_
            exact pv_iret (M := mX12_left) dX12_left_61 rfl rfl ⟨_, rfl, rfl, (iv_rng v14).1, (iv_rng v14).2, trivial⟩
          · have c15 := iv_eq (X := x2.toInt) (Y := 0) c15 rfl (by decide)
            refine pv_aload_n (M := mX12_left) 0 dX12_left_44 45 rfl rfl rfl ?_
            refine mv_get (M := mX12_left) (v := .ref 125) dX12_left_45 FX12 6 wd1179 (by decide) (tl123 hT) rfl rfl 48 rfl ?_
            refine pv_bipush (M := mX12_left) (v := 40) dX12_left_48 50 rfl (by decide) ?_
            refine pv_iload_n (M := mX12_left) 1 dX12_left_50 51 rfl rfl rfl ?_
            refine iv_imul (M := mX12_left) (X := 40) (Y := x0.toInt) dX12_left_51 52 rfl (by decide) rfl (by omega) (by omega) (fun v16 ev16 => ?_)
            refine pv_iload (M := mX12_left) dX12_left_52 54 rfl rfl ?_
            refine iv_iadd (M := mX12_left) (X := v16.toInt) (Y := v14.toInt) dX12_left_54 55 rfl rfl rfl (by omega) (by omega) (fun v17 ev17 => ?_)
            refine iv_iald (M := mX12_left) (X := v17.toInt) (l1 := 0) (l2 := 25) dX12_left_55 (tl125 hT) rfl (by omega) (by omega) I (fun _ => rfl) 56 rfl (fun v18 ev18 pv18 qv18 => ?_)
            refine pv_goto (M := mX12_left) (tgt := 61) dX12_left_56 (by decide) ?_
            exact pv_iret (M := mX12_left) dX12_left_61 rfl rfl ⟨_, rfl, rfl, (iv_rng v18).1, (iv_rng v18).2, trivial⟩
        · have c12 := iv_eq (X := v11.toInt) (Y := 0) c12 rfl (by decide)
          refine pv_iconst (M := mX12_left) (v := (-1)) dX12_left_30 31 rfl (by decide) ?_
          exact pv_iret (M := mX12_left) dX12_left_31 rfl rfl ⟨_, rfl, rfl, by decide, by decide, trivial⟩
