/-- the bounds of the memory -/
def BB (a i : Nat) : Int × Int := match a with
  | 123 => match i with
    | 0 => (0, 8)
    | 1 => (0, 999)
    | 2 => (0, 65535)
    | 3 => (0, 60)
    | 4 => (0, 255)
    | 11 => (0, 200)
    | 20 => (0, 12)
    | 40 => (0, 40)
    | 41 => (0, 16)
    | 50 => (0, 4)
    | _ => ((-2147483648), 2147483647)
  | 124 => (0, 40)
  | 125 => (0, 25)
  | 126 => (0, 16)
  | 127 => (0, 25)
  | 128 => (0, 1)
  | 129 => ((-128), 127)
  | 143 => (0, 7)
  | 147 => (0, 9)
  | 148 => (0, 39)
  | 149 => (0, 25)
  | 150 => (0, 25)
  | 157 => (0, 7)
  | 165 => (0, 1)
  | 167 => (0, 1)
  | _ => ((-2147483648), 2147483647)
set_option maxHeartbeats 1000000 in
set_option maxRecDepth 20000 in
theorem s_X12_in (g : pv_G) {T : List mv_T} {m : Nat → Nat → Int32} {n : Nat → Nat → Int64} {r : Nat → Value} (hT : TX T) (I : IV BB m) (x0 : Int32) (x1 : Int32) (x2 : Int32) : PM g mX12_in yX12_in (sqI T BB r m 0 1 (fun v => v = 0 ∨ (x1.toInt ≤ x0.toInt ∧ x0.toInt ≤ x2.toInt))) 1 0 0 [.int x0, .int x1, .int x2] (mk T m n r) := by
  have Kp : kp m m := kp.rf
  refine PM.of 0 (lo := [.int x0, .int x1, .int x2]) rfl (by decide) rfl rfl (Nat.le_of_ble_eq_true rfl) ?_
  refine pv_iload_n (M := mX12_in) 0 dX12_in_0 1 rfl rfl rfl ?_
  refine pv_iload_n (M := mX12_in) 1 dX12_in_1 2 rfl rfl rfl ?_
  refine pv_icmp_lt (M := mX12_in) (tgt := 14) dX12_in_2 5 rfl (by decide) (fun c1 => ?_) (fun c1 => ?_)
  · have c1 := iv_lt (X := x0.toInt) (Y := x1.toInt) c1 rfl rfl
    refine pv_iconst (M := mX12_in) (v := 0) dX12_in_14 15 rfl (by decide) ?_
    exact pv_iret (M := mX12_in) dX12_in_15 rfl rfl ⟨_, _, _, rfl, rfl, I, Kp, by decide, by decide, Or.inl rfl⟩
  · have c1 := iv_nlt (X := x0.toInt) (Y := x1.toInt) c1 rfl rfl
    refine pv_iload_n (M := mX12_in) 0 dX12_in_5 6 rfl rfl rfl ?_
    refine pv_iload_n (M := mX12_in) 2 dX12_in_6 7 rfl rfl rfl ?_
    refine pv_icmp_gt (M := mX12_in) (tgt := 14) dX12_in_7 10 rfl (by decide) (fun c2 => ?_) (fun c2 => ?_)
    · have c2 := iv_lt (X := x2.toInt) (Y := x0.toInt) c2 rfl rfl
      refine pv_iconst (M := mX12_in) (v := 0) dX12_in_14 15 rfl (by decide) ?_
      exact pv_iret (M := mX12_in) dX12_in_15 rfl rfl ⟨_, _, _, rfl, rfl, I, Kp, by decide, by decide, Or.inl rfl⟩
    · have c2 := iv_nlt (X := x2.toInt) (Y := x0.toInt) c2 rfl rfl
      refine pv_iconst (M := mX12_in) (v := 1) dX12_in_10 11 rfl (by decide) ?_
      refine pv_goto (M := mX12_in) (tgt := 15) dX12_in_11 (by decide) ?_
      exact pv_iret (M := mX12_in) dX12_in_15 rfl rfl ⟨_, _, _, rfl, rfl, I, Kp, by decide, by decide, Or.inr ⟨by omega, by omega⟩⟩

set_option maxHeartbeats 1000000 in
set_option maxRecDepth 20000 in
theorem s_X12_isBlank (g : pv_G) {T : List mv_T} {m : Nat → Nat → Int32} {n : Nat → Nat → Int64} {r : Nat → Value} (hT : TX T) (I : IV BB m) (x0 : Int32) : PM g mX12_isBlank yX12_isBlank (sqI T BB r m 0 1 (fun v => v = 0 ∨ (0 ≤ x0.toInt ∧ x0.toInt ≤ 7))) 1 0 0 [.ref 123, .int x0] (mk T m n r) := by
  have Kp : kp m m := kp.rf
  refine PM.of 0 (lo := [.ref 123, .int x0]) rfl (by decide) rfl rfl (Nat.le_of_ble_eq_true rfl) ?_
  refine pv_iload_n (M := mX12_isBlank) 1 dX12_isBlank_0 1 rfl rfl rfl ?_
  refine pv_if_lt (M := mX12_isBlank) (tgt := 16) dX12_isBlank_1 4 rfl (by decide) (fun c1 => ?_) (fun c1 => ?_)
  · have c1 := iv_lt (X := x0.toInt) (Y := 0) c1 rfl (by decide)
    refine pv_iconst (M := mX12_isBlank) (v := 0) dX12_isBlank_16 17 rfl (by decide) ?_
    exact pv_iret (M := mX12_isBlank) dX12_isBlank_17 rfl rfl ⟨_, _, _, rfl, rfl, I, Kp, by decide, by decide, Or.inl rfl⟩
  · have c1 := iv_nlt (X := x0.toInt) (Y := 0) c1 rfl (by decide)
    refine pv_iload_n (M := mX12_isBlank) 1 dX12_isBlank_4 5 rfl rfl rfl ?_
    refine pv_aload_n (M := mX12_isBlank) 0 dX12_isBlank_5 6 rfl rfl rfl ?_
    refine iv_get (M := mX12_isBlank) dX12_isBlank_6 FX12 0 wd1173 (by decide) (tl123 hT) rfl I rfl 9 rfl (fun v2 ev2 pv2 qv2 => ?_)
    have pv2 : 0 ≤ v2.toInt := pv2
    have qv2 : v2.toInt ≤ 8 := qv2
    refine pv_icmp_ge (M := mX12_isBlank) (tgt := 16) dX12_isBlank_9 12 rfl (by decide) (fun c3 => ?_) (fun c3 => ?_)
    · have c3 := iv_le (X := v2.toInt) (Y := x0.toInt) c3 rfl rfl
      refine pv_iconst (M := mX12_isBlank) (v := 0) dX12_isBlank_16 17 rfl (by decide) ?_
      exact pv_iret (M := mX12_isBlank) dX12_isBlank_17 rfl rfl ⟨_, _, _, rfl, rfl, I, Kp, by decide, by decide, Or.inl rfl⟩
    · have c3 := iv_nle (X := v2.toInt) (Y := x0.toInt) c3 rfl rfl
      refine pv_iconst (M := mX12_isBlank) (v := 1) dX12_isBlank_12 13 rfl (by decide) ?_
      refine pv_goto (M := mX12_isBlank) (tgt := 17) dX12_isBlank_13 (by decide) ?_
      exact pv_iret (M := mX12_isBlank) dX12_isBlank_17 rfl rfl ⟨_, _, _, rfl, rfl, I, Kp, by decide, by decide, Or.inr ⟨by omega, by omega⟩⟩

set_option maxHeartbeats 1000000 in
set_option maxRecDepth 20000 in
theorem s_X12_isDeed (g : pv_G) {T : List mv_T} {m : Nat → Nat → Int32} {n : Nat → Nat → Int64} {r : Nat → Value} (hT : TX T) (I : IV BB m) (x0 : Int32) : PM g mX12_isDeed yX12_isDeed (sqI T BB r m 0 1 (fun v => v = 0 ∨ (0 ≤ x0.toInt ∧ x0.toInt ≤ 7))) 1 0 0 [.ref 123, .int x0] (mk T m n r) := by
  have Kp : kp m m := kp.rf
  refine PM.of 0 (lo := [.ref 123, .int x0]) rfl (by decide) rfl rfl (Nat.le_of_ble_eq_true rfl) ?_
  refine pv_iload_n (M := mX12_isDeed) 1 dX12_isDeed_0 1 rfl rfl rfl ?_
  refine pv_if_lt (M := mX12_isDeed) (tgt := 26) dX12_isDeed_1 4 rfl (by decide) (fun c1 => ?_) (fun c1 => ?_)
  · have c1 := iv_lt (X := x0.toInt) (Y := 0) c1 rfl (by decide)
    refine pv_iconst (M := mX12_isDeed) (v := 0) dX12_isDeed_26 27 rfl (by decide) ?_
    exact pv_iret (M := mX12_isDeed) dX12_isDeed_27 rfl rfl ⟨_, _, _, rfl, rfl, I, Kp, by decide, by decide, Or.inl rfl⟩
  · have c1 := iv_nlt (X := x0.toInt) (Y := 0) c1 rfl (by decide)
    refine pv_iload_n (M := mX12_isDeed) 1 dX12_isDeed_4 5 rfl rfl rfl ?_
    refine pv_bipush (M := mX12_isDeed) (v := 8) dX12_isDeed_5 7 rfl (by decide) ?_
    refine pv_icmp_ge (M := mX12_isDeed) (tgt := 26) dX12_isDeed_7 10 rfl (by decide) (fun c2 => ?_) (fun c2 => ?_)
    · have c2 := iv_le (X := 8) (Y := x0.toInt) c2 (by decide) rfl
      refine pv_iconst (M := mX12_isDeed) (v := 0) dX12_isDeed_26 27 rfl (by decide) ?_
      exact pv_iret (M := mX12_isDeed) dX12_isDeed_27 rfl rfl ⟨_, _, _, rfl, rfl, I, Kp, by decide, by decide, Or.inl rfl⟩
    · have c2 := iv_nle (X := 8) (Y := x0.toInt) c2 (by decide) rfl
      refine pv_aload_n (M := mX12_isDeed) 0 dX12_isDeed_10 11 rfl rfl rfl ?_
      refine iv_get (M := mX12_isDeed) dX12_isDeed_11 FX12 4 wd1177 (by decide) (tl123 hT) rfl I rfl 14 rfl (fun v3 ev3 pv3 qv3 => ?_)
      have pv3 : 0 ≤ v3.toInt := pv3
      have qv3 : v3.toInt ≤ 255 := qv3
      refine pv_iload_n (M := mX12_isDeed) 1 dX12_isDeed_14 15 rfl rfl rfl ?_
      refine pv_ishr (M := mX12_isDeed) (v := (v3 >>> (x0 &&& 31) : Int32)) dX12_isDeed_15 16 rfl rfl ?_
      obtain ⟨v4, ev4⟩ : ∃ z : Int32, z = v3 >>> (x0 &&& 31) := ⟨_, rfl⟩
      rw [← ev4]
      refine pv_iconst (M := mX12_isDeed) (v := 1) dX12_isDeed_16 17 rfl (by decide) ?_
      refine iv_iandm (M := mX12_isDeed) dX12_isDeed_17 18 rfl 1 (by decide) (by decide) (fun v5 ev5 pv5 qv5 => ?_)
      have qv5 : v5.toInt < 2 := qv5
      refine pv_iconst (M := mX12_isDeed) (v := 1) dX12_isDeed_18 19 rfl (by decide) ?_
      refine pv_icmp_ne (M := mX12_isDeed) (tgt := 26) dX12_isDeed_19 22 rfl (by decide) (fun c6 => ?_) (fun c6 => ?_)
      · have c6 := iv_ne (X := v5.toInt) (Y := 1) c6 rfl (by decide)
        refine pv_iconst (M := mX12_isDeed) (v := 0) dX12_isDeed_26 27 rfl (by decide) ?_
        exact pv_iret (M := mX12_isDeed) dX12_isDeed_27 rfl rfl ⟨_, _, _, rfl, rfl, I, Kp, by decide, by decide, Or.inl rfl⟩
      · have c6 := iv_eq (X := v5.toInt) (Y := 1) c6 rfl (by decide)
        refine pv_iconst (M := mX12_isDeed) (v := 1) dX12_isDeed_22 23 rfl (by decide) ?_
        refine pv_goto (M := mX12_isDeed) (tgt := 27) dX12_isDeed_23 (by decide) ?_
        exact pv_iret (M := mX12_isDeed) dX12_isDeed_27 rfl rfl ⟨_, _, _, rfl, rfl, I, Kp, by decide, by decide, Or.inr ⟨by omega, by omega⟩⟩

set_option maxHeartbeats 1000000 in
set_option maxRecDepth 20000 in
theorem s_X12_isClerk (g : pv_G) {T : List mv_T} {m : Nat → Nat → Int32} {n : Nat → Nat → Int64} {r : Nat → Value} (hT : TX T) (I : IV BB m) (x0 : Int32) : PM g mX12_isClerk yX12_isClerk (sqI T BB r m 0 1 (fun v => v = 0 ∨ (0 ≤ x0.toInt ∧ x0.toInt ≤ 7))) 1 0 0 [.int x0] (mk T m n r) := by
  have Kp : kp m m := kp.rf
  refine PM.of 0 (lo := [.int x0]) rfl (by decide) rfl rfl (Nat.le_of_ble_eq_true rfl) ?_
  refine pv_iload_n (M := mX12_isClerk) 0 dX12_isClerk_0 1 rfl rfl rfl ?_
  refine pv_if_lt (M := mX12_isClerk) (tgt := 14) dX12_isClerk_1 4 rfl (by decide) (fun c1 => ?_) (fun c1 => ?_)
  · have c1 := iv_lt (X := x0.toInt) (Y := 0) c1 rfl (by decide)
    refine pv_iconst (M := mX12_isClerk) (v := 0) dX12_isClerk_14 15 rfl (by decide) ?_
    exact pv_iret (M := mX12_isClerk) dX12_isClerk_15 rfl rfl ⟨_, _, _, rfl, rfl, I, Kp, by decide, by decide, Or.inl rfl⟩
  · have c1 := iv_nlt (X := x0.toInt) (Y := 0) c1 rfl (by decide)
    refine pv_iload_n (M := mX12_isClerk) 0 dX12_isClerk_4 5 rfl rfl rfl ?_
    refine pv_bipush (M := mX12_isClerk) (v := 8) dX12_isClerk_5 7 rfl (by decide) ?_
    refine pv_icmp_ge (M := mX12_isClerk) (tgt := 14) dX12_isClerk_7 10 rfl (by decide) (fun c2 => ?_) (fun c2 => ?_)
    · have c2 := iv_le (X := 8) (Y := x0.toInt) c2 (by decide) rfl
      refine pv_iconst (M := mX12_isClerk) (v := 0) dX12_isClerk_14 15 rfl (by decide) ?_
      exact pv_iret (M := mX12_isClerk) dX12_isClerk_15 rfl rfl ⟨_, _, _, rfl, rfl, I, Kp, by decide, by decide, Or.inl rfl⟩
    · have c2 := iv_nle (X := 8) (Y := x0.toInt) c2 (by decide) rfl
      refine pv_iconst (M := mX12_isClerk) (v := 1) dX12_isClerk_10 11 rfl (by decide) ?_
      refine pv_goto (M := mX12_isClerk) (tgt := 15) dX12_isClerk_11 (by decide) ?_
      exact pv_iret (M := mX12_isClerk) dX12_isClerk_15 rfl rfl ⟨_, _, _, rfl, rfl, I, Kp, by decide, by decide, Or.inr ⟨by omega, by omega⟩⟩

set_option maxHeartbeats 1000000 in
set_option maxRecDepth 20000 in
theorem s_X12_isAsked (g : pv_G) {T : List mv_T} {m : Nat → Nat → Int32} {n : Nat → Nat → Int64} {r : Nat → Value} (hT : TX T) (I : IV BB m) (x0 : Int32) (x1 : Int32) : PM g mX12_isAsked yX12_isAsked (sqI T BB r m 0 1 (fun v => v = 0 ∨ ((0 ≤ x0.toInt ∧ x0.toInt ≤ 7) ∧ (0 ≤ x1.toInt ∧ x1.toInt ≤ 7)))) 2 0 0 [.ref 123, .int x0, .int x1] (mk T m n r) := by
  have Kp : kp m m := kp.rf
  refine PM.of 0 (lo := [.ref 123, .int x0, .int x1]) rfl (by decide) rfl rfl (Nat.le_of_ble_eq_true rfl) ?_
  refine pv_aload_n (M := mX12_isAsked) 0 dX12_isAsked_0 1 rfl rfl rfl ?_
  refine pv_iload_n (M := mX12_isAsked) 1 dX12_isAsked_1 2 rfl rfl rfl ?_
  refine pv_callv (M := mX12_isAsked) (as := [.int x0]) (st := []) (kc2 := 0) (ks2 := 0) dX12_isAsked_2 wd1389 YX12_isBlank ⟨wd1391, wd55⟩ (mk_get (tl123 hT)) rfl rfl (s_X12_isBlank g hT I x0) rfl rfl (Nat.le_of_ble_eq_true rfl) (by decide) rfl rfl 5 rfl (fun rv h1 q1 => ?_)
  obtain ⟨m2, n3, v6, rfl, rfl, I4, K5, pv6, qv6, rv6⟩ := q1
  have K5 := Kp.trans K5
  show PV _ _ _ _ _ _ _ 5 [.ref 123, .int x0, .int x1] [.int v6] _
  refine pv_if_eq (M := mX12_isAsked) (tgt := 20) dX12_isAsked_5 8 rfl (by decide) (fun c7 => ?_) (fun c7 => ?_)
  · have c7 := iv_eq (X := v6.toInt) (Y := 0) c7 rfl (by decide)
    refine pv_iconst (M := mX12_isAsked) (v := 0) dX12_isAsked_20 21 rfl (by decide) ?_
    exact pv_iret (M := mX12_isAsked) dX12_isAsked_21 rfl rfl ⟨_, _, _, rfl, rfl, I4, K5, by decide, by decide, Or.inl rfl⟩
  · have pc7 := rv6.resolve_left c7
    have c7 := iv_ne (X := v6.toInt) (Y := 0) c7 rfl (by decide)
    refine pv_aload_n (M := mX12_isAsked) 0 dX12_isAsked_8 9 rfl rfl rfl ?_
    refine pv_iload_n (M := mX12_isAsked) 2 dX12_isAsked_9 10 rfl rfl rfl ?_
    refine pv_callv (M := mX12_isAsked) (as := [.int x1]) (st := []) (kc2 := 0) (ks2 := 0) dX12_isAsked_10 wd1558 YX12_isDeed ⟨wd1560, wd87⟩ (mk_get (tl123 hT)) rfl rfl (s_X12_isDeed g hT I4 x1) rfl rfl (Nat.le_of_ble_eq_true rfl) (by decide) rfl rfl 13 rfl (fun rv h1 q8 => ?_)
    obtain ⟨m9, n10, v13, rfl, rfl, I11, K12, pv13, qv13, rv13⟩ := q8
    have K12 := K5.trans K12
    show PV _ _ _ _ _ _ _ 13 [.ref 123, .int x0, .int x1] [.int v13] _
    refine pv_if_eq (M := mX12_isAsked) (tgt := 20) dX12_isAsked_13 16 rfl (by decide) (fun c14 => ?_) (fun c14 => ?_)
    · have c14 := iv_eq (X := v13.toInt) (Y := 0) c14 rfl (by decide)
      refine pv_iconst (M := mX12_isAsked) (v := 0) dX12_isAsked_20 21 rfl (by decide) ?_
      exact pv_iret (M := mX12_isAsked) dX12_isAsked_21 rfl rfl ⟨_, _, _, rfl, rfl, I11, K12, by decide, by decide, Or.inl rfl⟩
    · have pc14 := rv13.resolve_left c14
      have c14 := iv_ne (X := v13.toInt) (Y := 0) c14 rfl (by decide)
      refine pv_iconst (M := mX12_isAsked) (v := 1) dX12_isAsked_16 17 rfl (by decide) ?_
      refine pv_goto (M := mX12_isAsked) (tgt := 21) dX12_isAsked_17 (by decide) ?_
      exact pv_iret (M := mX12_isAsked) dX12_isAsked_21 rfl rfl ⟨_, _, _, rfl, rfl, I11, K12, by decide, by decide, Or.inr ⟨⟨by omega, by omega⟩, by omega, by omega⟩⟩

set_option maxHeartbeats 1000000 in
set_option maxRecDepth 20000 in
theorem s_X12_leftMany (g : pv_G) {T : List mv_T} {m : Nat → Nat → Int32} {n : Nat → Nat → Int64} {r : Nat → Value} (hT : TX T) (I : IV BB m) (x0 : Int32) (hl0 : 0 ≤ x0.toInt) (hh0 : x0.toInt ≤ 7) : PM g mX12_leftMany yX12_leftMany (sqI T BB r m 0 40 (fun v => True)) 1 0 0 [.ref 123, .int x0] (mk T m n r) := by
  have Kp : kp m m := kp.rf
  refine PM.of 2 (lo := [.ref 123, .int x0, pv_U, pv_U]) rfl (by decide) rfl rfl (Nat.le_of_ble_eq_true rfl) ?_
  refine pv_iconst (M := mX12_leftMany) (v := 0) dX12_leftMany_0 1 rfl (by decide) ?_
  refine pv_istore_n (M := mX12_leftMany) 2 (lo2 := [.ref 123, .int x0, .int 0, pv_U]) dX12_leftMany_1 2 rfl rfl (by decide) rfl rfl ?_
  refine pv_iconst (M := mX12_leftMany) (v := 0) dX12_leftMany_2 3 rfl (by decide) ?_
  refine pv_istore_n (M := mX12_leftMany) 3 (lo2 := [.ref 123, .int x0, .int 0, .int 0]) dX12_leftMany_3 4 rfl rfl (by decide) rfl rfl ?_
  have lp8 : ∀ (fuel7 : Nat) (y1 : Int32) (y2 : Int32), (0 ≤ y1.toInt) → (y1.toInt ≤ 40) → (0 ≤ y2.toInt) → (y2.toInt ≤ 40) → (y1.toInt ≤ y2.toInt) → ((40 - y2.toInt) : Int).toNat < fuel7 → PV none g mX12_leftMany (sqI T BB r m 0 40 (fun v => True)) 1 0 0 4 [.ref 123, .int x0, .int y1, .int y2] [] (mk T m n r) := by
    intro fuel7
    induction fuel7 with
    | zero => intro y1 y2 b10 b11 b12 b13 b14 z15; omega
    | succ fuel7 ih9 =>
      intro y1 y2 b10 b11 b12 b13 b14 z15
      refine pv_iload_n (M := mX12_leftMany) 3 dX12_leftMany_4 5 rfl rfl rfl ?_
      refine pv_aload_n (M := mX12_leftMany) 0 dX12_leftMany_5 6 rfl rfl rfl ?_
      refine mv_get (M := mX12_leftMany) (v := .ref 124) dX12_leftMany_6 FX12 5 wd1178 (by decide) (tl123 hT) rfl rfl 9 rfl ?_
      refine pv_iload_n (M := mX12_leftMany) 1 dX12_leftMany_9 10 rfl rfl rfl ?_
      refine iv_iald (M := mX12_leftMany) (X := x0.toInt) dX12_leftMany_10 (tl124 hT) rfl (by omega) (by omega) I (fun _ => rfl) 11 rfl (fun v16 ev16 pv16 qv16 => ?_)
      have pv16 : 0 ≤ v16.toInt := pv16
      have qv16 : v16.toInt ≤ 40 := qv16
      refine pv_icmp_ge (M := mX12_leftMany) (tgt := 42) dX12_leftMany_11 14 rfl (by decide) (fun c17 => ?_) (fun c17 => ?_)
      · have c17 := iv_le (X := v16.toInt) (Y := y2.toInt) c17 rfl rfl
        refine pv_iload_n (M := mX12_leftMany) 2 dX12_leftMany_42 43 rfl rfl rfl ?_
        exact pv_iret (M := mX12_leftMany) dX12_leftMany_43 rfl rfl ⟨_, _, _, rfl, rfl, I, Kp, by omega, by omega, trivial⟩
      · have c17 := iv_nle (X := v16.toInt) (Y := y2.toInt) c17 rfl rfl
        refine pv_iload_n (M := mX12_leftMany) 2 dX12_leftMany_14 15 rfl rfl rfl ?_
        refine pv_aload_n (M := mX12_leftMany) 0 dX12_leftMany_15 16 rfl rfl rfl ?_
        refine mv_get (M := mX12_leftMany) (v := .ref 128) dX12_leftMany_16 FX12 9 wd1182 (by decide) (tl123 hT) rfl rfl 19 rfl ?_
        refine pv_bipush (M := mX12_leftMany) (v := 40) dX12_leftMany_19 21 rfl (by decide) ?_
        refine pv_iload_n (M := mX12_leftMany) 1 dX12_leftMany_21 22 rfl rfl rfl ?_
        refine iv_imul (M := mX12_leftMany) (X := 40) (Y := x0.toInt) dX12_leftMany_22 23 rfl (by decide) rfl (by omega) (by omega) (fun v18 ev18 => ?_)
        refine pv_iload_n (M := mX12_leftMany) 3 dX12_leftMany_23 24 rfl rfl rfl ?_
        refine iv_iadd (M := mX12_leftMany) (X := v18.toInt) (Y := y2.toInt) dX12_leftMany_24 25 rfl rfl rfl (by omega) (by omega) (fun v19 ev19 => ?_)
        refine iv_zald (M := mX12_leftMany) (X := v19.toInt) dX12_leftMany_25 (tl128 hT) rfl (by omega) (by omega) I (fun _ => rfl) 26 rfl (fun v20 ev20 pv20 qv20 => ?_)
        have pv20 : 0 ≤ v20.toInt := pv20
        have qv20 : v20.toInt ≤ 1 := qv20
        refine pv_if_eq (M := mX12_leftMany) (tgt := 33) dX12_leftMany_26 29 rfl (by decide) (fun c21 => ?_) (fun c21 => ?_)
        · have c21 := iv_eq (X := v20.toInt) (Y := 0) c21 rfl (by decide)
          refine pv_iconst (M := mX12_leftMany) (v := 1) dX12_leftMany_33 34 rfl (by decide) ?_
          refine iv_iadd (M := mX12_leftMany) (X := y1.toInt) (Y := 1) dX12_leftMany_34 35 rfl rfl (by decide) (by omega) (by omega) (fun v22 ev22 => ?_)
          refine pv_istore_n (M := mX12_leftMany) 2 (lo2 := [.ref 123, .int x0, .int v22, .int y2]) dX12_leftMany_35 36 rfl rfl (by decide) rfl rfl ?_
          refine iv_inc (M := mX12_leftMany) (C := 1) dX12_leftMany_36 39 rfl rfl (by decide) rfl rfl (by decide) (by omega) (by omega) (fun v23 ev23 => ?_)
          show PV _ _ _ _ _ _ _ 39 [.ref 123, .int x0, .int v22, .int v23] [] _
          refine pv_goto (M := mX12_leftMany) (tgt := 4) dX12_leftMany_39 (by decide) ?_
          exact ih9 v22 v23 (by first | omega | decide) (by first | omega | decide) (by first | omega | decide) (by first | omega | decide) (by first | omega | decide) (by omega)
        · have c21 := iv_ne (X := v20.toInt) (Y := 0) c21 rfl (by decide)
          refine pv_iconst (M := mX12_leftMany) (v := 0) dX12_leftMany_29 30 rfl (by decide) ?_
          refine pv_goto (M := mX12_leftMany) (tgt := 34) dX12_leftMany_30 (by decide) ?_
          refine iv_iadd (M := mX12_leftMany) (X := y1.toInt) (Y := 0) dX12_leftMany_34 35 rfl rfl (by decide) (by omega) (by omega) (fun v24 ev24 => ?_)
          refine pv_istore_n (M := mX12_leftMany) 2 (lo2 := [.ref 123, .int x0, .int v24, .int y2]) dX12_leftMany_35 36 rfl rfl (by decide) rfl rfl ?_
          refine iv_inc (M := mX12_leftMany) (C := 1) dX12_leftMany_36 39 rfl rfl (by decide) rfl rfl (by decide) (by omega) (by omega) (fun v25 ev25 => ?_)
          show PV _ _ _ _ _ _ _ 39 [.ref 123, .int x0, .int v24, .int v25] [] _
          refine pv_goto (M := mX12_leftMany) (tgt := 4) dX12_leftMany_39 (by decide) ?_
          exact ih9 v24 v25 (by first | omega | decide) (by first | omega | decide) (by first | omega | decide) (by first | omega | decide) (by first | omega | decide) (by omega)
  have z26 : (0 : Int32).toInt = 0 := by decide
  have z27 : (0 : Int32).toInt = 0 := by decide
  exact lp8 (((40 - 0) : Int).toNat + 1) 0 0 (by first | omega | decide) (by first | omega | decide) (by first | omega | decide) (by first | omega | decide) (by first | omega | decide) (by omega)

set_option maxHeartbeats 1000000 in
set_option maxRecDepth 20000 in
theorem s_X12_laysParent (g : pv_G) {T : List mv_T} {m : Nat → Nat → Int32} {n : Nat → Nat → Int64} {r : Nat → Value} (hT : TX T) (I : IV BB m) (x0 : Int32) (hl0 : 0 ≤ x0.toInt) (hh0 : x0.toInt ≤ 7) : PM g mX12_laysParent yX12_laysParent (sqV T BB r m) 1 0 0 [.ref 123, .int x0] (mk T m n r) := by
  have Kp : kp m m := kp.rf
  refine PM.of 1 (lo := [.ref 123, .int x0, pv_U]) rfl (by decide) rfl rfl (Nat.le_of_ble_eq_true rfl) ?_
  refine pv_aload_n (M := mX12_laysParent) 0 dX12_laysParent_0 1 rfl rfl rfl ?_
  refine pv_aload_n (M := mX12_laysParent) 0 dX12_laysParent_1 2 rfl rfl rfl ?_
  refine mv_get (M := mX12_laysParent) (v := .ref 126) dX12_laysParent_2 FX12 7 wd1180 (by decide) (tl123 hT) rfl rfl 5 rfl ?_
  refine pv_iload_n (M := mX12_laysParent) 1 dX12_laysParent_5 6 rfl rfl rfl ?_
  refine iv_iald (M := mX12_laysParent) (X := x0.toInt) dX12_laysParent_6 (tl126 hT) rfl (by omega) (by omega) I (fun _ => rfl) 7 rfl (fun v1 ev1 pv1 qv1 => ?_)
  have pv1 : 0 ≤ v1.toInt := pv1
  have qv1 : v1.toInt ≤ 16 := qv1
  refine iv_put (M := mX12_laysParent) dX12_laysParent_7 FX12 40 wd1213 (by decide) rfl (tl123 hT) rfl rfl rfl I rfl (show (0 : Int) ≤ v1.toInt by omega) (show v1.toInt ≤ (40 : Int) by omega) 10 rfl (fun m2 e5 I3 => ?_)
  have K4 := Kp.set e5 rfl
  have w6 : (m2 123 40).toInt = v1.toInt := by rw [e5, up2_eq]
  refine pv_iconst (M := mX12_laysParent) (v := 0) dX12_laysParent_10 11 rfl (by decide) ?_
  refine pv_istore_n (M := mX12_laysParent) 2 (lo2 := [.ref 123, .int x0, .int 0]) dX12_laysParent_11 12 rfl rfl (by decide) rfl rfl ?_
  have lp13 : ∀ (fuel12 : Nat) (y7 : Int32) (m8 : Nat → Nat → Int32) (n9 : Nat → Nat → Int64), (0 ≤ y7.toInt) → (y7.toInt ≤ 40) → ((m8 123 40).toInt ≤ 16) → IV BB m8 → kp m m8 → ((40 - y7.toInt) : Int).toNat < fuel12 → PV none g mX12_laysParent (sqV T BB r m) 1 0 0 12 [.ref 123, .int x0, .int y7] [] (mk T m8 n9 r) := by
    intro fuel12
    induction fuel12 with
    | zero => intro y7 m8 n9 b15 b16 b17 I10 K11 z18; omega
    | succ fuel12 ih14 =>
      intro y7 m8 n9 b15 b16 b17 I10 K11 z18
      refine pv_iload_n (M := mX12_laysParent) 2 dX12_laysParent_12 13 rfl rfl rfl ?_
      refine pv_aload_n (M := mX12_laysParent) 0 dX12_laysParent_13 14 rfl rfl rfl ?_
      refine iv_get (M := mX12_laysParent) dX12_laysParent_14 FX12 40 wd1213 (by decide) (tl123 hT) rfl I10 rfl 17 rfl (fun v19 ev19 pv19 qv19 => ?_)
      have pv19 : 0 ≤ v19.toInt := pv19
      have qv19 : v19.toInt ≤ 40 := qv19
      have wv19 : v19.toInt = (m8 123 40).toInt := congrArg Int32.toInt ev19
      refine pv_icmp_ge (M := mX12_laysParent) (tgt := 43) dX12_laysParent_17 20 rfl (by decide) (fun c20 => ?_) (fun c20 => ?_)
      · have c20 := iv_le (X := v19.toInt) (Y := y7.toInt) c20 rfl rfl
        exact pv_vret (M := mX12_laysParent) dX12_laysParent_43 rfl ⟨_, _, rfl, rfl, I10, K11⟩
      · have c20 := iv_nle (X := v19.toInt) (Y := y7.toInt) c20 rfl rfl
        refine pv_aload_n (M := mX12_laysParent) 0 dX12_laysParent_20 21 rfl rfl rfl ?_
        refine mv_get (M := mX12_laysParent) (v := .ref 149) dX12_laysParent_21 FX12 42 wd1215 (by decide) (tl123 hT) rfl rfl 24 rfl ?_
        refine pv_iload_n (M := mX12_laysParent) 2 dX12_laysParent_24 25 rfl rfl rfl ?_
        refine pv_aload_n (M := mX12_laysParent) 0 dX12_laysParent_25 26 rfl rfl rfl ?_
        refine mv_get (M := mX12_laysParent) (v := .ref 127) dX12_laysParent_26 FX12 8 wd1181 (by decide) (tl123 hT) rfl rfl 29 rfl ?_
        refine pv_bipush (M := mX12_laysParent) (v := 16) dX12_laysParent_29 31 rfl (by decide) ?_
        refine pv_iload_n (M := mX12_laysParent) 1 dX12_laysParent_31 32 rfl rfl rfl ?_
        refine iv_imul (M := mX12_laysParent) (X := 16) (Y := x0.toInt) dX12_laysParent_32 33 rfl (by decide) rfl (by omega) (by omega) (fun v21 ev21 => ?_)
        refine pv_iload_n (M := mX12_laysParent) 2 dX12_laysParent_33 34 rfl rfl rfl ?_
        refine iv_iadd (M := mX12_laysParent) (X := v21.toInt) (Y := y7.toInt) dX12_laysParent_34 35 rfl rfl rfl (by omega) (by omega) (fun v22 ev22 => ?_)
        refine iv_iald (M := mX12_laysParent) (X := v22.toInt) dX12_laysParent_35 (tl127 hT) rfl (by omega) (by omega) I10 (fun _ => rfl) 36 rfl (fun v23 ev23 pv23 qv23 => ?_)
        have pv23 : 0 ≤ v23.toInt := pv23
        have qv23 : v23.toInt ≤ 25 := qv23
        refine iv_iast (M := mX12_laysParent) (X := y7.toInt) dX12_laysParent_36 (tl149 hT) rfl (by omega) (by omega) I10 (fun _ => rfl) (show (0 : Int) ≤ v23.toInt by omega) (show v23.toInt ≤ (25 : Int) by omega) 37 rfl (fun m24 e27 I25 => ?_)
        have K26 := K11.set e27 rfl
        have w28 : (m24 123 40).toInt = (m8 123 40).toInt := by rw [e27, up2_ne (by omega)]
        refine iv_inc (M := mX12_laysParent) (C := 1) dX12_laysParent_37 40 rfl rfl (by decide) rfl rfl (by decide) (by omega) (by omega) (fun v29 ev29 => ?_)
        show PV _ _ _ _ _ _ _ 40 [.ref 123, .int x0, .int v29] [] _
        refine pv_goto (M := mX12_laysParent) (tgt := 12) dX12_laysParent_40 (by decide) ?_
        exact ih14 v29 m24 n9 (by first | omega | decide) (by first | omega | decide) (by first | omega | decide) I25 K26 (by omega)
  have z30 : (0 : Int32).toInt = 0 := by decide
  exact lp13 (((40 - 0) : Int).toNat + 1) 0 m2 n (by first | omega | decide) (by first | omega | decide) (by first | omega | decide) I3 K4 (by omega)

set_option maxHeartbeats 1000000 in
set_option maxRecDepth 20000 in
theorem s_X12_laysDeed (g : pv_G) {T : List mv_T} {m : Nat → Nat → Int32} {n : Nat → Nat → Int64} {r : Nat → Value} (hT : TX T) (I : IV BB m) (x0 : Int32) (hl0 : 0 ≤ x0.toInt) (hh0 : x0.toInt ≤ 7) : PM g mX12_laysDeed yX12_laysDeed (sqV T BB r m) 1 0 0 [.ref 123, .int x0] (mk T m n r) := by
  have Kp : kp m m := kp.rf
  refine PM.of 1 (lo := [.ref 123, .int x0, pv_U]) rfl (by decide) rfl rfl (Nat.le_of_ble_eq_true rfl) ?_
  refine pv_aload_n (M := mX12_laysDeed) 0 dX12_laysDeed_0 1 rfl rfl rfl ?_
  refine pv_aload_n (M := mX12_laysDeed) 0 dX12_laysDeed_1 2 rfl rfl rfl ?_
  refine mv_get (M := mX12_laysDeed) (v := .ref 126) dX12_laysDeed_2 FX12 7 wd1180 (by decide) (tl123 hT) rfl rfl 5 rfl ?_
  refine pv_iload_n (M := mX12_laysDeed) 1 dX12_laysDeed_5 6 rfl rfl rfl ?_
  refine iv_iald (M := mX12_laysDeed) (X := x0.toInt) dX12_laysDeed_6 (tl126 hT) rfl (by omega) (by omega) I (fun _ => rfl) 7 rfl (fun v1 ev1 pv1 qv1 => ?_)
  have pv1 : 0 ≤ v1.toInt := pv1
  have qv1 : v1.toInt ≤ 16 := qv1
  refine iv_put (M := mX12_laysDeed) dX12_laysDeed_7 FX12 41 wd1214 (by decide) rfl (tl123 hT) rfl rfl rfl I rfl (show (0 : Int) ≤ v1.toInt by omega) (show v1.toInt ≤ (16 : Int) by omega) 10 rfl (fun m2 e5 I3 => ?_)
  have K4 := Kp.set e5 rfl
  refine pv_iconst (M := mX12_laysDeed) (v := 0) dX12_laysDeed_10 11 rfl (by decide) ?_
  refine pv_istore_n (M := mX12_laysDeed) 2 (lo2 := [.ref 123, .int x0, .int 0]) dX12_laysDeed_11 12 rfl rfl (by decide) rfl rfl ?_
  have lp12 : ∀ (fuel11 : Nat) (y6 : Int32) (m7 : Nat → Nat → Int32) (n8 : Nat → Nat → Int64), (0 ≤ y6.toInt) → (y6.toInt ≤ 16) → IV BB m7 → kp m m7 → ((16 - y6.toInt) : Int).toNat < fuel11 → PV none g mX12_laysDeed (sqV T BB r m) 1 0 0 12 [.ref 123, .int x0, .int y6] [] (mk T m7 n8 r) := by
    intro fuel11
    induction fuel11 with
    | zero => intro y6 m7 n8 b14 b15 I9 K10 z16; omega
    | succ fuel11 ih13 =>
      intro y6 m7 n8 b14 b15 I9 K10 z16
      refine pv_iload_n (M := mX12_laysDeed) 2 dX12_laysDeed_12 13 rfl rfl rfl ?_
      refine pv_aload_n (M := mX12_laysDeed) 0 dX12_laysDeed_13 14 rfl rfl rfl ?_
      refine iv_get (M := mX12_laysDeed) dX12_laysDeed_14 FX12 41 wd1214 (by decide) (tl123 hT) rfl I9 rfl 17 rfl (fun v17 ev17 pv17 qv17 => ?_)
      have pv17 : 0 ≤ v17.toInt := pv17
      have qv17 : v17.toInt ≤ 16 := qv17
      refine pv_icmp_ge (M := mX12_laysDeed) (tgt := 43) dX12_laysDeed_17 20 rfl (by decide) (fun c18 => ?_) (fun c18 => ?_)
      · have c18 := iv_le (X := v17.toInt) (Y := y6.toInt) c18 rfl rfl
        exact pv_vret (M := mX12_laysDeed) dX12_laysDeed_43 rfl ⟨_, _, rfl, rfl, I9, K10⟩
      · have c18 := iv_nle (X := v17.toInt) (Y := y6.toInt) c18 rfl rfl
        refine pv_aload_n (M := mX12_laysDeed) 0 dX12_laysDeed_20 21 rfl rfl rfl ?_
        refine mv_get (M := mX12_laysDeed) (v := .ref 150) dX12_laysDeed_21 FX12 43 wd1216 (by decide) (tl123 hT) rfl rfl 24 rfl ?_
        refine pv_iload_n (M := mX12_laysDeed) 2 dX12_laysDeed_24 25 rfl rfl rfl ?_
        refine pv_aload_n (M := mX12_laysDeed) 0 dX12_laysDeed_25 26 rfl rfl rfl ?_
        refine mv_get (M := mX12_laysDeed) (v := .ref 127) dX12_laysDeed_26 FX12 8 wd1181 (by decide) (tl123 hT) rfl rfl 29 rfl ?_
        refine pv_bipush (M := mX12_laysDeed) (v := 16) dX12_laysDeed_29 31 rfl (by decide) ?_
        refine pv_iload_n (M := mX12_laysDeed) 1 dX12_laysDeed_31 32 rfl rfl rfl ?_
        refine iv_imul (M := mX12_laysDeed) (X := 16) (Y := x0.toInt) dX12_laysDeed_32 33 rfl (by decide) rfl (by omega) (by omega) (fun v19 ev19 => ?_)
        refine pv_iload_n (M := mX12_laysDeed) 2 dX12_laysDeed_33 34 rfl rfl rfl ?_
        refine iv_iadd (M := mX12_laysDeed) (X := v19.toInt) (Y := y6.toInt) dX12_laysDeed_34 35 rfl rfl rfl (by omega) (by omega) (fun v20 ev20 => ?_)
        refine iv_iald (M := mX12_laysDeed) (X := v20.toInt) dX12_laysDeed_35 (tl127 hT) rfl (by omega) (by omega) I9 (fun _ => rfl) 36 rfl (fun v21 ev21 pv21 qv21 => ?_)
        have pv21 : 0 ≤ v21.toInt := pv21
        have qv21 : v21.toInt ≤ 25 := qv21
        refine iv_iast (M := mX12_laysDeed) (X := y6.toInt) dX12_laysDeed_36 (tl150 hT) rfl (by omega) (by omega) I9 (fun _ => rfl) (show (0 : Int) ≤ v21.toInt by omega) (show v21.toInt ≤ (25 : Int) by omega) 37 rfl (fun m22 e25 I23 => ?_)
        have K24 := K10.set e25 rfl
        refine iv_inc (M := mX12_laysDeed) (C := 1) dX12_laysDeed_37 40 rfl rfl (by decide) rfl rfl (by decide) (by omega) (by omega) (fun v26 ev26 => ?_)
        show PV _ _ _ _ _ _ _ 40 [.ref 123, .int x0, .int v26] [] _
        refine pv_goto (M := mX12_laysDeed) (tgt := 12) dX12_laysDeed_40 (by decide) ?_
        exact ih13 v26 m22 n8 (by first | omega | decide) (by first | omega | decide) I23 K24 (by omega)
  have z27 : (0 : Int32).toInt = 0 := by decide
  exact lp12 (((16 - 0) : Int).toNat + 1) 0 m2 n (by first | omega | decide) (by first | omega | decide) I3 K4 (by omega)

set_option maxHeartbeats 1000000 in
set_option maxRecDepth 20000 in
theorem s_X12_comesWithout (g : pv_G) {T : List mv_T} {m : Nat → Nat → Int32} {n : Nat → Nat → Int64} {r : Nat → Value} (hT : TX T) (I : IV BB m) (x0 : Int32) : PM g mX12_comesWithout yX12_comesWithout (sqI T BB r m 0 1 (fun v => True)) 1 0 0 [.ref 123, .int x0] (mk T m n r) := by
  have Kp : kp m m := kp.rf
  refine PM.of 2 (lo := [.ref 123, .int x0, pv_U, pv_U]) rfl (by decide) rfl rfl (Nat.le_of_ble_eq_true rfl) ?_
  refine pv_iconst (M := mX12_comesWithout) (v := 0) dX12_comesWithout_0 1 rfl (by decide) ?_
  refine pv_istore_n (M := mX12_comesWithout) 2 (lo2 := [.ref 123, .int x0, .int 0, pv_U]) dX12_comesWithout_1 2 rfl rfl (by decide) rfl rfl ?_
  refine pv_iconst (M := mX12_comesWithout) (v := 0) dX12_comesWithout_2 3 rfl (by decide) ?_
  refine pv_istore_n (M := mX12_comesWithout) 3 (lo2 := [.ref 123, .int x0, .int 0, .int 0]) dX12_comesWithout_3 4 rfl rfl (by decide) rfl rfl ?_
  have lp8 : ∀ (fuel7 : Nat) (y1 : Int32) (y2 : Int32), (0 ≤ y1.toInt) → (y1.toInt ≤ 16) → (0 ≤ y2.toInt) → (y2.toInt ≤ 40) → ((40 - y2.toInt) : Int).toNat < fuel7 → PV none g mX12_comesWithout (sqI T BB r m 0 1 (fun v => True)) 1 0 0 4 [.ref 123, .int x0, .int y1, .int y2] [] (mk T m n r) := by
    intro fuel7
    induction fuel7 with
    | zero => intro y1 y2 b10 b11 b12 b13 z14; omega
    | succ fuel7 ih9 =>
      intro y1 y2 b10 b11 b12 b13 z14
      refine pv_iload_n (M := mX12_comesWithout) 3 dX12_comesWithout_4 5 rfl rfl rfl ?_
      refine pv_aload_n (M := mX12_comesWithout) 0 dX12_comesWithout_5 6 rfl rfl rfl ?_
      refine iv_get (M := mX12_comesWithout) dX12_comesWithout_6 FX12 40 wd1213 (by decide) (tl123 hT) rfl I rfl 9 rfl (fun v15 ev15 pv15 qv15 => ?_)
      have pv15 : 0 ≤ v15.toInt := pv15
      have qv15 : v15.toInt ≤ 40 := qv15
      refine pv_icmp_ge (M := mX12_comesWithout) (tgt := 50) dX12_comesWithout_9 12 rfl (by decide) (fun c16 => ?_) (fun c16 => ?_)
      · have c16 := iv_le (X := v15.toInt) (Y := y2.toInt) c16 rfl rfl
        refine pv_iload_n (M := mX12_comesWithout) 2 dX12_comesWithout_50 51 rfl rfl rfl ?_
        refine pv_aload_n (M := mX12_comesWithout) 0 dX12_comesWithout_51 52 rfl rfl rfl ?_
        refine iv_get (M := mX12_comesWithout) dX12_comesWithout_52 FX12 41 wd1214 (by decide) (tl123 hT) rfl I rfl 55 rfl (fun v17 ev17 pv17 qv17 => ?_)
        have pv17 : 0 ≤ v17.toInt := pv17
        have qv17 : v17.toInt ≤ 16 := qv17
        refine pv_icmp_ne (M := mX12_comesWithout) (tgt := 62) dX12_comesWithout_55 58 rfl (by decide) (fun c18 => ?_) (fun c18 => ?_)
        · have c18 := iv_ne (X := y1.toInt) (Y := v17.toInt) c18 rfl rfl
          refine pv_iconst (M := mX12_comesWithout) (v := 0) dX12_comesWithout_62 63 rfl (by decide) ?_
          exact pv_iret (M := mX12_comesWithout) dX12_comesWithout_63 rfl rfl ⟨_, _, _, rfl, rfl, I, Kp, by decide, by decide, trivial⟩
        · have c18 := iv_eq (X := y1.toInt) (Y := v17.toInt) c18 rfl rfl
          refine pv_iconst (M := mX12_comesWithout) (v := 1) dX12_comesWithout_58 59 rfl (by decide) ?_
          refine pv_goto (M := mX12_comesWithout) (tgt := 63) dX12_comesWithout_59 (by decide) ?_
          exact pv_iret (M := mX12_comesWithout) dX12_comesWithout_63 rfl rfl ⟨_, _, _, rfl, rfl, I, Kp, by decide, by decide, trivial⟩
      · have c16 := iv_nle (X := v15.toInt) (Y := y2.toInt) c16 rfl rfl
        refine pv_iload_n (M := mX12_comesWithout) 2 dX12_comesWithout_12 13 rfl rfl rfl ?_
        refine pv_aload_n (M := mX12_comesWithout) 0 dX12_comesWithout_13 14 rfl rfl rfl ?_
        refine iv_get (M := mX12_comesWithout) dX12_comesWithout_14 FX12 41 wd1214 (by decide) (tl123 hT) rfl I rfl 17 rfl (fun v19 ev19 pv19 qv19 => ?_)
        have pv19 : 0 ≤ v19.toInt := pv19
        have qv19 : v19.toInt ≤ 16 := qv19
        refine pv_icmp_ge (M := mX12_comesWithout) (tgt := 50) dX12_comesWithout_17 20 rfl (by decide) (fun c20 => ?_) (fun c20 => ?_)
        · have c20 := iv_le (X := v19.toInt) (Y := y1.toInt) c20 rfl rfl
          refine pv_iload_n (M := mX12_comesWithout) 2 dX12_comesWithout_50 51 rfl rfl rfl ?_
          refine pv_aload_n (M := mX12_comesWithout) 0 dX12_comesWithout_51 52 rfl rfl rfl ?_
          refine iv_get (M := mX12_comesWithout) dX12_comesWithout_52 FX12 41 wd1214 (by decide) (tl123 hT) rfl I rfl 55 rfl (fun v21 ev21 pv21 qv21 => ?_)
          have pv21 : 0 ≤ v21.toInt := pv21
          have qv21 : v21.toInt ≤ 16 := qv21
          refine pv_icmp_ne (M := mX12_comesWithout) (tgt := 62) dX12_comesWithout_55 58 rfl (by decide) (fun c22 => ?_) (fun c22 => ?_)
          · have c22 := iv_ne (X := y1.toInt) (Y := v21.toInt) c22 rfl rfl
            refine pv_iconst (M := mX12_comesWithout) (v := 0) dX12_comesWithout_62 63 rfl (by decide) ?_
            exact pv_iret (M := mX12_comesWithout) dX12_comesWithout_63 rfl rfl ⟨_, _, _, rfl, rfl, I, Kp, by decide, by decide, trivial⟩
          · have c22 := iv_eq (X := y1.toInt) (Y := v21.toInt) c22 rfl rfl
            refine pv_iconst (M := mX12_comesWithout) (v := 1) dX12_comesWithout_58 59 rfl (by decide) ?_
            refine pv_goto (M := mX12_comesWithout) (tgt := 63) dX12_comesWithout_59 (by decide) ?_
            exact pv_iret (M := mX12_comesWithout) dX12_comesWithout_63 rfl rfl ⟨_, _, _, rfl, rfl, I, Kp, by decide, by decide, trivial⟩
        · have c20 := iv_nle (X := v19.toInt) (Y := y1.toInt) c20 rfl rfl
          refine pv_iload_n (M := mX12_comesWithout) 3 dX12_comesWithout_20 21 rfl rfl rfl ?_
          refine pv_iload_n (M := mX12_comesWithout) 1 dX12_comesWithout_21 22 rfl rfl rfl ?_
          refine pv_icmp_eq (M := mX12_comesWithout) (tgt := 44) dX12_comesWithout_22 25 rfl (by decide) (fun c23 => ?_) (fun c23 => ?_)
          · have c23 := iv_eq (X := y2.toInt) (Y := x0.toInt) c23 rfl rfl
            refine iv_inc (M := mX12_comesWithout) (C := 1) dX12_comesWithout_44 47 rfl rfl (by decide) rfl rfl (by decide) (by omega) (by omega) (fun v24 ev24 => ?_)
            show PV _ _ _ _ _ _ _ 47 [.ref 123, .int x0, .int y1, .int v24] [] _
            refine pv_goto (M := mX12_comesWithout) (tgt := 4) dX12_comesWithout_47 (by decide) ?_
            exact ih9 y1 v24 (by first | omega | decide) (by first | omega | decide) (by first | omega | decide) (by first | omega | decide) (by omega)
          · have c23 := iv_ne (X := y2.toInt) (Y := x0.toInt) c23 rfl rfl
            refine pv_aload_n (M := mX12_comesWithout) 0 dX12_comesWithout_25 26 rfl rfl rfl ?_
            refine mv_get (M := mX12_comesWithout) (v := .ref 149) dX12_comesWithout_26 FX12 42 wd1215 (by decide) (tl123 hT) rfl rfl 29 rfl ?_
            refine pv_iload_n (M := mX12_comesWithout) 3 dX12_comesWithout_29 30 rfl rfl rfl ?_
            refine iv_iald (M := mX12_comesWithout) (X := y2.toInt) dX12_comesWithout_30 (tl149 hT) rfl (by omega) (by omega) I (fun _ => rfl) 31 rfl (fun v25 ev25 pv25 qv25 => ?_)
            have pv25 : 0 ≤ v25.toInt := pv25
            have qv25 : v25.toInt ≤ 25 := qv25
            refine pv_aload_n (M := mX12_comesWithout) 0 dX12_comesWithout_31 32 rfl rfl rfl ?_
            refine mv_get (M := mX12_comesWithout) (v := .ref 150) dX12_comesWithout_32 FX12 43 wd1216 (by decide) (tl123 hT) rfl rfl 35 rfl ?_
            refine pv_iload_n (M := mX12_comesWithout) 2 dX12_comesWithout_35 36 rfl rfl rfl ?_
            refine iv_iald (M := mX12_comesWithout) (X := y1.toInt) dX12_comesWithout_36 (tl150 hT) rfl (by omega) (by omega) I (fun _ => rfl) 37 rfl (fun v26 ev26 pv26 qv26 => ?_)
            have pv26 : 0 ≤ v26.toInt := pv26
            have qv26 : v26.toInt ≤ 25 := qv26
            refine pv_icmp_ne (M := mX12_comesWithout) (tgt := 44) dX12_comesWithout_37 40 rfl (by decide) (fun c27 => ?_) (fun c27 => ?_)
            · have c27 := iv_ne (X := v25.toInt) (Y := v26.toInt) c27 rfl rfl
              refine iv_inc (M := mX12_comesWithout) (C := 1) dX12_comesWithout_44 47 rfl rfl (by decide) rfl rfl (by decide) (by omega) (by omega) (fun v28 ev28 => ?_)
              show PV _ _ _ _ _ _ _ 47 [.ref 123, .int x0, .int y1, .int v28] [] _
              refine pv_goto (M := mX12_comesWithout) (tgt := 4) dX12_comesWithout_47 (by decide) ?_
              exact ih9 y1 v28 (by first | omega | decide) (by first | omega | decide) (by first | omega | decide) (by first | omega | decide) (by omega)
            · have c27 := iv_eq (X := v25.toInt) (Y := v26.toInt) c27 rfl rfl
              refine pv_iload_n (M := mX12_comesWithout) 2 dX12_comesWithout_40 41 rfl rfl rfl ?_
              refine pv_iconst (M := mX12_comesWithout) (v := 1) dX12_comesWithout_41 42 rfl (by decide) ?_
              refine iv_iadd (M := mX12_comesWithout) (X := y1.toInt) (Y := 1) dX12_comesWithout_42 43 rfl rfl (by decide) (by omega) (by omega) (fun v29 ev29 => ?_)
              refine pv_istore_n (M := mX12_comesWithout) 2 (lo2 := [.ref 123, .int x0, .int v29, .int y2]) dX12_comesWithout_43 44 rfl rfl (by decide) rfl rfl ?_
              refine iv_inc (M := mX12_comesWithout) (C := 1) dX12_comesWithout_44 47 rfl rfl (by decide) rfl rfl (by decide) (by omega) (by omega) (fun v30 ev30 => ?_)
              show PV _ _ _ _ _ _ _ 47 [.ref 123, .int x0, .int v29, .int v30] [] _
              refine pv_goto (M := mX12_comesWithout) (tgt := 4) dX12_comesWithout_47 (by decide) ?_
              exact ih9 v29 v30 (by first | omega | decide) (by first | omega | decide) (by first | omega | decide) (by first | omega | decide) (by omega)
  have z31 : (0 : Int32).toInt = 0 := by decide
  have z32 : (0 : Int32).toInt = 0 := by decide
  exact lp8 (((40 - 0) : Int).toNat + 1) 0 0 (by first | omega | decide) (by first | omega | decide) (by first | omega | decide) (by first | omega | decide) (by omega)
