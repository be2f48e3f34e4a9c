/-- the bounds of the memory -/
def BB (a i : Nat) : Int × Int := match a with
  | 123 => match i with
    | 0 => (0, 8)
    | 1 => (0, 999)
    | 2 => (0, 65535)
    | 3 => (0, 60)
    | 4 => (0, 255)
    | 11 => (0, 200)
    | 12 => (0, 160)
    | 13 => (0, 160)
    | 15 => (0, 6)
    | 16 => (0, 180)
    | 17 => (0, 180)
    | 18 => (0, 12)
    | 20 => (0, 12)
    | 40 => (0, 40)
    | 41 => (0, 16)
    | 50 => (0, 4)
    | _ => ((-2147483648), 2147483647)
  | 124 => (0, 40)
  | 125 => (0, 25)
  | 126 => (0, 16)
  | 127 => (0, 25)
  | 128 => (0, 1)
  | 129 => ((-128), 127)
  | 143 => (0, 7)
  | 147 => (0, 9)
  | 148 => (0, 39)
  | 149 => (0, 25)
  | 150 => (0, 25)
  | 152 => (0, 1999999998)
  | 153 => (0, 1999999998)
  | 154 => (0, 39)
  | 155 => (0, 1999999998)
  | 157 => (0, 7)
  | 158 => (0, 16)
  | 159 => (0, 17)
  | 161 => (0, 16)
  | 163 => (0, 1000000000)
  | 165 => (0, 1)
  | 166 => ((-2147483648), 2147483647)
  | 167 => (0, 1)
  | 168 => ((-2147483648), 2147483647)
  | _ => ((-2147483648), 2147483647)
set_option maxHeartbeats 1000000 in
set_option maxRecDepth 20000 in
theorem s_X12_in (g : pv_G) {T : List mv_T} {m : Nat → Nat → Int32} {n : Nat → Nat → Int64} {r : Nat → Value} (hT : TX T) (I : IV BB m) (x0 : Int32) (x1 : Int32) (x2 : Int32) : PM g mX12_in yX12_in (sqP (mk T m n r) 0 1 (fun v => v = 0 ∨ (x1.toInt ≤ x0.toInt ∧ x0.toInt ≤ x2.toInt))) 1 0 0 [.int x0, .int x1, .int x2] (mk T m n r) := by
  have Kp : kp m m := kp.rf
  refine PM.of 0 (lo := [.int x0, .int x1, .int x2]) rfl (by decide) rfl rfl (Nat.le_of_ble_eq_true rfl) ?_
  refine pv_iload_n (M := mX12_in) 0 dX12_in_0 1 rfl rfl rfl ?_
  refine pv_iload_n (M := mX12_in) 1 dX12_in_1 2 rfl rfl rfl ?_
  refine pv_icmp_lt (M := mX12_in) (tgt := 14) dX12_in_2 5 rfl (by decide) (fun c1 => ?_) (fun c1 => ?_)
  · have c1 := iv_lt (X := x0.toInt) (Y := x1.toInt) c1 rfl rfl
    refine pv_iconst (M := mX12_in) (v := 0) dX12_in_14 15 rfl (by decide) ?_
    exact pv_iret (M := mX12_in) dX12_in_15 rfl rfl ⟨_, rfl, rfl, by decide, by decide, Or.inl rfl⟩
  · have c1 := iv_nlt (X := x0.toInt) (Y := x1.toInt) c1 rfl rfl
    refine pv_iload_n (M := mX12_in) 0 dX12_in_5 6 rfl rfl rfl ?_
    refine pv_iload_n (M := mX12_in) 2 dX12_in_6 7 rfl rfl rfl ?_
    refine pv_icmp_gt (M := mX12_in) (tgt := 14) dX12_in_7 10 rfl (by decide) (fun c2 => ?_) (fun c2 => ?_)
    · have c2 := iv_lt (X := x2.toInt) (Y := x0.toInt) c2 rfl rfl
      refine pv_iconst (M := mX12_in) (v := 0) dX12_in_14 15 rfl (by decide) ?_
      exact pv_iret (M := mX12_in) dX12_in_15 rfl rfl ⟨_, rfl, rfl, by decide, by decide, Or.inl rfl⟩
    · have c2 := iv_nlt (X := x2.toInt) (Y := x0.toInt) c2 rfl rfl
      refine pv_iconst (M := mX12_in) (v := 1) dX12_in_10 11 rfl (by decide) ?_
      refine pv_goto (M := mX12_in) (tgt := 15) dX12_in_11 (by decide) ?_
      exact pv_iret (M := mX12_in) dX12_in_15 rfl rfl ⟨_, rfl, rfl, by decide, by decide, Or.inr ⟨by omega, by omega⟩⟩

set_option maxHeartbeats 1000000 in
set_option maxRecDepth 20000 in
theorem s_X12_isBlank (g : pv_G) {T : List mv_T} {m : Nat → Nat → Int32} {n : Nat → Nat → Int64} {r : Nat → Value} (hT : TX T) (I : IV BB m) (x0 : Int32) : PM g mX12_isBlank yX12_isBlank (sqP (mk T m n r) 0 1 (fun v => v = 0 ∨ (0 ≤ x0.toInt ∧ x0.toInt ≤ 7))) 1 0 0 [.ref 123, .int x0] (mk T m n r) := by
  have Kp : kp m m := kp.rf
  refine PM.of 0 (lo := [.ref 123, .int x0]) rfl (by decide) rfl rfl (Nat.le_of_ble_eq_true rfl) ?_
  refine pv_iload_n (M := mX12_isBlank) 1 dX12_isBlank_0 1 rfl rfl rfl ?_
  refine pv_if_lt (M := mX12_isBlank) (tgt := 16) dX12_isBlank_1 4 rfl (by decide) (fun c1 => ?_) (fun c1 => ?_)
  · have c1 := iv_lt (X := x0.toInt) (Y := 0) c1 rfl (by decide)
    refine pv_iconst (M := mX12_isBlank) (v := 0) dX12_isBlank_16 17 rfl (by decide) ?_
    exact pv_iret (M := mX12_isBlank) dX12_isBlank_17 rfl rfl ⟨_, rfl, rfl, by decide, by decide, Or.inl rfl⟩
  · have c1 := iv_nlt (X := x0.toInt) (Y := 0) c1 rfl (by decide)
    refine pv_iload_n (M := mX12_isBlank) 1 dX12_isBlank_4 5 rfl rfl rfl ?_
    refine pv_aload_n (M := mX12_isBlank) 0 dX12_isBlank_5 6 rfl rfl rfl ?_
    refine iv_get (M := mX12_isBlank) dX12_isBlank_6 FX12 0 wd1173 (by decide) (tl123 hT) rfl I rfl 9 rfl (fun v2 ev2 pv2 qv2 => ?_)
    have pv2 : 0 ≤ v2.toInt := pv2
    have qv2 : v2.toInt ≤ 8 := qv2
    refine pv_icmp_ge (M := mX12_isBlank) (tgt := 16) dX12_isBlank_9 12 rfl (by decide) (fun c3 => ?_) (fun c3 => ?_)
    · have c3 := iv_le (X := v2.toInt) (Y := x0.toInt) c3 rfl rfl
      refine pv_iconst (M := mX12_isBlank) (v := 0) dX12_isBlank_16 17 rfl (by decide) ?_
      exact pv_iret (M := mX12_isBlank) dX12_isBlank_17 rfl rfl ⟨_, rfl, rfl, by decide, by decide, Or.inl rfl⟩
    · have c3 := iv_nle (X := v2.toInt) (Y := x0.toInt) c3 rfl rfl
      refine pv_iconst (M := mX12_isBlank) (v := 1) dX12_isBlank_12 13 rfl (by decide) ?_
      refine pv_goto (M := mX12_isBlank) (tgt := 17) dX12_isBlank_13 (by decide) ?_
      exact pv_iret (M := mX12_isBlank) dX12_isBlank_17 rfl rfl ⟨_, rfl, rfl, by decide, by decide, Or.inr ⟨by omega, by omega⟩⟩

set_option maxHeartbeats 1000000 in
set_option maxRecDepth 20000 in
theorem s_X12_isDeed (g : pv_G) {T : List mv_T} {m : Nat → Nat → Int32} {n : Nat → Nat → Int64} {r : Nat → Value} (hT : TX T) (I : IV BB m) (x0 : Int32) : PM g mX12_isDeed yX12_isDeed (sqP (mk T m n r) 0 1 (fun v => v = 0 ∨ (0 ≤ x0.toInt ∧ x0.toInt ≤ 7))) 1 0 0 [.ref 123, .int x0] (mk T m n r) := by
  have Kp : kp m m := kp.rf
  refine PM.of 0 (lo := [.ref 123, .int x0]) rfl (by decide) rfl rfl (Nat.le_of_ble_eq_true rfl) ?_
  refine pv_iload_n (M := mX12_isDeed) 1 dX12_isDeed_0 1 rfl rfl rfl ?_
  refine pv_if_lt (M := mX12_isDeed) (tgt := 26) dX12_isDeed_1 4 rfl (by decide) (fun c1 => ?_) (fun c1 => ?_)
  · have c1 := iv_lt (X := x0.toInt) (Y := 0) c1 rfl (by decide)
    refine pv_iconst (M := mX12_isDeed) (v := 0) dX12_isDeed_26 27 rfl (by decide) ?_
    exact pv_iret (M := mX12_isDeed) dX12_isDeed_27 rfl rfl ⟨_, rfl, rfl, by decide, by decide, Or.inl rfl⟩
  · have c1 := iv_nlt (X := x0.toInt) (Y := 0) c1 rfl (by decide)
    refine pv_iload_n (M := mX12_isDeed) 1 dX12_isDeed_4 5 rfl rfl rfl ?_
    refine pv_bipush (M := mX12_isDeed) (v := 8) dX12_isDeed_5 7 rfl (by decide) ?_
    refine pv_icmp_ge (M := mX12_isDeed) (tgt := 26) dX12_isDeed_7 10 rfl (by decide) (fun c2 => ?_) (fun c2 => ?_)
    · have c2 := iv_le (X := 8) (Y := x0.toInt) c2 (by decide) rfl
      refine pv_iconst (M := mX12_isDeed) (v := 0) dX12_isDeed_26 27 rfl (by decide) ?_
      exact pv_iret (M := mX12_isDeed) dX12_isDeed_27 rfl rfl ⟨_, rfl, rfl, by decide, by decide, Or.inl rfl⟩
    · have c2 := iv_nle (X := 8) (Y := x0.toInt) c2 (by decide) rfl
      refine pv_aload_n (M := mX12_isDeed) 0 dX12_isDeed_10 11 rfl rfl rfl ?_
      refine iv_get (M := mX12_isDeed) dX12_isDeed_11 FX12 4 wd1177 (by decide) (tl123 hT) rfl I rfl 14 rfl (fun v3 ev3 pv3 qv3 => ?_)
      have pv3 : 0 ≤ v3.toInt := pv3
      have qv3 : v3.toInt ≤ 255 := qv3
      refine pv_iload_n (M := mX12_isDeed) 1 dX12_isDeed_14 15 rfl rfl rfl ?_
      refine pv_ishr (M := mX12_isDeed) (v := (v3 >>> (x0 &&& 31) : Int32)) dX12_isDeed_15 16 rfl rfl ?_
      obtain ⟨v4, ev4⟩ : ∃ z : Int32, z = v3 >>> (x0 &&& 31) := ⟨_, rfl⟩
      rw [← ev4]
      refine pv_iconst (M := mX12_isDeed) (v := 1) dX12_isDeed_16 17 rfl (by decide) ?_
      refine iv_iandm (M := mX12_isDeed) dX12_isDeed_17 18 rfl 1 (by decide) (by decide) (fun v5 ev5 pv5 qv5 => ?_)
      have qv5 : v5.toInt < 2 := qv5
      refine pv_iconst (M := mX12_isDeed) (v := 1) dX12_isDeed_18 19 rfl (by decide) ?_
      refine pv_icmp_ne (M := mX12_isDeed) (tgt := 26) dX12_isDeed_19 22 rfl (by decide) (fun c6 => ?_) (fun c6 => ?_)
      · have c6 := iv_ne (X := v5.toInt) (Y := 1) c6 rfl (by decide)
        refine pv_iconst (M := mX12_isDeed) (v := 0) dX12_isDeed_26 27 rfl (by decide) ?_
        exact pv_iret (M := mX12_isDeed) dX12_isDeed_27 rfl rfl ⟨_, rfl, rfl, by decide, by decide, Or.inl rfl⟩
      · have c6 := iv_eq (X := v5.toInt) (Y := 1) c6 rfl (by decide)
        refine pv_iconst (M := mX12_isDeed) (v := 1) dX12_isDeed_22 23 rfl (by decide) ?_
        refine pv_goto (M := mX12_isDeed) (tgt := 27) dX12_isDeed_23 (by decide) ?_
        exact pv_iret (M := mX12_isDeed) dX12_isDeed_27 rfl rfl ⟨_, rfl, rfl, by decide, by decide, Or.inr ⟨by omega, by omega⟩⟩

set_option maxHeartbeats 1000000 in
set_option maxRecDepth 20000 in
theorem s_X12_isClerk (g : pv_G) {T : List mv_T} {m : Nat → Nat → Int32} {n : Nat → Nat → Int64} {r : Nat → Value} (hT : TX T) (I : IV BB m) (x0 : Int32) : PM g mX12_isClerk yX12_isClerk (sqP (mk T m n r) 0 1 (fun v => v = 0 ∨ (0 ≤ x0.toInt ∧ x0.toInt ≤ 7))) 1 0 0 [.int x0] (mk T m n r) := by
  have Kp : kp m m := kp.rf
  refine PM.of 0 (lo := [.int x0]) rfl (by decide) rfl rfl (Nat.le_of_ble_eq_true rfl) ?_
  refine pv_iload_n (M := mX12_isClerk) 0 dX12_isClerk_0 1 rfl rfl rfl ?_
  refine pv_if_lt (M := mX12_isClerk) (tgt := 14) dX12_isClerk_1 4 rfl (by decide) (fun c1 => ?_) (fun c1 => ?_)
  · have c1 := iv_lt (X := x0.toInt) (Y := 0) c1 rfl (by decide)
    refine pv_iconst (M := mX12_isClerk) (v := 0) dX12_isClerk_14 15 rfl (by decide) ?_
    exact pv_iret (M := mX12_isClerk) dX12_isClerk_15 rfl rfl ⟨_, rfl, rfl, by decide, by decide, Or.inl rfl⟩
  · have c1 := iv_nlt (X := x0.toInt) (Y := 0) c1 rfl (by decide)
    refine pv_iload_n (M := mX12_isClerk) 0 dX12_isClerk_4 5 rfl rfl rfl ?_
    refine pv_bipush (M := mX12_isClerk) (v := 8) dX12_isClerk_5 7 rfl (by decide) ?_
    refine pv_icmp_ge (M := mX12_isClerk) (tgt := 14) dX12_isClerk_7 10 rfl (by decide) (fun c2 => ?_) (fun c2 => ?_)
    · have c2 := iv_le (X := 8) (Y := x0.toInt) c2 (by decide) rfl
      refine pv_iconst (M := mX12_isClerk) (v := 0) dX12_isClerk_14 15 rfl (by decide) ?_
      exact pv_iret (M := mX12_isClerk) dX12_isClerk_15 rfl rfl ⟨_, rfl, rfl, by decide, by decide, Or.inl rfl⟩
    · have c2 := iv_nle (X := 8) (Y := x0.toInt) c2 (by decide) rfl
      refine pv_iconst (M := mX12_isClerk) (v := 1) dX12_isClerk_10 11 rfl (by decide) ?_
      refine pv_goto (M := mX12_isClerk) (tgt := 15) dX12_isClerk_11 (by decide) ?_
      exact pv_iret (M := mX12_isClerk) dX12_isClerk_15 rfl rfl ⟨_, rfl, rfl, by decide, by decide, Or.inr ⟨by omega, by omega⟩⟩

set_option maxHeartbeats 1000000 in
set_option maxRecDepth 20000 in
theorem s_X12_isAsked (g : pv_G) {T : List mv_T} {m : Nat → Nat → Int32} {n : Nat → Nat → Int64} {r : Nat → Value} (hT : TX T) (I : IV BB m) (x0 : Int32) (x1 : Int32) : PM g mX12_isAsked yX12_isAsked (sqP (mk T m n r) 0 1 (fun v => v = 0 ∨ ((0 ≤ x0.toInt ∧ x0.toInt ≤ 7) ∧ (0 ≤ x1.toInt ∧ x1.toInt ≤ 7)))) 2 0 0 [.ref 123, .int x0, .int x1] (mk T m n r) := by
  have Kp : kp m m := kp.rf
  refine PM.of 0 (lo := [.ref 123, .int x0, .int x1]) rfl (by decide) rfl rfl (Nat.le_of_ble_eq_true rfl) ?_
  refine pv_aload_n (M := mX12_isAsked) 0 dX12_isAsked_0 1 rfl rfl rfl ?_
  refine pv_iload_n (M := mX12_isAsked) 1 dX12_isAsked_1 2 rfl rfl rfl ?_
  refine pv_callv (M := mX12_isAsked) (as := [.int x0]) (st := []) (kc2 := 0) (ks2 := 0) dX12_isAsked_2 wd1389 YX12_isBlank ⟨wd1391, wd55⟩ (mk_get (tl123 hT)) rfl rfl (s_X12_isBlank g hT I x0) rfl rfl (Nat.le_of_ble_eq_true rfl) (by decide) rfl rfl 5 rfl (fun rv h1 q1 => ?_)
  obtain ⟨v2, rfl, rfl, pv2, qv2, rv2⟩ := q1
  show PV _ _ _ _ _ _ _ 5 [.ref 123, .int x0, .int x1] [.int v2] _
  refine pv_if_eq (M := mX12_isAsked) (tgt := 20) dX12_isAsked_5 8 rfl (by decide) (fun c3 => ?_) (fun c3 => ?_)
  · have c3 := iv_eq (X := v2.toInt) (Y := 0) c3 rfl (by decide)
    refine pv_iconst (M := mX12_isAsked) (v := 0) dX12_isAsked_20 21 rfl (by decide) ?_
    exact pv_iret (M := mX12_isAsked) dX12_isAsked_21 rfl rfl ⟨_, rfl, rfl, by decide, by decide, Or.inl rfl⟩
  · have pc3 := rv2.resolve_left c3
    have c3 := iv_ne (X := v2.toInt) (Y := 0) c3 rfl (by decide)
    refine pv_aload_n (M := mX12_isAsked) 0 dX12_isAsked_8 9 rfl rfl rfl ?_
    refine pv_iload_n (M := mX12_isAsked) 2 dX12_isAsked_9 10 rfl rfl rfl ?_
    refine pv_callv (M := mX12_isAsked) (as := [.int x1]) (st := []) (kc2 := 0) (ks2 := 0) dX12_isAsked_10 wd1558 YX12_isDeed ⟨wd1560, wd87⟩ (mk_get (tl123 hT)) rfl rfl (s_X12_isDeed g hT I x1) rfl rfl (Nat.le_of_ble_eq_true rfl) (by decide) rfl rfl 13 rfl (fun rv h1 q4 => ?_)
    obtain ⟨v5, rfl, rfl, pv5, qv5, rv5⟩ := q4
    show PV _ _ _ _ _ _ _ 13 [.ref 123, .int x0, .int x1] [.int v5] _
    refine pv_if_eq (M := mX12_isAsked) (tgt := 20) dX12_isAsked_13 16 rfl (by decide) (fun c6 => ?_) (fun c6 => ?_)
    · have c6 := iv_eq (X := v5.toInt) (Y := 0) c6 rfl (by decide)
      refine pv_iconst (M := mX12_isAsked) (v := 0) dX12_isAsked_20 21 rfl (by decide) ?_
      exact pv_iret (M := mX12_isAsked) dX12_isAsked_21 rfl rfl ⟨_, rfl, rfl, by decide, by decide, Or.inl rfl⟩
    · have pc6 := rv5.resolve_left c6
      have c6 := iv_ne (X := v5.toInt) (Y := 0) c6 rfl (by decide)
      refine pv_iconst (M := mX12_isAsked) (v := 1) dX12_isAsked_16 17 rfl (by decide) ?_
      refine pv_goto (M := mX12_isAsked) (tgt := 21) dX12_isAsked_17 (by decide) ?_
      exact pv_iret (M := mX12_isAsked) dX12_isAsked_21 rfl rfl ⟨_, rfl, rfl, by decide, by decide, Or.inr ⟨⟨by omega, by omega⟩, by omega, by omega⟩⟩

set_option maxHeartbeats 1000000 in
set_option maxRecDepth 20000 in
theorem s_X12_leftMany (g : pv_G) {T : List mv_T} {m : Nat → Nat → Int32} {n : Nat → Nat → Int64} {r : Nat → Value} (hT : TX T) (I : IV BB m) (x0 : Int32) (hl0 : 0 ≤ x0.toInt) (hh0 : x0.toInt ≤ 7) : PM g mX12_leftMany yX12_leftMany (sqP (mk T m n r) 0 40 (fun v => True)) 1 0 0 [.ref 123, .int x0] (mk T m n r) := by
  have Kp : kp m m := kp.rf
  refine PM.of 2 (lo := [.ref 123, .int x0, pv_U, pv_U]) rfl (by decide) rfl rfl (Nat.le_of_ble_eq_true rfl) ?_
  refine pv_iconst (M := mX12_leftMany) (v := 0) dX12_leftMany_0 1 rfl (by decide) ?_
  refine pv_istore_n (M := mX12_leftMany) 2 (lo2 := [.ref 123, .int x0, .int 0, pv_U]) dX12_leftMany_1 2 rfl rfl (by decide) rfl rfl ?_
  refine pv_iconst (M := mX12_leftMany) (v := 0) dX12_leftMany_2 3 rfl (by decide) ?_
  refine pv_istore_n (M := mX12_leftMany) 3 (lo2 := [.ref 123, .int x0, .int 0, .int 0]) dX12_leftMany_3 4 rfl rfl (by decide) rfl rfl ?_
  have lp8 : ∀ (fuel7 : Nat) (y1 : Int32) (y2 : Int32), (0 ≤ y1.toInt) → (y1.toInt ≤ 40) → (0 ≤ y2.toInt) → (y2.toInt ≤ 40) → (y1.toInt ≤ y2.toInt) → ((40 - y2.toInt) : Int).toNat < fuel7 → PV none g mX12_leftMany (sqP (mk T m n r) 0 40 (fun v => True)) 1 0 0 4 [.ref 123, .int x0, .int y1, .int y2] [] (mk T m n r) := by
    intro fuel7
    induction fuel7 with
    | zero => intro y1 y2 b10 b11 b12 b13 b14 z15; omega
    | succ fuel7 ih9 =>
      intro y1 y2 b10 b11 b12 b13 b14 z15
      refine pv_iload_n (M := mX12_leftMany) 3 dX12_leftMany_4 5 rfl rfl rfl ?_
      refine pv_aload_n (M := mX12_leftMany) 0 dX12_leftMany_5 6 rfl rfl rfl ?_
      refine mv_get (M := mX12_leftMany) (v := .ref 124) dX12_leftMany_6 FX12 5 wd1178 (by decide) (tl123 hT) rfl rfl 9 rfl ?_
      refine pv_iload_n (M := mX12_leftMany) 1 dX12_leftMany_9 10 rfl rfl rfl ?_
      refine iv_iald (M := mX12_leftMany) (X := x0.toInt) dX12_leftMany_10 (tl124 hT) rfl (by omega) (by omega) I (fun _ => rfl) 11 rfl (fun v16 ev16 pv16 qv16 => ?_)
      have pv16 : 0 ≤ v16.toInt := pv16
      have qv16 : v16.toInt ≤ 40 := qv16
      refine pv_icmp_ge (M := mX12_leftMany) (tgt := 42) dX12_leftMany_11 14 rfl (by decide) (fun c17 => ?_) (fun c17 => ?_)
      · have c17 := iv_le (X := v16.toInt) (Y := y2.toInt) c17 rfl rfl
        refine pv_iload_n (M := mX12_leftMany) 2 dX12_leftMany_42 43 rfl rfl rfl ?_
        exact pv_iret (M := mX12_leftMany) dX12_leftMany_43 rfl rfl ⟨_, rfl, rfl, by omega, by omega, trivial⟩
      · have c17 := iv_nle (X := v16.toInt) (Y := y2.toInt) c17 rfl rfl
        refine pv_iload_n (M := mX12_leftMany) 2 dX12_leftMany_14 15 rfl rfl rfl ?_
        refine pv_aload_n (M := mX12_leftMany) 0 dX12_leftMany_15 16 rfl rfl rfl ?_
        refine mv_get (M := mX12_leftMany) (v := .ref 128) dX12_leftMany_16 FX12 9 wd1182 (by decide) (tl123 hT) rfl rfl 19 rfl ?_
        refine pv_bipush (M := mX12_leftMany) (v := 40) dX12_leftMany_19 21 rfl (by decide) ?_
        refine pv_iload_n (M := mX12_leftMany) 1 dX12_leftMany_21 22 rfl rfl rfl ?_
        refine iv_imul (M := mX12_leftMany) (X := 40) (Y := x0.toInt) dX12_leftMany_22 23 rfl (by decide) rfl (by omega) (by omega) (fun v18 ev18 => ?_)
        refine pv_iload_n (M := mX12_leftMany) 3 dX12_leftMany_23 24 rfl rfl rfl ?_
        refine iv_iadd (M := mX12_leftMany) (X := v18.toInt) (Y := y2.toInt) dX12_leftMany_24 25 rfl rfl rfl (by omega) (by omega) (fun v19 ev19 => ?_)
        refine iv_zald (M := mX12_leftMany) (X := v19.toInt) dX12_leftMany_25 (tl128 hT) rfl (by omega) (by omega) I (fun _ => rfl) 26 rfl (fun v20 ev20 pv20 qv20 => ?_)
        have pv20 : 0 ≤ v20.toInt := pv20
        have qv20 : v20.toInt ≤ 1 := qv20
        refine pv_if_eq (M := mX12_leftMany) (tgt := 33) dX12_leftMany_26 29 rfl (by decide) (fun c21 => ?_) (fun c21 => ?_)
        · have c21 := iv_eq (X := v20.toInt) (Y := 0) c21 rfl (by decide)
          refine pv_iconst (M := mX12_leftMany) (v := 1) dX12_leftMany_33 34 rfl (by decide) ?_
          refine iv_iadd (M := mX12_leftMany) (X := y1.toInt) (Y := 1) dX12_leftMany_34 35 rfl rfl (by decide) (by omega) (by omega) (fun v22 ev22 => ?_)
          refine pv_istore_n (M := mX12_leftMany) 2 (lo2 := [.ref 123, .int x0, .int v22, .int y2]) dX12_leftMany_35 36 rfl rfl (by decide) rfl rfl ?_
          refine iv_inc (M := mX12_leftMany) (C := 1) dX12_leftMany_36 39 rfl rfl (by decide) rfl rfl (by decide) (by omega) (by omega) (fun v23 ev23 => ?_)
          show PV _ _ _ _ _ _ _ 39 [.ref 123, .int x0, .int v22, .int v23] [] _
          refine pv_goto (M := mX12_leftMany) (tgt := 4) dX12_leftMany_39 (by decide) ?_
          exact ih9 v22 v23 (by first | omega | decide) (by first | omega | decide) (by first | omega | decide) (by first | omega | decide) (by first | omega | decide) (by omega)
        · have c21 := iv_ne (X := v20.toInt) (Y := 0) c21 rfl (by decide)
          refine pv_iconst (M := mX12_leftMany) (v := 0) dX12_leftMany_29 30 rfl (by decide) ?_
          refine pv_goto (M := mX12_leftMany) (tgt := 34) dX12_leftMany_30 (by decide) ?_
          refine iv_iadd (M := mX12_leftMany) (X := y1.toInt) (Y := 0) dX12_leftMany_34 35 rfl rfl (by decide) (by omega) (by omega) (fun v24 ev24 => ?_)
          refine pv_istore_n (M := mX12_leftMany) 2 (lo2 := [.ref 123, .int x0, .int v24, .int y2]) dX12_leftMany_35 36 rfl rfl (by decide) rfl rfl ?_
          refine iv_inc (M := mX12_leftMany) (C := 1) dX12_leftMany_36 39 rfl rfl (by decide) rfl rfl (by decide) (by omega) (by omega) (fun v25 ev25 => ?_)
          show PV _ _ _ _ _ _ _ 39 [.ref 123, .int x0, .int v24, .int v25] [] _
          refine pv_goto (M := mX12_leftMany) (tgt := 4) dX12_leftMany_39 (by decide) ?_
          exact ih9 v24 v25 (by first | omega | decide) (by first | omega | decide) (by first | omega | decide) (by first | omega | decide) (by first | omega | decide) (by omega)
  have z26 : (0 : Int32).toInt = 0 := by decide
  have z27 : (0 : Int32).toInt = 0 := by decide
  exact lp8 (((40 - 0) : Int).toNat + 1) 0 0 (by first | omega | decide) (by first | omega | decide) (by first | omega | decide) (by first | omega | decide) (by first | omega | decide) (by omega)

set_option maxHeartbeats 1000000 in
set_option maxRecDepth 20000 in
theorem s_X12_laysParent (g : pv_G) {T : List mv_T} {m : Nat → Nat → Int32} {n : Nat → Nat → Int64} {r : Nat → Value} (hT : TX T) (I : IV BB m) (x0 : Int32) (hl0 : 0 ≤ x0.toInt) (hh0 : x0.toInt ≤ 7) : PM g mX12_laysParent yX12_laysParent (sqV T BB r m) 1 0 0 [.ref 123, .int x0] (mk T m n r) := by
  have Kp : kp m m := kp.rf
  refine PM.of 1 (lo := [.ref 123, .int x0, pv_U]) rfl (by decide) rfl rfl (Nat.le_of_ble_eq_true rfl) ?_
  refine pv_aload_n (M := mX12_laysParent) 0 dX12_laysParent_0 1 rfl rfl rfl ?_
  refine pv_aload_n (M := mX12_laysParent) 0 dX12_laysParent_1 2 rfl rfl rfl ?_
  refine mv_get (M := mX12_laysParent) (v := .ref 126) dX12_laysParent_2 FX12 7 wd1180 (by decide) (tl123 hT) rfl rfl 5 rfl ?_
  refine pv_iload_n (M := mX12_laysParent) 1 dX12_laysParent_5 6 rfl rfl rfl ?_
  refine iv_iald (M := mX12_laysParent) (X := x0.toInt) dX12_laysParent_6 (tl126 hT) rfl (by omega) (by omega) I (fun _ => rfl) 7 rfl (fun v1 ev1 pv1 qv1 => ?_)
  have pv1 : 0 ≤ v1.toInt := pv1
  have qv1 : v1.toInt ≤ 16 := qv1
  refine iv_put (M := mX12_laysParent) dX12_laysParent_7 FX12 40 wd1213 (by decide) rfl (tl123 hT) rfl rfl rfl I rfl (show (0 : Int) ≤ v1.toInt by omega) (show v1.toInt ≤ (40 : Int) by omega) 10 rfl (fun m2 e5 I3 => ?_)
  have K4 := Kp.set e5 rfl
  have w6 : (m2 123 40).toInt = v1.toInt := by rw [e5, up2_eq]
  refine pv_iconst (M := mX12_laysParent) (v := 0) dX12_laysParent_10 11 rfl (by decide) ?_
  refine pv_istore_n (M := mX12_laysParent) 2 (lo2 := [.ref 123, .int x0, .int 0]) dX12_laysParent_11 12 rfl rfl (by decide) rfl rfl ?_
  have lp13 : ∀ (fuel12 : Nat) (y7 : Int32) (m8 : Nat → Nat → Int32) (n9 : Nat → Nat → Int64), (0 ≤ y7.toInt) → (y7.toInt ≤ 40) → ((m8 123 40).toInt ≤ 16) → IV BB m8 → kp m m8 → ((40 - y7.toInt) : Int).toNat < fuel12 → PV none g mX12_laysParent (sqV T BB r m) 1 0 0 12 [.ref 123, .int x0, .int y7] [] (mk T m8 n9 r) := by
    intro fuel12
    induction fuel12 with
    | zero => intro y7 m8 n9 b15 b16 b17 I10 K11 z18; omega
    | succ fuel12 ih14 =>
      intro y7 m8 n9 b15 b16 b17 I10 K11 z18
      refine pv_iload_n (M := mX12_laysParent) 2 dX12_laysParent_12 13 rfl rfl rfl ?_
      refine pv_aload_n (M := mX12_laysParent) 0 dX12_laysParent_13 14 rfl rfl rfl ?_
      refine iv_get (M := mX12_laysParent) dX12_laysParent_14 FX12 40 wd1213 (by decide) (tl123 hT) rfl I10 rfl 17 rfl (fun v19 ev19 pv19 qv19 => ?_)
      have pv19 : 0 ≤ v19.toInt := pv19
      have qv19 : v19.toInt ≤ 40 := qv19
      have wv19 : v19.toInt = (m8 123 40).toInt := congrArg Int32.toInt ev19
      refine pv_icmp_ge (M := mX12_laysParent) (tgt := 43) dX12_laysParent_17 20 rfl (by decide) (fun c20 => ?_) (fun c20 => ?_)
      · have c20 := iv_le (X := v19.toInt) (Y := y7.toInt) c20 rfl rfl
        exact pv_vret (M := mX12_laysParent) dX12_laysParent_43 rfl ⟨_, _, rfl, rfl, I10, K11⟩
      · have c20 := iv_nle (X := v19.toInt) (Y := y7.toInt) c20 rfl rfl
        refine pv_aload_n (M := mX12_laysParent) 0 dX12_laysParent_20 21 rfl rfl rfl ?_
        refine mv_get (M := mX12_laysParent) (v := .ref 149) dX12_laysParent_21 FX12 42 wd1215 (by decide) (tl123 hT) rfl rfl 24 rfl ?_
        refine pv_iload_n (M := mX12_laysParent) 2 dX12_laysParent_24 25 rfl rfl rfl ?_
        refine pv_aload_n (M := mX12_laysParent) 0 dX12_laysParent_25 26 rfl rfl rfl ?_
        refine mv_get (M := mX12_laysParent) (v := .ref 127) dX12_laysParent_26 FX12 8 wd1181 (by decide) (tl123 hT) rfl rfl 29 rfl ?_
        refine pv_bipush (M := mX12_laysParent) (v := 16) dX12_laysParent_29 31 rfl (by decide) ?_
        refine pv_iload_n (M := mX12_laysParent) 1 dX12_laysParent_31 32 rfl rfl rfl ?_
        refine iv_imul (M := mX12_laysParent) (X := 16) (Y := x0.toInt) dX12_laysParent_32 33 rfl (by decide) rfl (by omega) (by omega) (fun v21 ev21 => ?_)
        refine pv_iload_n (M := mX12_laysParent) 2 dX12_laysParent_33 34 rfl rfl rfl ?_
        refine iv_iadd (M := mX12_laysParent) (X := v21.toInt) (Y := y7.toInt) dX12_laysParent_34 35 rfl rfl rfl (by omega) (by omega) (fun v22 ev22 => ?_)
        refine iv_iald (M := mX12_laysParent) (X := v22.toInt) dX12_laysParent_35 (tl127 hT) rfl (by omega) (by omega) I10 (fun _ => rfl) 36 rfl (fun v23 ev23 pv23 qv23 => ?_)
        have pv23 : 0 ≤ v23.toInt := pv23
        have qv23 : v23.toInt ≤ 25 := qv23
        refine iv_iast (M := mX12_laysParent) (X := y7.toInt) dX12_laysParent_36 (tl149 hT) rfl (by omega) (by omega) I10 (fun _ => rfl) (show (0 : Int) ≤ v23.toInt by omega) (show v23.toInt ≤ (25 : Int) by omega) 37 rfl (fun m24 e27 I25 => ?_)
        have K26 := K11.set e27 rfl
        have w28 : (m24 123 40).toInt = (m8 123 40).toInt := by rw [e27, up2_ne (by omega)]
        refine iv_inc (M := mX12_laysParent) (C := 1) dX12_laysParent_37 40 rfl rfl (by decide) rfl rfl (by decide) (by omega) (by omega) (fun v29 ev29 => ?_)
        show PV _ _ _ _ _ _ _ 40 [.ref 123, .int x0, .int v29] [] _
        refine pv_goto (M := mX12_laysParent) (tgt := 12) dX12_laysParent_40 (by decide) ?_
        exact ih14 v29 m24 n9 (by first | omega | decide) (by first | omega | decide) (by first | omega | decide) I25 K26 (by omega)
  have z30 : (0 : Int32).toInt = 0 := by decide
  exact lp13 (((40 - 0) : Int).toNat + 1) 0 m2 n (by first | omega | decide) (by first | omega | decide) (by first | omega | decide) I3 K4 (by omega)

set_option maxHeartbeats 1000000 in
set_option maxRecDepth 20000 in
theorem s_X12_laysDeed (g : pv_G) {T : List mv_T} {m : Nat → Nat → Int32} {n : Nat → Nat → Int64} {r : Nat → Value} (hT : TX T) (I : IV BB m) (x0 : Int32) (hl0 : 0 ≤ x0.toInt) (hh0 : x0.toInt ≤ 7) : PM g mX12_laysDeed yX12_laysDeed (sqV T BB r m) 1 0 0 [.ref 123, .int x0] (mk T m n r) := by
  have Kp : kp m m := kp.rf
  refine PM.of 1 (lo := [.ref 123, .int x0, pv_U]) rfl (by decide) rfl rfl (Nat.le_of_ble_eq_true rfl) ?_
  refine pv_aload_n (M := mX12_laysDeed) 0 dX12_laysDeed_0 1 rfl rfl rfl ?_
  refine pv_aload_n (M := mX12_laysDeed) 0 dX12_laysDeed_1 2 rfl rfl rfl ?_
  refine mv_get (M := mX12_laysDeed) (v := .ref 126) dX12_laysDeed_2 FX12 7 wd1180 (by decide) (tl123 hT) rfl rfl 5 rfl ?_
  refine pv_iload_n (M := mX12_laysDeed) 1 dX12_laysDeed_5 6 rfl rfl rfl ?_
  refine iv_iald (M := mX12_laysDeed) (X := x0.toInt) dX12_laysDeed_6 (tl126 hT) rfl (by omega) (by omega) I (fun _ => rfl) 7 rfl (fun v1 ev1 pv1 qv1 => ?_)
  have pv1 : 0 ≤ v1.toInt := pv1
  have qv1 : v1.toInt ≤ 16 := qv1
  refine iv_put (M := mX12_laysDeed) dX12_laysDeed_7 FX12 41 wd1214 (by decide) rfl (tl123 hT) rfl rfl rfl I rfl (show (0 : Int) ≤ v1.toInt by omega) (show v1.toInt ≤ (16 : Int) by omega) 10 rfl (fun m2 e5 I3 => ?_)
  have K4 := Kp.set e5 rfl
  refine pv_iconst (M := mX12_laysDeed) (v := 0) dX12_laysDeed_10 11 rfl (by decide) ?_
  refine pv_istore_n (M := mX12_laysDeed) 2 (lo2 := [.ref 123, .int x0, .int 0]) dX12_laysDeed_11 12 rfl rfl (by decide) rfl rfl ?_
  have lp12 : ∀ (fuel11 : Nat) (y6 : Int32) (m7 : Nat → Nat → Int32) (n8 : Nat → Nat → Int64), (0 ≤ y6.toInt) → (y6.toInt ≤ 16) → IV BB m7 → kp m m7 → ((16 - y6.toInt) : Int).toNat < fuel11 → PV none g mX12_laysDeed (sqV T BB r m) 1 0 0 12 [.ref 123, .int x0, .int y6] [] (mk T m7 n8 r) := by
    intro fuel11
    induction fuel11 with
    | zero => intro y6 m7 n8 b14 b15 I9 K10 z16; omega
    | succ fuel11 ih13 =>
      intro y6 m7 n8 b14 b15 I9 K10 z16
      refine pv_iload_n (M := mX12_laysDeed) 2 dX12_laysDeed_12 13 rfl rfl rfl ?_
      refine pv_aload_n (M := mX12_laysDeed) 0 dX12_laysDeed_13 14 rfl rfl rfl ?_
      refine iv_get (M := mX12_laysDeed) dX12_laysDeed_14 FX12 41 wd1214 (by decide) (tl123 hT) rfl I9 rfl 17 rfl (fun v17 ev17 pv17 qv17 => ?_)
      have pv17 : 0 ≤ v17.toInt := pv17
      have qv17 : v17.toInt ≤ 16 := qv17
      refine pv_icmp_ge (M := mX12_laysDeed) (tgt := 43) dX12_laysDeed_17 20 rfl (by decide) (fun c18 => ?_) (fun c18 => ?_)
      · have c18 := iv_le (X := v17.toInt) (Y := y6.toInt) c18 rfl rfl
        exact pv_vret (M := mX12_laysDeed) dX12_laysDeed_43 rfl ⟨_, _, rfl, rfl, I9, K10⟩
      · have c18 := iv_nle (X := v17.toInt) (Y := y6.toInt) c18 rfl rfl
        refine pv_aload_n (M := mX12_laysDeed) 0 dX12_laysDeed_20 21 rfl rfl rfl ?_
        refine mv_get (M := mX12_laysDeed) (v := .ref 150) dX12_laysDeed_21 FX12 43 wd1216 (by decide) (tl123 hT) rfl rfl 24 rfl ?_
        refine pv_iload_n (M := mX12_laysDeed) 2 dX12_laysDeed_24 25 rfl rfl rfl ?_
        refine pv_aload_n (M := mX12_laysDeed) 0 dX12_laysDeed_25 26 rfl rfl rfl ?_
        refine mv_get (M := mX12_laysDeed) (v := .ref 127) dX12_laysDeed_26 FX12 8 wd1181 (by decide) (tl123 hT) rfl rfl 29 rfl ?_
        refine pv_bipush (M := mX12_laysDeed) (v := 16) dX12_laysDeed_29 31 rfl (by decide) ?_
        refine pv_iload_n (M := mX12_laysDeed) 1 dX12_laysDeed_31 32 rfl rfl rfl ?_
        refine iv_imul (M := mX12_laysDeed) (X := 16) (Y := x0.toInt) dX12_laysDeed_32 33 rfl (by decide) rfl (by omega) (by omega) (fun v19 ev19 => ?_)
        refine pv_iload_n (M := mX12_laysDeed) 2 dX12_laysDeed_33 34 rfl rfl rfl ?_
        refine iv_iadd (M := mX12_laysDeed) (X := v19.toInt) (Y := y6.toInt) dX12_laysDeed_34 35 rfl rfl rfl (by omega) (by omega) (fun v20 ev20 => ?_)
        refine iv_iald (M := mX12_laysDeed) (X := v20.toInt) dX12_laysDeed_35 (tl127 hT) rfl (by omega) (by omega) I9 (fun _ => rfl) 36 rfl (fun v21 ev21 pv21 qv21 => ?_)
        have pv21 : 0 ≤ v21.toInt := pv21
        have qv21 : v21.toInt ≤ 25 := qv21
        refine iv_iast (M := mX12_laysDeed) (X := y6.toInt) dX12_laysDeed_36 (tl150 hT) rfl (by omega) (by omega) I9 (fun _ => rfl) (show (0 : Int) ≤ v21.toInt by omega) (show v21.toInt ≤ (25 : Int) by omega) 37 rfl (fun m22 e25 I23 => ?_)
        have K24 := K10.set e25 rfl
        refine iv_inc (M := mX12_laysDeed) (C := 1) dX12_laysDeed_37 40 rfl rfl (by decide) rfl rfl (by decide) (by omega) (by omega) (fun v26 ev26 => ?_)
        show PV _ _ _ _ _ _ _ 40 [.ref 123, .int x0, .int v26] [] _
        refine pv_goto (M := mX12_laysDeed) (tgt := 12) dX12_laysDeed_40 (by decide) ?_
        exact ih13 v26 m22 n8 (by first | omega | decide) (by first | omega | decide) I23 K24 (by omega)
  have z27 : (0 : Int32).toInt = 0 := by decide
  exact lp12 (((16 - 0) : Int).toNat + 1) 0 m2 n (by first | omega | decide) (by first | omega | decide) I3 K4 (by omega)

set_option maxHeartbeats 1000000 in
set_option maxRecDepth 20000 in
theorem s_X12_comesWithout (g : pv_G) {T : List mv_T} {m : Nat → Nat → Int32} {n : Nat → Nat → Int64} {r : Nat → Value} (hT : TX T) (I : IV BB m) (x0 : Int32) : PM g mX12_comesWithout yX12_comesWithout (sqP (mk T m n r) 0 1 (fun v => True)) 1 0 0 [.ref 123, .int x0] (mk T m n r) := by
  have Kp : kp m m := kp.rf
  refine PM.of 2 (lo := [.ref 123, .int x0, pv_U, pv_U]) rfl (by decide) rfl rfl (Nat.le_of_ble_eq_true rfl) ?_
  refine pv_iconst (M := mX12_comesWithout) (v := 0) dX12_comesWithout_0 1 rfl (by decide) ?_
  refine pv_istore_n (M := mX12_comesWithout) 2 (lo2 := [.ref 123, .int x0, .int 0, pv_U]) dX12_comesWithout_1 2 rfl rfl (by decide) rfl rfl ?_
  refine pv_iconst (M := mX12_comesWithout) (v := 0) dX12_comesWithout_2 3 rfl (by decide) ?_
  refine pv_istore_n (M := mX12_comesWithout) 3 (lo2 := [.ref 123, .int x0, .int 0, .int 0]) dX12_comesWithout_3 4 rfl rfl (by decide) rfl rfl ?_
  have lp8 : ∀ (fuel7 : Nat) (y1 : Int32) (y2 : Int32), (0 ≤ y1.toInt) → (y1.toInt ≤ 16) → (0 ≤ y2.toInt) → (y2.toInt ≤ 40) → ((40 - y2.toInt) : Int).toNat < fuel7 → PV none g mX12_comesWithout (sqP (mk T m n r) 0 1 (fun v => True)) 1 0 0 4 [.ref 123, .int x0, .int y1, .int y2] [] (mk T m n r) := by
    intro fuel7
    induction fuel7 with
    | zero => intro y1 y2 b10 b11 b12 b13 z14; omega
    | succ fuel7 ih9 =>
      intro y1 y2 b10 b11 b12 b13 z14
      refine pv_iload_n (M := mX12_comesWithout) 3 dX12_comesWithout_4 5 rfl rfl rfl ?_
      refine pv_aload_n (M := mX12_comesWithout) 0 dX12_comesWithout_5 6 rfl rfl rfl ?_
      refine iv_get (M := mX12_comesWithout) dX12_comesWithout_6 FX12 40 wd1213 (by decide) (tl123 hT) rfl I rfl 9 rfl (fun v15 ev15 pv15 qv15 => ?_)
      have pv15 : 0 ≤ v15.toInt := pv15
      have qv15 : v15.toInt ≤ 40 := qv15
      refine pv_icmp_ge (M := mX12_comesWithout) (tgt := 50) dX12_comesWithout_9 12 rfl (by decide) (fun c16 => ?_) (fun c16 => ?_)
      · have c16 := iv_le (X := v15.toInt) (Y := y2.toInt) c16 rfl rfl
        refine pv_iload_n (M := mX12_comesWithout) 2 dX12_comesWithout_50 51 rfl rfl rfl ?_
        refine pv_aload_n (M := mX12_comesWithout) 0 dX12_comesWithout_51 52 rfl rfl rfl ?_
        refine iv_get (M := mX12_comesWithout) dX12_comesWithout_52 FX12 41 wd1214 (by decide) (tl123 hT) rfl I rfl 55 rfl (fun v17 ev17 pv17 qv17 => ?_)
        have pv17 : 0 ≤ v17.toInt := pv17
        have qv17 : v17.toInt ≤ 16 := qv17
        refine pv_icmp_ne (M := mX12_comesWithout) (tgt := 62) dX12_comesWithout_55 58 rfl (by decide) (fun c18 => ?_) (fun c18 => ?_)
        · have c18 := iv_ne (X := y1.toInt) (Y := v17.toInt) c18 rfl rfl
          refine pv_iconst (M := mX12_comesWithout) (v := 0) dX12_comesWithout_62 63 rfl (by decide) ?_
          exact pv_iret (M := mX12_comesWithout) dX12_comesWithout_63 rfl rfl ⟨_, rfl, rfl, by decide, by decide, trivial⟩
        · have c18 := iv_eq (X := y1.toInt) (Y := v17.toInt) c18 rfl rfl
          refine pv_iconst (M := mX12_comesWithout) (v := 1) dX12_comesWithout_58 59 rfl (by decide) ?_
          refine pv_goto (M := mX12_comesWithout) (tgt := 63) dX12_comesWithout_59 (by decide) ?_
          exact pv_iret (M := mX12_comesWithout) dX12_comesWithout_63 rfl rfl ⟨_, rfl, rfl, by decide, by decide, trivial⟩
      · have c16 := iv_nle (X := v15.toInt) (Y := y2.toInt) c16 rfl rfl
        refine pv_iload_n (M := mX12_comesWithout) 2 dX12_comesWithout_12 13 rfl rfl rfl ?_
        refine pv_aload_n (M := mX12_comesWithout) 0 dX12_comesWithout_13 14 rfl rfl rfl ?_
        refine iv_get (M := mX12_comesWithout) dX12_comesWithout_14 FX12 41 wd1214 (by decide) (tl123 hT) rfl I rfl 17 rfl (fun v19 ev19 pv19 qv19 => ?_)
        have pv19 : 0 ≤ v19.toInt := pv19
        have qv19 : v19.toInt ≤ 16 := qv19
        refine pv_icmp_ge (M := mX12_comesWithout) (tgt := 50) dX12_comesWithout_17 20 rfl (by decide) (fun c20 => ?_) (fun c20 => ?_)
        · have c20 := iv_le (X := v19.toInt) (Y := y1.toInt) c20 rfl rfl
          refine pv_iload_n (M := mX12_comesWithout) 2 dX12_comesWithout_50 51 rfl rfl rfl ?_
          refine pv_aload_n (M := mX12_comesWithout) 0 dX12_comesWithout_51 52 rfl rfl rfl ?_
          refine iv_get (M := mX12_comesWithout) dX12_comesWithout_52 FX12 41 wd1214 (by decide) (tl123 hT) rfl I rfl 55 rfl (fun v21 ev21 pv21 qv21 => ?_)
          have pv21 : 0 ≤ v21.toInt := pv21
          have qv21 : v21.toInt ≤ 16 := qv21
          refine pv_icmp_ne (M := mX12_comesWithout) (tgt := 62) dX12_comesWithout_55 58 rfl (by decide) (fun c22 => ?_) (fun c22 => ?_)
          · have c22 := iv_ne (X := y1.toInt) (Y := v21.toInt) c22 rfl rfl
            refine pv_iconst (M := mX12_comesWithout) (v := 0) dX12_comesWithout_62 63 rfl (by decide) ?_
            exact pv_iret (M := mX12_comesWithout) dX12_comesWithout_63 rfl rfl ⟨_, rfl, rfl, by decide, by decide, trivial⟩
          · have c22 := iv_eq (X := y1.toInt) (Y := v21.toInt) c22 rfl rfl
            refine pv_iconst (M := mX12_comesWithout) (v := 1) dX12_comesWithout_58 59 rfl (by decide) ?_
            refine pv_goto (M := mX12_comesWithout) (tgt := 63) dX12_comesWithout_59 (by decide) ?_
            exact pv_iret (M := mX12_comesWithout) dX12_comesWithout_63 rfl rfl ⟨_, rfl, rfl, by decide, by decide, trivial⟩
        · have c20 := iv_nle (X := v19.toInt) (Y := y1.toInt) c20 rfl rfl
          refine pv_iload_n (M := mX12_comesWithout) 3 dX12_comesWithout_20 21 rfl rfl rfl ?_
          refine pv_iload_n (M := mX12_comesWithout) 1 dX12_comesWithout_21 22 rfl rfl rfl ?_
          refine pv_icmp_eq (M := mX12_comesWithout) (tgt := 44) dX12_comesWithout_22 25 rfl (by decide) (fun c23 => ?_) (fun c23 => ?_)
          · have c23 := iv_eq (X := y2.toInt) (Y := x0.toInt) c23 rfl rfl
            refine iv_inc (M := mX12_comesWithout) (C := 1) dX12_comesWithout_44 47 rfl rfl (by decide) rfl rfl (by decide) (by omega) (by omega) (fun v24 ev24 => ?_)
            show PV _ _ _ _ _ _ _ 47 [.ref 123, .int x0, .int y1, .int v24] [] _
            refine pv_goto (M := mX12_comesWithout) (tgt := 4) dX12_comesWithout_47 (by decide) ?_
            exact ih9 y1 v24 (by first | omega | decide) (by first | omega | decide) (by first | omega | decide) (by first | omega | decide) (by omega)
          · have c23 := iv_ne (X := y2.toInt) (Y := x0.toInt) c23 rfl rfl
            refine pv_aload_n (M := mX12_comesWithout) 0 dX12_comesWithout_25 26 rfl rfl rfl ?_
            refine mv_get (M := mX12_comesWithout) (v := .ref 149) dX12_comesWithout_26 FX12 42 wd1215 (by decide) (tl123 hT) rfl rfl 29 rfl ?_
            refine pv_iload_n (M := mX12_comesWithout) 3 dX12_comesWithout_29 30 rfl rfl rfl ?_
            refine iv_iald (M := mX12_comesWithout) (X := y2.toInt) dX12_comesWithout_30 (tl149 hT) rfl (by omega) (by omega) I (fun _ => rfl) 31 rfl (fun v25 ev25 pv25 qv25 => ?_)
            have pv25 : 0 ≤ v25.toInt := pv25
            have qv25 : v25.toInt ≤ 25 := qv25
            refine pv_aload_n (M := mX12_comesWithout) 0 dX12_comesWithout_31 32 rfl rfl rfl ?_
            refine mv_get (M := mX12_comesWithout) (v := .ref 150) dX12_comesWithout_32 FX12 43 wd1216 (by decide) (tl123 hT) rfl rfl 35 rfl ?_
            refine pv_iload_n (M := mX12_comesWithout) 2 dX12_comesWithout_35 36 rfl rfl rfl ?_
            refine iv_iald (M := mX12_comesWithout) (X := y1.toInt) dX12_comesWithout_36 (tl150 hT) rfl (by omega) (by omega) I (fun _ => rfl) 37 rfl (fun v26 ev26 pv26 qv26 => ?_)
            have pv26 : 0 ≤ v26.toInt := pv26
            have qv26 : v26.toInt ≤ 25 := qv26
            refine pv_icmp_ne (M := mX12_comesWithout) (tgt := 44) dX12_comesWithout_37 40 rfl (by decide) (fun c27 => ?_) (fun c27 => ?_)
            · have c27 := iv_ne (X := v25.toInt) (Y := v26.toInt) c27 rfl rfl
              refine iv_inc (M := mX12_comesWithout) (C := 1) dX12_comesWithout_44 47 rfl rfl (by decide) rfl rfl (by decide) (by omega) (by omega) (fun v28 ev28 => ?_)
              show PV _ _ _ _ _ _ _ 47 [.ref 123, .int x0, .int y1, .int v28] [] _
              refine pv_goto (M := mX12_comesWithout) (tgt := 4) dX12_comesWithout_47 (by decide) ?_
              exact ih9 y1 v28 (by first | omega | decide) (by first | omega | decide) (by first | omega | decide) (by first | omega | decide) (by omega)
            · have c27 := iv_eq (X := v25.toInt) (Y := v26.toInt) c27 rfl rfl
              refine pv_iload_n (M := mX12_comesWithout) 2 dX12_comesWithout_40 41 rfl rfl rfl ?_
              refine pv_iconst (M := mX12_comesWithout) (v := 1) dX12_comesWithout_41 42 rfl (by decide) ?_
              refine iv_iadd (M := mX12_comesWithout) (X := y1.toInt) (Y := 1) dX12_comesWithout_42 43 rfl rfl (by decide) (by omega) (by omega) (fun v29 ev29 => ?_)
              refine pv_istore_n (M := mX12_comesWithout) 2 (lo2 := [.ref 123, .int x0, .int v29, .int y2]) dX12_comesWithout_43 44 rfl rfl (by decide) rfl rfl ?_
              refine iv_inc (M := mX12_comesWithout) (C := 1) dX12_comesWithout_44 47 rfl rfl (by decide) rfl rfl (by decide) (by omega) (by omega) (fun v30 ev30 => ?_)
              show PV _ _ _ _ _ _ _ 47 [.ref 123, .int x0, .int v29, .int v30] [] _
              refine pv_goto (M := mX12_comesWithout) (tgt := 4) dX12_comesWithout_47 (by decide) ?_
              exact ih9 v29 v30 (by first | omega | decide) (by first | omega | decide) (by first | omega | decide) (by first | omega | decide) (by omega)
  have z31 : (0 : Int32).toInt = 0 := by decide
  have z32 : (0 : Int32).toInt = 0 := by decide
  exact lp8 (((40 - 0) : Int).toNat + 1) 0 0 (by first | omega | decide) (by first | omega | decide) (by first | omega | decide) (by first | omega | decide) (by omega)

set_option maxHeartbeats 1000000 in
set_option maxRecDepth 20000 in
theorem s_X12_bits (g : pv_G) {T : List mv_T} {m : Nat → Nat → Int32} {n : Nat → Nat → Int64} {r : Nat → Value} (hT : TX T) (I : IV BB m) (x0 : Int32) : PM g mX12_bits yX12_bits (sqP (mk T m n r) 0 8 (fun v => True)) 1 0 0 [.int x0] (mk T m n r) := by
  have Kp : kp m m := kp.rf
  refine PM.of 2 (lo := [.int x0, pv_U, pv_U]) rfl (by decide) rfl rfl (Nat.le_of_ble_eq_true rfl) ?_
  refine pv_iconst (M := mX12_bits) (v := 0) dX12_bits_0 1 rfl (by decide) ?_
  refine pv_istore_n (M := mX12_bits) 1 (lo2 := [.int x0, .int 0, pv_U]) dX12_bits_1 2 rfl rfl (by decide) rfl rfl ?_
  refine pv_iconst (M := mX12_bits) (v := 0) dX12_bits_2 3 rfl (by decide) ?_
  refine pv_istore_n (M := mX12_bits) 2 (lo2 := [.int x0, .int 0, .int 0]) dX12_bits_3 4 rfl rfl (by decide) rfl rfl ?_
  have lp8 : ∀ (fuel7 : Nat) (y1 : Int32) (y2 : Int32), (0 ≤ y1.toInt) → (y1.toInt ≤ 8) → (0 ≤ y2.toInt) → (y2.toInt ≤ 8) → (y1.toInt ≤ y2.toInt) → ((8 - y2.toInt) : Int).toNat < fuel7 → PV none g mX12_bits (sqP (mk T m n r) 0 8 (fun v => True)) 1 0 0 4 [.int x0, .int y1, .int y2] [] (mk T m n r) := by
    intro fuel7
    induction fuel7 with
    | zero => intro y1 y2 b10 b11 b12 b13 b14 z15; omega
    | succ fuel7 ih9 =>
      intro y1 y2 b10 b11 b12 b13 b14 z15
      refine pv_iload_n (M := mX12_bits) 2 dX12_bits_4 5 rfl rfl rfl ?_
      refine pv_bipush (M := mX12_bits) (v := 8) dX12_bits_5 7 rfl (by decide) ?_
      refine pv_icmp_ge (M := mX12_bits) (tgt := 24) dX12_bits_7 10 rfl (by decide) (fun c16 => ?_) (fun c16 => ?_)
      · have c16 := iv_le (X := 8) (Y := y2.toInt) c16 (by decide) rfl
        refine pv_iload_n (M := mX12_bits) 1 dX12_bits_24 25 rfl rfl rfl ?_
        exact pv_iret (M := mX12_bits) dX12_bits_25 rfl rfl ⟨_, rfl, rfl, by omega, by omega, trivial⟩
      · have c16 := iv_nle (X := 8) (Y := y2.toInt) c16 (by decide) rfl
        refine pv_iload_n (M := mX12_bits) 1 dX12_bits_10 11 rfl rfl rfl ?_
        refine pv_iload_n (M := mX12_bits) 0 dX12_bits_11 12 rfl rfl rfl ?_
        refine pv_iload_n (M := mX12_bits) 2 dX12_bits_12 13 rfl rfl rfl ?_
        refine pv_ishr (M := mX12_bits) (v := (x0 >>> (y2 &&& 31) : Int32)) dX12_bits_13 14 rfl rfl ?_
        obtain ⟨v17, ev17⟩ : ∃ z : Int32, z = x0 >>> (y2 &&& 31) := ⟨_, rfl⟩
        rw [← ev17]
        refine pv_iconst (M := mX12_bits) (v := 1) dX12_bits_14 15 rfl (by decide) ?_
        refine iv_iandm (M := mX12_bits) dX12_bits_15 16 rfl 1 (by decide) (by decide) (fun v18 ev18 pv18 qv18 => ?_)
        have qv18 : v18.toInt < 2 := qv18
        refine iv_iadd (M := mX12_bits) (X := y1.toInt) (Y := v18.toInt) dX12_bits_16 17 rfl rfl rfl (by omega) (by omega) (fun v19 ev19 => ?_)
        refine pv_istore_n (M := mX12_bits) 1 (lo2 := [.int x0, .int v19, .int y2]) dX12_bits_17 18 rfl rfl (by decide) rfl rfl ?_
        refine iv_inc (M := mX12_bits) (C := 1) dX12_bits_18 21 rfl rfl (by decide) rfl rfl (by decide) (by omega) (by omega) (fun v20 ev20 => ?_)
        show PV _ _ _ _ _ _ _ 21 [.int x0, .int v19, .int v20] [] _
        refine pv_goto (M := mX12_bits) (tgt := 4) dX12_bits_21 (by decide) ?_
        exact ih9 v19 v20 (by first | omega | decide) (by first | omega | decide) (by first | omega | decide) (by first | omega | decide) (by first | omega | decide) (by omega)
  have z21 : (0 : Int32).toInt = 0 := by decide
  have z22 : (0 : Int32).toInt = 0 := by decide
  exact lp8 (((8 - 0) : Int).toNat + 1) 0 0 (by first | omega | decide) (by first | omega | decide) (by first | omega | decide) (by first | omega | decide) (by first | omega | decide) (by omega)

set_option maxHeartbeats 1000000 in
set_option maxRecDepth 20000 in
theorem s_X12_laysBlank (g : pv_G) {T : List mv_T} {m : Nat → Nat → Int32} {n : Nat → Nat → Int64} {r : Nat → Value} (hT : TX T) (I : IV BB m) (x0 : Int32) (hl0 : 0 ≤ x0.toInt) (hh0 : x0.toInt ≤ 7) (x1 : Int32) (hl1 : 0 ≤ x1.toInt) (hh1 : x1.toInt ≤ 1) : PM g mX12_laysBlank yX12_laysBlank (sqV T BB r m) 1 0 0 [.ref 123, .int x0, .int x1] (mk T m n r) := by
  have Kp : kp m m := kp.rf
  refine PM.of 1 (lo := [.ref 123, .int x0, .int x1, pv_U]) rfl (by decide) rfl rfl (Nat.le_of_ble_eq_true rfl) ?_
  refine pv_aload_n (M := mX12_laysBlank) 0 dX12_laysBlank_0 1 rfl rfl rfl ?_
  refine pv_iconst (M := mX12_laysBlank) (v := 0) dX12_laysBlank_1 2 rfl (by decide) ?_
  refine iv_put (M := mX12_laysBlank) dX12_laysBlank_2 FX12 40 wd1213 (by decide) rfl (tl123 hT) rfl rfl rfl I rfl (by decide) (by decide) 5 rfl (fun m1 e4 I2 => ?_)
  have K3 := Kp.set e4 rfl
  have w5 : (m1 123 40).toInt = 0 := by rw [e4, up2_eq] <;> rfl
  refine pv_iconst (M := mX12_laysBlank) (v := 0) dX12_laysBlank_5 6 rfl (by decide) ?_
  refine pv_istore_n (M := mX12_laysBlank) 3 (lo2 := [.ref 123, .int x0, .int x1, .int 0]) dX12_laysBlank_6 7 rfl rfl (by decide) rfl rfl ?_
  have lp12 : ∀ (fuel11 : Nat) (y6 : Int32) (m7 : Nat → Nat → Int32) (n8 : Nat → Nat → Int64), (0 ≤ y6.toInt) → (y6.toInt ≤ 40) → ((m7 123 40).toInt ≤ y6.toInt) → IV BB m7 → kp m m7 → ((40 - y6.toInt) : Int).toNat < fuel11 → PV none g mX12_laysBlank (sqV T BB r m) 1 0 0 7 [.ref 123, .int x0, .int x1, .int y6] [] (mk T m7 n8 r) := by
    intro fuel11
    induction fuel11 with
    | zero => intro y6 m7 n8 b14 b15 b16 I9 K10 z17; omega
    | succ fuel11 ih13 =>
      intro y6 m7 n8 b14 b15 b16 I9 K10 z17
      refine pv_iload_n (M := mX12_laysBlank) 3 dX12_laysBlank_7 8 rfl rfl rfl ?_
      refine pv_aload_n (M := mX12_laysBlank) 0 dX12_laysBlank_8 9 rfl rfl rfl ?_
      refine mv_get (M := mX12_laysBlank) (v := .ref 124) dX12_laysBlank_9 FX12 5 wd1178 (by decide) (tl123 hT) rfl rfl 12 rfl ?_
      refine pv_iload_n (M := mX12_laysBlank) 1 dX12_laysBlank_12 13 rfl rfl rfl ?_
      refine iv_iald (M := mX12_laysBlank) (X := x0.toInt) dX12_laysBlank_13 (tl124 hT) rfl (by omega) (by omega) I9 (fun _ => rfl) 14 rfl (fun v18 ev18 pv18 qv18 => ?_)
      have pv18 : 0 ≤ v18.toInt := pv18
      have qv18 : v18.toInt ≤ 40 := qv18
      refine pv_icmp_ge (M := mX12_laysBlank) (tgt := 74) dX12_laysBlank_14 17 rfl (by decide) (fun c19 => ?_) (fun c19 => ?_)
      · have c19 := iv_le (X := v18.toInt) (Y := y6.toInt) c19 rfl rfl
        exact pv_vret (M := mX12_laysBlank) dX12_laysBlank_74 rfl ⟨_, _, rfl, rfl, I9, K10⟩
      · have c19 := iv_nle (X := v18.toInt) (Y := y6.toInt) c19 rfl rfl
        refine pv_iload_n (M := mX12_laysBlank) 2 dX12_laysBlank_17 18 rfl rfl rfl ?_
        refine pv_if_ne (M := mX12_laysBlank) (tgt := 38) dX12_laysBlank_18 21 rfl (by decide) (fun c20 => ?_) (fun c20 => ?_)
        · have c20 := iv_ne (X := x1.toInt) (Y := 0) c20 rfl (by decide)
          refine pv_aload_n (M := mX12_laysBlank) 0 dX12_laysBlank_38 39 rfl rfl rfl ?_
          refine mv_get (M := mX12_laysBlank) (v := .ref 149) dX12_laysBlank_39 FX12 42 wd1215 (by decide) (tl123 hT) rfl rfl 42 rfl ?_
          refine pv_aload_n (M := mX12_laysBlank) 0 dX12_laysBlank_42 43 rfl rfl rfl ?_
          refine iv_get (M := mX12_laysBlank) dX12_laysBlank_43 FX12 40 wd1213 (by decide) (tl123 hT) rfl I9 rfl 46 rfl (fun v21 ev21 pv21 qv21 => ?_)
          have pv21 : 0 ≤ v21.toInt := pv21
          have qv21 : v21.toInt ≤ 40 := qv21
          have wv21 : v21.toInt = (m7 123 40).toInt := congrArg Int32.toInt ev21
          refine pv_aload_n (M := mX12_laysBlank) 0 dX12_laysBlank_46 47 rfl rfl rfl ?_
          refine mv_get (M := mX12_laysBlank) (v := .ref 125) dX12_laysBlank_47 FX12 6 wd1179 (by decide) (tl123 hT) rfl rfl 50 rfl ?_
          refine pv_bipush (M := mX12_laysBlank) (v := 40) dX12_laysBlank_50 52 rfl (by decide) ?_
          refine pv_iload_n (M := mX12_laysBlank) 1 dX12_laysBlank_52 53 rfl rfl rfl ?_
          refine iv_imul (M := mX12_laysBlank) (X := 40) (Y := x0.toInt) dX12_laysBlank_53 54 rfl (by decide) rfl (by omega) (by omega) (fun v22 ev22 => ?_)
          refine pv_iload_n (M := mX12_laysBlank) 3 dX12_laysBlank_54 55 rfl rfl rfl ?_
          refine iv_iadd (M := mX12_laysBlank) (X := v22.toInt) (Y := y6.toInt) dX12_laysBlank_55 56 rfl rfl rfl (by omega) (by omega) (fun v23 ev23 => ?_)
          refine iv_iald (M := mX12_laysBlank) (X := v23.toInt) dX12_laysBlank_56 (tl125 hT) rfl (by omega) (by omega) I9 (fun _ => rfl) 57 rfl (fun v24 ev24 pv24 qv24 => ?_)
          have pv24 : 0 ≤ v24.toInt := pv24
          have qv24 : v24.toInt ≤ 25 := qv24
          refine iv_iast (M := mX12_laysBlank) (X := v21.toInt) dX12_laysBlank_57 (tl149 hT) rfl (by omega) (by omega) I9 (fun _ => rfl) (show (0 : Int) ≤ v24.toInt by omega) (show v24.toInt ≤ (25 : Int) by omega) 58 rfl (fun m25 e28 I26 => ?_)
          have K27 := K10.set e28 rfl
          have w29 : (m25 123 40).toInt = (m7 123 40).toInt := by rw [e28, up2_ne (by omega)]
          refine pv_aload_n (M := mX12_laysBlank) 0 dX12_laysBlank_58 59 rfl rfl rfl ?_
          refine pv_aload_n (M := mX12_laysBlank) 0 dX12_laysBlank_59 60 rfl rfl rfl ?_
          refine iv_get (M := mX12_laysBlank) dX12_laysBlank_60 FX12 40 wd1213 (by decide) (tl123 hT) rfl I26 rfl 63 rfl (fun v30 ev30 pv30 qv30 => ?_)
          have pv30 : 0 ≤ v30.toInt := pv30
          have qv30 : v30.toInt ≤ 40 := qv30
          have wv30 : v30.toInt = (m25 123 40).toInt := congrArg Int32.toInt ev30
          refine pv_iconst (M := mX12_laysBlank) (v := 1) dX12_laysBlank_63 64 rfl (by decide) ?_
          refine iv_iadd (M := mX12_laysBlank) (X := v30.toInt) (Y := 1) dX12_laysBlank_64 65 rfl rfl (by decide) (by omega) (by omega) (fun v31 ev31 => ?_)
          refine iv_put (M := mX12_laysBlank) dX12_laysBlank_65 FX12 40 wd1213 (by decide) rfl (tl123 hT) rfl rfl rfl I26 rfl (show (0 : Int) ≤ v31.toInt by omega) (show v31.toInt ≤ (40 : Int) by omega) 68 rfl (fun m32 e35 I33 => ?_)
          have K34 := K27.set e35 rfl
          have w36 : (m32 123 40).toInt = v31.toInt := by rw [e35, up2_eq]
          refine iv_inc (M := mX12_laysBlank) (C := 1) dX12_laysBlank_68 71 rfl rfl (by decide) rfl rfl (by decide) (by omega) (by omega) (fun v37 ev37 => ?_)
          show PV _ _ _ _ _ _ _ 71 [.ref 123, .int x0, .int x1, .int v37] [] _
          refine pv_goto (M := mX12_laysBlank) (tgt := 7) dX12_laysBlank_71 (by decide) ?_
          exact ih13 v37 m32 n8 (by first | omega | decide) (by first | omega | decide) (by first | omega | decide) I33 K34 (by omega)
        · have c20 := iv_eq (X := x1.toInt) (Y := 0) c20 rfl (by decide)
          refine pv_aload_n (M := mX12_laysBlank) 0 dX12_laysBlank_21 22 rfl rfl rfl ?_
          refine mv_get (M := mX12_laysBlank) (v := .ref 128) dX12_laysBlank_22 FX12 9 wd1182 (by decide) (tl123 hT) rfl rfl 25 rfl ?_
          refine pv_bipush (M := mX12_laysBlank) (v := 40) dX12_laysBlank_25 27 rfl (by decide) ?_
          refine pv_iload_n (M := mX12_laysBlank) 1 dX12_laysBlank_27 28 rfl rfl rfl ?_
          refine iv_imul (M := mX12_laysBlank) (X := 40) (Y := x0.toInt) dX12_laysBlank_28 29 rfl (by decide) rfl (by omega) (by omega) (fun v38 ev38 => ?_)
          refine pv_iload_n (M := mX12_laysBlank) 3 dX12_laysBlank_29 30 rfl rfl rfl ?_
          refine iv_iadd (M := mX12_laysBlank) (X := v38.toInt) (Y := y6.toInt) dX12_laysBlank_30 31 rfl rfl rfl (by omega) (by omega) (fun v39 ev39 => ?_)
          refine iv_zald (M := mX12_laysBlank) (X := v39.toInt) dX12_laysBlank_31 (tl128 hT) rfl (by omega) (by omega) I9 (fun _ => rfl) 32 rfl (fun v40 ev40 pv40 qv40 => ?_)
          have pv40 : 0 ≤ v40.toInt := pv40
          have qv40 : v40.toInt ≤ 1 := qv40
          refine pv_if_eq (M := mX12_laysBlank) (tgt := 38) dX12_laysBlank_32 35 rfl (by decide) (fun c41 => ?_) (fun c41 => ?_)
          · have c41 := iv_eq (X := v40.toInt) (Y := 0) c41 rfl (by decide)
            refine pv_aload_n (M := mX12_laysBlank) 0 dX12_laysBlank_38 39 rfl rfl rfl ?_
            refine mv_get (M := mX12_laysBlank) (v := .ref 149) dX12_laysBlank_39 FX12 42 wd1215 (by decide) (tl123 hT) rfl rfl 42 rfl ?_
            refine pv_aload_n (M := mX12_laysBlank) 0 dX12_laysBlank_42 43 rfl rfl rfl ?_
            refine iv_get (M := mX12_laysBlank) dX12_laysBlank_43 FX12 40 wd1213 (by decide) (tl123 hT) rfl I9 rfl 46 rfl (fun v42 ev42 pv42 qv42 => ?_)
            have pv42 : 0 ≤ v42.toInt := pv42
            have qv42 : v42.toInt ≤ 40 := qv42
            have wv42 : v42.toInt = (m7 123 40).toInt := congrArg Int32.toInt ev42
            refine pv_aload_n (M := mX12_laysBlank) 0 dX12_laysBlank_46 47 rfl rfl rfl ?_
            refine mv_get (M := mX12_laysBlank) (v := .ref 125) dX12_laysBlank_47 FX12 6 wd1179 (by decide) (tl123 hT) rfl rfl 50 rfl ?_
            refine pv_bipush (M := mX12_laysBlank) (v := 40) dX12_laysBlank_50 52 rfl (by decide) ?_
            refine pv_iload_n (M := mX12_laysBlank) 1 dX12_laysBlank_52 53 rfl rfl rfl ?_
            refine iv_imul (M := mX12_laysBlank) (X := 40) (Y := x0.toInt) dX12_laysBlank_53 54 rfl (by decide) rfl (by omega) (by omega) (fun v43 ev43 => ?_)
            refine pv_iload_n (M := mX12_laysBlank) 3 dX12_laysBlank_54 55 rfl rfl rfl ?_
            refine iv_iadd (M := mX12_laysBlank) (X := v43.toInt) (Y := y6.toInt) dX12_laysBlank_55 56 rfl rfl rfl (by omega) (by omega) (fun v44 ev44 => ?_)
            refine iv_iald (M := mX12_laysBlank) (X := v44.toInt) dX12_laysBlank_56 (tl125 hT) rfl (by omega) (by omega) I9 (fun _ => rfl) 57 rfl (fun v45 ev45 pv45 qv45 => ?_)
            have pv45 : 0 ≤ v45.toInt := pv45
            have qv45 : v45.toInt ≤ 25 := qv45
            refine iv_iast (M := mX12_laysBlank) (X := v42.toInt) dX12_laysBlank_57 (tl149 hT) rfl (by omega) (by omega) I9 (fun _ => rfl) (show (0 : Int) ≤ v45.toInt by omega) (show v45.toInt ≤ (25 : Int) by omega) 58 rfl (fun m46 e49 I47 => ?_)
            have K48 := K10.set e49 rfl
            have w50 : (m46 123 40).toInt = (m7 123 40).toInt := by rw [e49, up2_ne (by omega)]
            refine pv_aload_n (M := mX12_laysBlank) 0 dX12_laysBlank_58 59 rfl rfl rfl ?_
            refine pv_aload_n (M := mX12_laysBlank) 0 dX12_laysBlank_59 60 rfl rfl rfl ?_
            refine iv_get (M := mX12_laysBlank) dX12_laysBlank_60 FX12 40 wd1213 (by decide) (tl123 hT) rfl I47 rfl 63 rfl (fun v51 ev51 pv51 qv51 => ?_)
            have pv51 : 0 ≤ v51.toInt := pv51
            have qv51 : v51.toInt ≤ 40 := qv51
            have wv51 : v51.toInt = (m46 123 40).toInt := congrArg Int32.toInt ev51
            refine pv_iconst (M := mX12_laysBlank) (v := 1) dX12_laysBlank_63 64 rfl (by decide) ?_
            refine iv_iadd (M := mX12_laysBlank) (X := v51.toInt) (Y := 1) dX12_laysBlank_64 65 rfl rfl (by decide) (by omega) (by omega) (fun v52 ev52 => ?_)
            refine iv_put (M := mX12_laysBlank) dX12_laysBlank_65 FX12 40 wd1213 (by decide) rfl (tl123 hT) rfl rfl rfl I47 rfl (show (0 : Int) ≤ v52.toInt by omega) (show v52.toInt ≤ (40 : Int) by omega) 68 rfl (fun m53 e56 I54 => ?_)
            have K55 := K48.set e56 rfl
            have w57 : (m53 123 40).toInt = v52.toInt := by rw [e56, up2_eq]
            refine iv_inc (M := mX12_laysBlank) (C := 1) dX12_laysBlank_68 71 rfl rfl (by decide) rfl rfl (by decide) (by omega) (by omega) (fun v58 ev58 => ?_)
            show PV _ _ _ _ _ _ _ 71 [.ref 123, .int x0, .int x1, .int v58] [] _
            refine pv_goto (M := mX12_laysBlank) (tgt := 7) dX12_laysBlank_71 (by decide) ?_
            exact ih13 v58 m53 n8 (by first | omega | decide) (by first | omega | decide) (by first | omega | decide) I54 K55 (by omega)
          · have c41 := iv_ne (X := v40.toInt) (Y := 0) c41 rfl (by decide)
            refine pv_goto (M := mX12_laysBlank) (tgt := 68) dX12_laysBlank_35 (by decide) ?_
            refine iv_inc (M := mX12_laysBlank) (C := 1) dX12_laysBlank_68 71 rfl rfl (by decide) rfl rfl (by decide) (by omega) (by omega) (fun v59 ev59 => ?_)
            show PV _ _ _ _ _ _ _ 71 [.ref 123, .int x0, .int x1, .int v59] [] _
            refine pv_goto (M := mX12_laysBlank) (tgt := 7) dX12_laysBlank_71 (by decide) ?_
            exact ih13 v59 m7 n8 (by first | omega | decide) (by first | omega | decide) (by first | omega | decide) I9 K10 (by omega)
  have z60 : (0 : Int32).toInt = 0 := by decide
  exact lp12 (((40 - 0) : Int).toNat + 1) 0 m1 n (by first | omega | decide) (by first | omega | decide) (by first | omega | decide) I2 K3 (by omega)

set_option maxHeartbeats 1000000 in
set_option maxRecDepth 20000 in
theorem s_X12_writes (g : pv_G) {T : List mv_T} {m : Nat → Nat → Int32} {n : Nat → Nat → Int64} {r : Nat → Value} (hT : TX T) (I : IV BB m) (x0 : Int32) (hl0 : 0 ≤ x0.toInt) (hh0 : x0.toInt ≤ 7) (x1 : Int32) (hl1 : 0 ≤ x1.toInt) (hh1 : x1.toInt ≤ 7) (x2 : Int32) (x3 : Int32) (hl3 : 0 ≤ x3.toInt) (hh3 : x3.toInt ≤ 9) (hp0 : (m 123 3).toInt ≤ 59) : PM g mX12_writes yX12_writes (sqV T BB r m) 1 0 0 [.ref 123, .int x0, .int x1, .int x2, .int x3] (mk T m n r) := by
  have Kp : kp m m := kp.rf
  refine PM.of 0 (lo := [.ref 123, .int x0, .int x1, .int x2, .int x3]) rfl (by decide) rfl rfl (Nat.le_of_ble_eq_true rfl) ?_
  refine pv_aload_n (M := mX12_writes) 0 dX12_writes_0 1 rfl rfl rfl ?_
  refine mv_get (M := mX12_writes) (v := .ref 143) dX12_writes_1 FX12 34 wd1207 (by decide) (tl123 hT) rfl rfl 4 rfl ?_
  refine pv_aload_n (M := mX12_writes) 0 dX12_writes_4 5 rfl rfl rfl ?_
  refine iv_get (M := mX12_writes) dX12_writes_5 FX12 3 wd1176 (by decide) (tl123 hT) rfl I rfl 8 rfl (fun v1 ev1 pv1 qv1 => ?_)
  have pv1 : 0 ≤ v1.toInt := pv1
  have qv1 : v1.toInt ≤ 60 := qv1
  have wv1 : v1.toInt = (m 123 3).toInt := congrArg Int32.toInt ev1
  refine pv_iload_n (M := mX12_writes) 1 dX12_writes_8 9 rfl rfl rfl ?_
  refine iv_iast (M := mX12_writes) (X := v1.toInt) dX12_writes_9 (tl143 hT) rfl (by omega) (by omega) I (fun _ => rfl) (show (0 : Int) ≤ x0.toInt by omega) (show x0.toInt ≤ (7 : Int) by omega) 10 rfl (fun m2 e5 I3 => ?_)
  have K4 := Kp.set e5 rfl
  have w6 : (m2 123 3).toInt = (m 123 3).toInt := by rw [e5, up2_ne (by omega)]
  refine pv_aload_n (M := mX12_writes) 0 dX12_writes_10 11 rfl rfl rfl ?_
  refine mv_get (M := mX12_writes) (v := .ref 144) dX12_writes_11 FX12 35 wd1208 (by decide) (tl123 hT) rfl rfl 14 rfl ?_
  refine pv_aload_n (M := mX12_writes) 0 dX12_writes_14 15 rfl rfl rfl ?_
  refine iv_get (M := mX12_writes) dX12_writes_15 FX12 3 wd1176 (by decide) (tl123 hT) rfl I3 rfl 18 rfl (fun v7 ev7 pv7 qv7 => ?_)
  have pv7 : 0 ≤ v7.toInt := pv7
  have qv7 : v7.toInt ≤ 60 := qv7
  have wv7 : v7.toInt = (m2 123 3).toInt := congrArg Int32.toInt ev7
  refine pv_iload_n (M := mX12_writes) 2 dX12_writes_18 19 rfl rfl rfl ?_
  refine iv_iast (M := mX12_writes) (X := v7.toInt) dX12_writes_19 (tl144 hT) rfl (by omega) (by omega) I3 (fun _ => rfl) (iv_rng x1).1 (iv_rng x1).2 20 rfl (fun m8 e11 I9 => ?_)
  have K10 := K4.set e11 rfl
  have w12 : (m8 123 3).toInt = (m2 123 3).toInt := by rw [e11, up2_ne (by omega)]
  refine pv_aload_n (M := mX12_writes) 0 dX12_writes_20 21 rfl rfl rfl ?_
  refine mv_get (M := mX12_writes) (v := .ref 145) dX12_writes_21 FX12 36 wd1209 (by decide) (tl123 hT) rfl rfl 24 rfl ?_
  refine pv_aload_n (M := mX12_writes) 0 dX12_writes_24 25 rfl rfl rfl ?_
  refine iv_get (M := mX12_writes) dX12_writes_25 FX12 3 wd1176 (by decide) (tl123 hT) rfl I9 rfl 28 rfl (fun v13 ev13 pv13 qv13 => ?_)
  have pv13 : 0 ≤ v13.toInt := pv13
  have qv13 : v13.toInt ≤ 60 := qv13
  have wv13 : v13.toInt = (m8 123 3).toInt := congrArg Int32.toInt ev13
  refine pv_aload_n (M := mX12_writes) 0 dX12_writes_28 29 rfl rfl rfl ?_
  refine iv_get (M := mX12_writes) dX12_writes_29 FX12 1 wd1174 (by decide) (tl123 hT) rfl I9 rfl 32 rfl (fun v14 ev14 pv14 qv14 => ?_)
  have pv14 : 0 ≤ v14.toInt := pv14
  have qv14 : v14.toInt ≤ 999 := qv14
  refine iv_iast (M := mX12_writes) (X := v13.toInt) dX12_writes_32 (tl145 hT) rfl (by omega) (by omega) I9 (fun _ => rfl) (iv_rng v14).1 (iv_rng v14).2 33 rfl (fun m15 e18 I16 => ?_)
  have K17 := K10.set e18 rfl
  have w19 : (m15 123 3).toInt = (m8 123 3).toInt := by rw [e18, up2_ne (by omega)]
  refine pv_aload_n (M := mX12_writes) 0 dX12_writes_33 34 rfl rfl rfl ?_
  refine mv_get (M := mX12_writes) (v := .ref 146) dX12_writes_34 FX12 37 wd1210 (by decide) (tl123 hT) rfl rfl 37 rfl ?_
  refine pv_aload_n (M := mX12_writes) 0 dX12_writes_37 38 rfl rfl rfl ?_
  refine iv_get (M := mX12_writes) dX12_writes_38 FX12 3 wd1176 (by decide) (tl123 hT) rfl I16 rfl 41 rfl (fun v20 ev20 pv20 qv20 => ?_)
  have pv20 : 0 ≤ v20.toInt := pv20
  have qv20 : v20.toInt ≤ 60 := qv20
  have wv20 : v20.toInt = (m15 123 3).toInt := congrArg Int32.toInt ev20
  refine pv_iload_n (M := mX12_writes) 3 dX12_writes_41 42 rfl rfl rfl ?_
  refine iv_iast (M := mX12_writes) (X := v20.toInt) dX12_writes_42 (tl146 hT) rfl (by omega) (by omega) I16 (fun _ => rfl) (iv_rng x2).1 (iv_rng x2).2 43 rfl (fun m21 e24 I22 => ?_)
  have K23 := K17.set e24 rfl
  have w25 : (m21 123 3).toInt = (m15 123 3).toInt := by rw [e24, up2_ne (by omega)]
  refine pv_aload_n (M := mX12_writes) 0 dX12_writes_43 44 rfl rfl rfl ?_
  refine mv_get (M := mX12_writes) (v := .ref 147) dX12_writes_44 FX12 38 wd1211 (by decide) (tl123 hT) rfl rfl 47 rfl ?_
  refine pv_aload_n (M := mX12_writes) 0 dX12_writes_47 48 rfl rfl rfl ?_
  refine iv_get (M := mX12_writes) dX12_writes_48 FX12 3 wd1176 (by decide) (tl123 hT) rfl I22 rfl 51 rfl (fun v26 ev26 pv26 qv26 => ?_)
  have pv26 : 0 ≤ v26.toInt := pv26
  have qv26 : v26.toInt ≤ 60 := qv26
  have wv26 : v26.toInt = (m21 123 3).toInt := congrArg Int32.toInt ev26
  refine pv_iload (M := mX12_writes) dX12_writes_51 53 rfl rfl ?_
  refine iv_iast (M := mX12_writes) (X := v26.toInt) dX12_writes_53 (tl147 hT) rfl (by omega) (by omega) I22 (fun _ => rfl) (show (0 : Int) ≤ x3.toInt by omega) (show x3.toInt ≤ (9 : Int) by omega) 54 rfl (fun m27 e30 I28 => ?_)
  have K29 := K23.set e30 rfl
  have w31 : (m27 123 3).toInt = (m21 123 3).toInt := by rw [e30, up2_ne (by omega)]
  refine pv_aload_n (M := mX12_writes) 0 dX12_writes_54 55 rfl rfl rfl ?_
  refine pv_aload_n (M := mX12_writes) 0 dX12_writes_55 56 rfl rfl rfl ?_
  refine iv_get (M := mX12_writes) dX12_writes_56 FX12 3 wd1176 (by decide) (tl123 hT) rfl I28 rfl 59 rfl (fun v32 ev32 pv32 qv32 => ?_)
  have pv32 : 0 ≤ v32.toInt := pv32
  have qv32 : v32.toInt ≤ 60 := qv32
  have wv32 : v32.toInt = (m27 123 3).toInt := congrArg Int32.toInt ev32
  refine pv_iconst (M := mX12_writes) (v := 1) dX12_writes_59 60 rfl (by decide) ?_
  refine iv_iadd (M := mX12_writes) (X := v32.toInt) (Y := 1) dX12_writes_60 61 rfl rfl (by decide) (by omega) (by omega) (fun v33 ev33 => ?_)
  refine iv_put (M := mX12_writes) dX12_writes_61 FX12 3 wd1176 (by decide) rfl (tl123 hT) rfl rfl rfl I28 rfl (show (0 : Int) ≤ v33.toInt by omega) (show v33.toInt ≤ (60 : Int) by omega) 64 rfl (fun m34 e37 I35 => ?_)
  have K36 := K29.set e37 rfl
  have w38 : (m34 123 3).toInt = v33.toInt := by rw [e37, up2_eq]
  exact pv_vret (M := mX12_writes) dX12_writes_64 rfl ⟨_, _, rfl, rfl, I35, K36⟩

set_option maxHeartbeats 1000000 in
set_option maxRecDepth 20000 in
theorem s_X12_sum (g : pv_G) {T : List mv_T} {m : Nat → Nat → Int32} {n : Nat → Nat → Int64} {r : Nat → Value} (hT : TX T) (I : IV BB m) (x0 : Int32) (hl0 : 0 ≤ x0.toInt) (hh0 : x0.toInt ≤ 1999999998) (x1 : Int32) (hl1 : 0 ≤ x1.toInt) (hh1 : x1.toInt ≤ 1999999998) : PM g mX12_sum yX12_sum (sqP (mk T m n r) 0 1999999998 (fun v => True)) 1 0 0 [.int x0, .int x1] (mk T m n r) := by
  have Kp : kp m m := kp.rf
  refine PM.of 0 (lo := [.int x0, .int x1]) rfl (by decide) rfl rfl (Nat.le_of_ble_eq_true rfl) ?_
  refine pv_iload_n (M := mX12_sum) 0 dX12_sum_0 1 rfl rfl rfl ?_
  refine pv_ldcw (M := mX12_sum) (v := 1000000000) dX12_sum_1 4 rfl wd1583 ?_
  refine pv_icmp_ge (M := mX12_sum) (tgt := 14) dX12_sum_4 7 rfl (by decide) (fun c1 => ?_) (fun c1 => ?_)
  · have c1 := iv_le (X := 1000000000) (Y := x0.toInt) c1 (by decide) rfl
    refine pv_ldcw (M := mX12_sum) (v := 1000000000) dX12_sum_14 17 rfl wd1583 ?_
    refine pv_goto (M := mX12_sum) (tgt := 23) dX12_sum_17 (by decide) ?_
    exact pv_iret (M := mX12_sum) dX12_sum_23 rfl rfl ⟨_, rfl, rfl, by decide, by decide, trivial⟩
  · have c1 := iv_nle (X := 1000000000) (Y := x0.toInt) c1 (by decide) rfl
    refine pv_iload_n (M := mX12_sum) 1 dX12_sum_7 8 rfl rfl rfl ?_
    refine pv_ldcw (M := mX12_sum) (v := 1000000000) dX12_sum_8 11 rfl wd1583 ?_
    refine pv_icmp_lt (M := mX12_sum) (tgt := 20) dX12_sum_11 14 rfl (by decide) (fun c2 => ?_) (fun c2 => ?_)
    · have c2 := iv_lt (X := x1.toInt) (Y := 1000000000) c2 rfl (by decide)
      refine pv_iload_n (M := mX12_sum) 0 dX12_sum_20 21 rfl rfl rfl ?_
      refine pv_iload_n (M := mX12_sum) 1 dX12_sum_21 22 rfl rfl rfl ?_
      refine iv_iadd (M := mX12_sum) (X := x0.toInt) (Y := x1.toInt) dX12_sum_22 23 rfl rfl rfl (by omega) (by omega) (fun v3 ev3 => ?_)
      exact pv_iret (M := mX12_sum) dX12_sum_23 rfl rfl ⟨_, rfl, rfl, by omega, by omega, trivial⟩
    · have c2 := iv_nlt (X := x1.toInt) (Y := 1000000000) c2 rfl (by decide)
      refine pv_ldcw (M := mX12_sum) (v := 1000000000) dX12_sum_14 17 rfl wd1583 ?_
      refine pv_goto (M := mX12_sum) (tgt := 23) dX12_sum_17 (by decide) ?_
      exact pv_iret (M := mX12_sum) dX12_sum_23 rfl rfl ⟨_, rfl, rfl, by decide, by decide, trivial⟩

set_option maxHeartbeats 1000000 in
set_option maxRecDepth 20000 in
theorem s_X12_least (g : pv_G) {T : List mv_T} {m : Nat → Nat → Int32} {n : Nat → Nat → Int64} {r : Nat → Value} (hT : TX T) (I : IV BB m) (x0 : Int32) (hl0 : 0 ≤ x0.toInt) (hh0 : x0.toInt ≤ 1999999998) (x1 : Int32) (hl1 : 0 ≤ x1.toInt) (hh1 : x1.toInt ≤ 1999999998) : PM g mX12_least yX12_least (sqP (mk T m n r) 0 1999999998 (fun v => True)) 1 0 0 [.int x0, .int x1] (mk T m n r) := by
  have Kp : kp m m := kp.rf
  refine PM.of 0 (lo := [.int x0, .int x1]) rfl (by decide) rfl rfl (Nat.le_of_ble_eq_true rfl) ?_
  refine pv_iload_n (M := mX12_least) 0 dX12_least_0 1 rfl rfl rfl ?_
  refine pv_iload_n (M := mX12_least) 1 dX12_least_1 2 rfl rfl rfl ?_
  refine pv_icmp_ge (M := mX12_least) (tgt := 9) dX12_least_2 5 rfl (by decide) (fun c1 => ?_) (fun c1 => ?_)
  · have c1 := iv_le (X := x1.toInt) (Y := x0.toInt) c1 rfl rfl
    refine pv_iload_n (M := mX12_least) 1 dX12_least_9 10 rfl rfl rfl ?_
    exact pv_iret (M := mX12_least) dX12_least_10 rfl rfl ⟨_, rfl, rfl, by omega, by omega, trivial⟩
  · have c1 := iv_nle (X := x1.toInt) (Y := x0.toInt) c1 rfl rfl
    refine pv_iload_n (M := mX12_least) 0 dX12_least_5 6 rfl rfl rfl ?_
    refine pv_goto (M := mX12_least) (tgt := 10) dX12_least_6 (by decide) ?_
    exact pv_iret (M := mX12_least) dX12_least_10 rfl rfl ⟨_, rfl, rfl, by omega, by omega, trivial⟩

set_option maxHeartbeats 1000000 in
set_option maxRecDepth 20000 in
theorem s_X12_laysCheap (g : pv_G) {T : List mv_T} {m : Nat → Nat → Int32} {n : Nat → Nat → Int64} {r : Nat → Value} (hT : TX T) (I : IV BB m) : PM g mX12_laysCheap yX12_laysCheap (sqV T BB r m) 2 0 0 [.ref 123] (mk T m n r) := by
  have Kp : kp m m := kp.rf
  refine PM.of 3 (lo := [.ref 123, pv_U, pv_U, pv_U]) rfl (by decide) rfl rfl (Nat.le_of_ble_eq_true rfl) ?_
  refine pv_aload_n (M := mX12_laysCheap) 0 dX12_laysCheap_0 1 rfl rfl rfl ?_
  refine iv_get (M := mX12_laysCheap) dX12_laysCheap_1 FX12 40 wd1213 (by decide) (tl123 hT) rfl I rfl 4 rfl (fun v1 ev1 pv1 qv1 => ?_)
  have pv1 : 0 ≤ v1.toInt := pv1
  have qv1 : v1.toInt ≤ 40 := qv1
  have wv1 : v1.toInt = (m 123 40).toInt := congrArg Int32.toInt ev1
  refine pv_istore_n (M := mX12_laysCheap) 1 (lo2 := [.ref 123, .int v1, pv_U, pv_U]) dX12_laysCheap_4 5 rfl rfl (by decide) rfl rfl ?_
  have lp8 : ∀ (fuel7 : Nat) (y2 : Int32) (m3 : Nat → Nat → Int32) (n4 : Nat → Nat → Int64), (-1 ≤ y2.toInt) → (y2.toInt ≤ 40) → (y2.toInt ≤ (m3 123 40).toInt) → IV BB m3 → kp m m3 → ((y2.toInt - (-1)) : Int).toNat < fuel7 → PV none g mX12_laysCheap (sqV T BB r m) 2 0 0 5 [.ref 123, .int y2, pv_U, pv_U] [] (mk T m3 n4 r) := by
    intro fuel7
    induction fuel7 with
    | zero => intro y2 m3 n4 b10 b11 b12 I5 K6 z13; omega
    | succ fuel7 ih9 =>
      intro y2 m3 n4 b10 b11 b12 I5 K6 z13
      refine pv_iload_n (M := mX12_laysCheap) 1 dX12_laysCheap_5 6 rfl rfl rfl ?_
      refine pv_if_lt (M := mX12_laysCheap) (tgt := 157) dX12_laysCheap_6 9 rfl (by decide) (fun c14 => ?_) (fun c14 => ?_)
      · have c14 := iv_lt (X := y2.toInt) (Y := 0) c14 rfl (by decide)
        exact pv_vret (M := mX12_laysCheap) dX12_laysCheap_157 rfl ⟨_, _, rfl, rfl, I5, K6⟩
      · have c14 := iv_nlt (X := y2.toInt) (Y := 0) c14 rfl (by decide)
        refine pv_aload_n (M := mX12_laysCheap) 0 dX12_laysCheap_9 10 rfl rfl rfl ?_
        refine iv_get (M := mX12_laysCheap) dX12_laysCheap_10 FX12 41 wd1214 (by decide) (tl123 hT) rfl I5 rfl 13 rfl (fun v15 ev15 pv15 qv15 => ?_)
        have pv15 : 0 ≤ v15.toInt := pv15
        have qv15 : v15.toInt ≤ 16 := qv15
        have wv15 : v15.toInt = (m3 123 41).toInt := congrArg Int32.toInt ev15
        refine pv_istore_n (M := mX12_laysCheap) 2 (lo2 := [.ref 123, .int y2, .int v15, pv_U]) dX12_laysCheap_13 14 rfl rfl (by decide) rfl rfl ?_
        have lp22 : ∀ (fuel21 : Nat) (y16 : Int32) (m17 : Nat → Nat → Int32) (n18 : Nat → Nat → Int64), (-1 ≤ y16.toInt) → (y16.toInt ≤ 16) → (y2.toInt ≤ (m17 123 40).toInt) → (y16.toInt ≤ (m17 123 41).toInt) → IV BB m17 → kp m m17 → ((y16.toInt - (-1)) : Int).toNat < fuel21 → PV none g mX12_laysCheap (sqV T BB r m) 2 0 0 14 [.ref 123, .int y2, .int y16, pv_U] [] (mk T m17 n18 r) := by
          intro fuel21
          induction fuel21 with
          | zero => intro y16 m17 n18 b24 b25 b26 b27 I19 K20 z28; omega
          | succ fuel21 ih23 =>
            intro y16 m17 n18 b24 b25 b26 b27 I19 K20 z28
            refine pv_iload_n (M := mX12_laysCheap) 2 dX12_laysCheap_14 15 rfl rfl rfl ?_
            refine pv_if_lt (M := mX12_laysCheap) (tgt := 151) dX12_laysCheap_15 18 rfl (by decide) (fun c29 => ?_) (fun c29 => ?_)
            · have c29 := iv_lt (X := y16.toInt) (Y := 0) c29 rfl (by decide)
              refine iv_inc (M := mX12_laysCheap) (C := (-1)) dX12_laysCheap_151 154 rfl rfl (by decide) rfl rfl (by decide) (by omega) (by omega) (fun v30 ev30 => ?_)
              show PV _ _ _ _ _ _ _ 154 [.ref 123, .int v30, .int y16, pv_U] [] _
              refine pv_goto (M := mX12_laysCheap) (tgt := 5) dX12_laysCheap_154 (by decide) ?_
              refine pv_fg (lo2 := [.ref 123, .int v30, pv_U, pv_U]) ⟨Or.inr rfl, ⟨Or.inr rfl, ⟨Or.inl rfl, ⟨Or.inl rfl, trivial⟩⟩⟩⟩ ?_
              exact ih9 v30 m17 n18 (by first | omega | decide) (by first | omega | decide) (by first | omega | decide) I19 K20 (by omega)
            · have c29 := iv_nlt (X := y16.toInt) (Y := 0) c29 rfl (by decide)
              refine pv_iload_n (M := mX12_laysCheap) 1 dX12_laysCheap_18 19 rfl rfl rfl ?_
              refine pv_aload_n (M := mX12_laysCheap) 0 dX12_laysCheap_19 20 rfl rfl rfl ?_
              refine iv_get (M := mX12_laysCheap) dX12_laysCheap_20 FX12 40 wd1213 (by decide) (tl123 hT) rfl I19 rfl 23 rfl (fun v31 ev31 pv31 qv31 => ?_)
              have pv31 : 0 ≤ v31.toInt := pv31
              have qv31 : v31.toInt ≤ 40 := qv31
              have wv31 : v31.toInt = (m17 123 40).toInt := congrArg Int32.toInt ev31
              refine pv_icmp_ne (M := mX12_laysCheap) (tgt := 44) dX12_laysCheap_23 26 rfl (by decide) (fun c32 => ?_) (fun c32 => ?_)
              · have c32 := iv_ne (X := y2.toInt) (Y := v31.toInt) c32 rfl rfl
                refine pv_aload_n (M := mX12_laysCheap) 0 dX12_laysCheap_44 45 rfl rfl rfl ?_
                refine mv_get (M := mX12_laysCheap) (v := .ref 152) dX12_laysCheap_45 FX12 45 wd1218 (by decide) (tl123 hT) rfl rfl 48 rfl ?_
                refine pv_iload_n (M := mX12_laysCheap) 1 dX12_laysCheap_48 49 rfl rfl rfl ?_
                refine iv_iald (M := mX12_laysCheap) (X := y2.toInt) dX12_laysCheap_49 (tl152 hT) rfl (by omega) (by omega) I19 (fun _ => rfl) 50 rfl (fun v33 ev33 pv33 qv33 => ?_)
                have pv33 : 0 ≤ v33.toInt := pv33
                have qv33 : v33.toInt ≤ 1999999998 := qv33
                refine pv_aload_n (M := mX12_laysCheap) 0 dX12_laysCheap_50 51 rfl rfl rfl ?_
                refine mv_get (M := mX12_laysCheap) (v := .ref 153) dX12_laysCheap_51 FX12 46 wd1219 (by decide) (tl123 hT) rfl rfl 54 rfl ?_
                refine pv_bipush (M := mX12_laysCheap) (v := 17) dX12_laysCheap_54 56 rfl (by decide) ?_
                refine pv_iload_n (M := mX12_laysCheap) 1 dX12_laysCheap_56 57 rfl rfl rfl ?_
                refine pv_iconst (M := mX12_laysCheap) (v := 1) dX12_laysCheap_57 58 rfl (by decide) ?_
                refine iv_iadd (M := mX12_laysCheap) (X := y2.toInt) (Y := 1) dX12_laysCheap_58 59 rfl rfl (by decide) (by omega) (by omega) (fun v34 ev34 => ?_)
                refine iv_imul (M := mX12_laysCheap) (X := 17) (Y := v34.toInt) dX12_laysCheap_59 60 rfl (by decide) rfl (by omega) (by omega) (fun v35 ev35 => ?_)
                refine pv_iload_n (M := mX12_laysCheap) 2 dX12_laysCheap_60 61 rfl rfl rfl ?_
                refine iv_iadd (M := mX12_laysCheap) (X := v35.toInt) (Y := y16.toInt) dX12_laysCheap_61 62 rfl rfl rfl (by omega) (by omega) (fun v36 ev36 => ?_)
                refine iv_iald (M := mX12_laysCheap) (X := v36.toInt) dX12_laysCheap_62 (tl153 hT) rfl (by omega) (by omega) I19 (fun _ => rfl) 63 rfl (fun v37 ev37 pv37 qv37 => ?_)
                have pv37 : 0 ≤ v37.toInt := pv37
                have qv37 : v37.toInt ≤ 1999999998 := qv37
                refine pv_calls (M := mX12_laysCheap) (as := [.int v33, .int v37]) (st := []) (kc2 := 0) (ks2 := 0) dX12_laysCheap_63 wd1588 YX12_sum wd1589 (s_X12_sum g hT I19 v33 (by omega) (by omega) v37 (by omega) (by omega)) rfl rfl (Nat.le_of_ble_eq_true rfl) (by decide) rfl rfl 66 rfl (fun rv h1 q38 => ?_)
                obtain ⟨v39, rfl, rfl, pv39, qv39, rv39⟩ := q38
                show PV _ _ _ _ _ _ _ 66 [.ref 123, .int y2, .int y16, pv_U] [.int v39] _
                refine pv_istore_n (M := mX12_laysCheap) 3 (lo2 := [.ref 123, .int y2, .int y16, .int v39]) dX12_laysCheap_66 67 rfl rfl (by decide) rfl rfl ?_
                refine pv_iload_n (M := mX12_laysCheap) 1 dX12_laysCheap_67 68 rfl rfl rfl ?_
                refine pv_aload_n (M := mX12_laysCheap) 0 dX12_laysCheap_68 69 rfl rfl rfl ?_
                refine iv_get (M := mX12_laysCheap) dX12_laysCheap_69 FX12 40 wd1213 (by decide) (tl123 hT) rfl I19 rfl 72 rfl (fun v40 ev40 pv40 qv40 => ?_)
                have pv40 : 0 ≤ v40.toInt := pv40
                have qv40 : v40.toInt ≤ 40 := qv40
                have wv40 : v40.toInt = (m17 123 40).toInt := congrArg Int32.toInt ev40
                refine pv_icmp_ge (M := mX12_laysCheap) (tgt := 133) dX12_laysCheap_72 75 rfl (by decide) (fun c41 => ?_) (fun c41 => ?_)
                · have c41 := iv_le (X := v40.toInt) (Y := y2.toInt) c41 rfl rfl
                  refine pv_aload_n (M := mX12_laysCheap) 0 dX12_laysCheap_133 134 rfl rfl rfl ?_
                  refine mv_get (M := mX12_laysCheap) (v := .ref 153) dX12_laysCheap_134 FX12 46 wd1219 (by decide) (tl123 hT) rfl rfl 137 rfl ?_
                  refine pv_bipush (M := mX12_laysCheap) (v := 17) dX12_laysCheap_137 139 rfl (by decide) ?_
                  refine pv_iload_n (M := mX12_laysCheap) 1 dX12_laysCheap_139 140 rfl rfl rfl ?_
                  refine iv_imul (M := mX12_laysCheap) (X := 17) (Y := y2.toInt) dX12_laysCheap_140 141 rfl (by decide) rfl (by omega) (by omega) (fun v42 ev42 => ?_)
                  refine pv_iload_n (M := mX12_laysCheap) 2 dX12_laysCheap_141 142 rfl rfl rfl ?_
                  refine iv_iadd (M := mX12_laysCheap) (X := v42.toInt) (Y := y16.toInt) dX12_laysCheap_142 143 rfl rfl rfl (by omega) (by omega) (fun v43 ev43 => ?_)
                  refine pv_iload_n (M := mX12_laysCheap) 3 dX12_laysCheap_143 144 rfl rfl rfl ?_
                  refine iv_iast (M := mX12_laysCheap) (X := v43.toInt) dX12_laysCheap_144 (tl153 hT) rfl (by omega) (by omega) I19 (fun _ => rfl) (show (0 : Int) ≤ v39.toInt by omega) (show v39.toInt ≤ (1999999998 : Int) by omega) 145 rfl (fun m44 e47 I45 => ?_)
                  have K46 := K20.set e47 rfl
                  have w48 : (m44 123 40).toInt = (m17 123 40).toInt := by rw [e47, up2_ne (by omega)]
                  have w49 : (m44 123 41).toInt = (m17 123 41).toInt := by rw [e47, up2_ne (by omega)]
                  refine iv_inc (M := mX12_laysCheap) (C := (-1)) dX12_laysCheap_145 148 rfl rfl (by decide) rfl rfl (by decide) (by omega) (by omega) (fun v50 ev50 => ?_)
                  show PV _ _ _ _ _ _ _ 148 [.ref 123, .int y2, .int v50, .int v39] [] _
                  refine pv_goto (M := mX12_laysCheap) (tgt := 14) dX12_laysCheap_148 (by decide) ?_
                  refine pv_fg (lo2 := [.ref 123, .int y2, .int v50, pv_U]) ⟨Or.inr rfl, ⟨Or.inr rfl, ⟨Or.inr rfl, ⟨Or.inl rfl, trivial⟩⟩⟩⟩ ?_
                  exact ih23 v50 m44 n18 (by first | omega | decide) (by first | omega | decide) (by first | omega | decide) (by first | omega | decide) I45 K46 (by omega)
                · have c41 := iv_nle (X := v40.toInt) (Y := y2.toInt) c41 rfl rfl
                  refine pv_iload_n (M := mX12_laysCheap) 2 dX12_laysCheap_75 76 rfl rfl rfl ?_
                  refine pv_aload_n (M := mX12_laysCheap) 0 dX12_laysCheap_76 77 rfl rfl rfl ?_
                  refine iv_get (M := mX12_laysCheap) dX12_laysCheap_77 FX12 41 wd1214 (by decide) (tl123 hT) rfl I19 rfl 80 rfl (fun v51 ev51 pv51 qv51 => ?_)
                  have pv51 : 0 ≤ v51.toInt := pv51
                  have qv51 : v51.toInt ≤ 16 := qv51
                  have wv51 : v51.toInt = (m17 123 41).toInt := congrArg Int32.toInt ev51
                  refine pv_icmp_ge (M := mX12_laysCheap) (tgt := 133) dX12_laysCheap_80 83 rfl (by decide) (fun c52 => ?_) (fun c52 => ?_)
                  · have c52 := iv_le (X := v51.toInt) (Y := y16.toInt) c52 rfl rfl
                    refine pv_aload_n (M := mX12_laysCheap) 0 dX12_laysCheap_133 134 rfl rfl rfl ?_
                    refine mv_get (M := mX12_laysCheap) (v := .ref 153) dX12_laysCheap_134 FX12 46 wd1219 (by decide) (tl123 hT) rfl rfl 137 rfl ?_
                    refine pv_bipush (M := mX12_laysCheap) (v := 17) dX12_laysCheap_137 139 rfl (by decide) ?_
                    refine pv_iload_n (M := mX12_laysCheap) 1 dX12_laysCheap_139 140 rfl rfl rfl ?_
                    refine iv_imul (M := mX12_laysCheap) (X := 17) (Y := y2.toInt) dX12_laysCheap_140 141 rfl (by decide) rfl (by omega) (by omega) (fun v53 ev53 => ?_)
                    refine pv_iload_n (M := mX12_laysCheap) 2 dX12_laysCheap_141 142 rfl rfl rfl ?_
                    refine iv_iadd (M := mX12_laysCheap) (X := v53.toInt) (Y := y16.toInt) dX12_laysCheap_142 143 rfl rfl rfl (by omega) (by omega) (fun v54 ev54 => ?_)
                    refine pv_iload_n (M := mX12_laysCheap) 3 dX12_laysCheap_143 144 rfl rfl rfl ?_
                    refine iv_iast (M := mX12_laysCheap) (X := v54.toInt) dX12_laysCheap_144 (tl153 hT) rfl (by omega) (by omega) I19 (fun _ => rfl) (show (0 : Int) ≤ v39.toInt by omega) (show v39.toInt ≤ (1999999998 : Int) by omega) 145 rfl (fun m55 e58 I56 => ?_)
                    have K57 := K20.set e58 rfl
                    have w59 : (m55 123 40).toInt = (m17 123 40).toInt := by rw [e58, up2_ne (by omega)]
                    have w60 : (m55 123 41).toInt = (m17 123 41).toInt := by rw [e58, up2_ne (by omega)]
                    refine iv_inc (M := mX12_laysCheap) (C := (-1)) dX12_laysCheap_145 148 rfl rfl (by decide) rfl rfl (by decide) (by omega) (by omega) (fun v61 ev61 => ?_)
                    show PV _ _ _ _ _ _ _ 148 [.ref 123, .int y2, .int v61, .int v39] [] _
                    refine pv_goto (M := mX12_laysCheap) (tgt := 14) dX12_laysCheap_148 (by decide) ?_
                    refine pv_fg (lo2 := [.ref 123, .int y2, .int v61, pv_U]) ⟨Or.inr rfl, ⟨Or.inr rfl, ⟨Or.inr rfl, ⟨Or.inl rfl, trivial⟩⟩⟩⟩ ?_
                    exact ih23 v61 m55 n18 (by first | omega | decide) (by first | omega | decide) (by first | omega | decide) (by first | omega | decide) I56 K57 (by omega)
                  · have c52 := iv_nle (X := v51.toInt) (Y := y16.toInt) c52 rfl rfl
                    refine pv_aload_n (M := mX12_laysCheap) 0 dX12_laysCheap_83 84 rfl rfl rfl ?_
                    refine mv_get (M := mX12_laysCheap) (v := .ref 149) dX12_laysCheap_84 FX12 42 wd1215 (by decide) (tl123 hT) rfl rfl 87 rfl ?_
                    refine pv_iload_n (M := mX12_laysCheap) 1 dX12_laysCheap_87 88 rfl rfl rfl ?_
                    refine iv_iald (M := mX12_laysCheap) (X := y2.toInt) dX12_laysCheap_88 (tl149 hT) rfl (by omega) (by omega) I19 (fun _ => rfl) 89 rfl (fun v62 ev62 pv62 qv62 => ?_)
                    have pv62 : 0 ≤ v62.toInt := pv62
                    have qv62 : v62.toInt ≤ 25 := qv62
                    refine pv_aload_n (M := mX12_laysCheap) 0 dX12_laysCheap_89 90 rfl rfl rfl ?_
                    refine mv_get (M := mX12_laysCheap) (v := .ref 150) dX12_laysCheap_90 FX12 43 wd1216 (by decide) (tl123 hT) rfl rfl 93 rfl ?_
                    refine pv_iload_n (M := mX12_laysCheap) 2 dX12_laysCheap_93 94 rfl rfl rfl ?_
                    refine iv_iald (M := mX12_laysCheap) (X := y16.toInt) dX12_laysCheap_94 (tl150 hT) rfl (by omega) (by omega) I19 (fun _ => rfl) 95 rfl (fun v63 ev63 pv63 qv63 => ?_)
                    have pv63 : 0 ≤ v63.toInt := pv63
                    have qv63 : v63.toInt ≤ 25 := qv63
                    refine pv_icmp_ne (M := mX12_laysCheap) (tgt := 133) dX12_laysCheap_95 98 rfl (by decide) (fun c64 => ?_) (fun c64 => ?_)
                    · have c64 := iv_ne (X := v62.toInt) (Y := v63.toInt) c64 rfl rfl
                      refine pv_aload_n (M := mX12_laysCheap) 0 dX12_laysCheap_133 134 rfl rfl rfl ?_
                      refine mv_get (M := mX12_laysCheap) (v := .ref 153) dX12_laysCheap_134 FX12 46 wd1219 (by decide) (tl123 hT) rfl rfl 137 rfl ?_
                      refine pv_bipush (M := mX12_laysCheap) (v := 17) dX12_laysCheap_137 139 rfl (by decide) ?_
                      refine pv_iload_n (M := mX12_laysCheap) 1 dX12_laysCheap_139 140 rfl rfl rfl ?_
                      refine iv_imul (M := mX12_laysCheap) (X := 17) (Y := y2.toInt) dX12_laysCheap_140 141 rfl (by decide) rfl (by omega) (by omega) (fun v65 ev65 => ?_)
                      refine pv_iload_n (M := mX12_laysCheap) 2 dX12_laysCheap_141 142 rfl rfl rfl ?_
                      refine iv_iadd (M := mX12_laysCheap) (X := v65.toInt) (Y := y16.toInt) dX12_laysCheap_142 143 rfl rfl rfl (by omega) (by omega) (fun v66 ev66 => ?_)
                      refine pv_iload_n (M := mX12_laysCheap) 3 dX12_laysCheap_143 144 rfl rfl rfl ?_
                      refine iv_iast (M := mX12_laysCheap) (X := v66.toInt) dX12_laysCheap_144 (tl153 hT) rfl (by omega) (by omega) I19 (fun _ => rfl) (show (0 : Int) ≤ v39.toInt by omega) (show v39.toInt ≤ (1999999998 : Int) by omega) 145 rfl (fun m67 e70 I68 => ?_)
                      have K69 := K20.set e70 rfl
                      have w71 : (m67 123 40).toInt = (m17 123 40).toInt := by rw [e70, up2_ne (by omega)]
                      have w72 : (m67 123 41).toInt = (m17 123 41).toInt := by rw [e70, up2_ne (by omega)]
                      refine iv_inc (M := mX12_laysCheap) (C := (-1)) dX12_laysCheap_145 148 rfl rfl (by decide) rfl rfl (by decide) (by omega) (by omega) (fun v73 ev73 => ?_)
                      show PV _ _ _ _ _ _ _ 148 [.ref 123, .int y2, .int v73, .int v39] [] _
                      refine pv_goto (M := mX12_laysCheap) (tgt := 14) dX12_laysCheap_148 (by decide) ?_
                      refine pv_fg (lo2 := [.ref 123, .int y2, .int v73, pv_U]) ⟨Or.inr rfl, ⟨Or.inr rfl, ⟨Or.inr rfl, ⟨Or.inl rfl, trivial⟩⟩⟩⟩ ?_
                      exact ih23 v73 m67 n18 (by first | omega | decide) (by first | omega | decide) (by first | omega | decide) (by first | omega | decide) I68 K69 (by omega)
                    · have c64 := iv_eq (X := v62.toInt) (Y := v63.toInt) c64 rfl rfl
                      refine pv_aload_n (M := mX12_laysCheap) 0 dX12_laysCheap_98 99 rfl rfl rfl ?_
                      refine mv_get (M := mX12_laysCheap) (v := .ref 153) dX12_laysCheap_99 FX12 46 wd1219 (by decide) (tl123 hT) rfl rfl 102 rfl ?_
                      refine pv_bipush (M := mX12_laysCheap) (v := 17) dX12_laysCheap_102 104 rfl (by decide) ?_
                      refine pv_iload_n (M := mX12_laysCheap) 1 dX12_laysCheap_104 105 rfl rfl rfl ?_
                      refine pv_iconst (M := mX12_laysCheap) (v := 1) dX12_laysCheap_105 106 rfl (by decide) ?_
                      refine iv_iadd (M := mX12_laysCheap) (X := y2.toInt) (Y := 1) dX12_laysCheap_106 107 rfl rfl (by decide) (by omega) (by omega) (fun v74 ev74 => ?_)
                      refine iv_imul (M := mX12_laysCheap) (X := 17) (Y := v74.toInt) dX12_laysCheap_107 108 rfl (by decide) rfl (by omega) (by omega) (fun v75 ev75 => ?_)
                      refine pv_iload_n (M := mX12_laysCheap) 2 dX12_laysCheap_108 109 rfl rfl rfl ?_
                      refine iv_iadd (M := mX12_laysCheap) (X := v75.toInt) (Y := y16.toInt) dX12_laysCheap_109 110 rfl rfl rfl (by omega) (by omega) (fun v76 ev76 => ?_)
                      refine pv_iconst (M := mX12_laysCheap) (v := 1) dX12_laysCheap_110 111 rfl (by decide) ?_
                      refine iv_iadd (M := mX12_laysCheap) (X := v76.toInt) (Y := 1) dX12_laysCheap_111 112 rfl rfl (by decide) (by omega) (by omega) (fun v77 ev77 => ?_)
                      refine iv_iald (M := mX12_laysCheap) (X := v77.toInt) dX12_laysCheap_112 (tl153 hT) rfl (by omega) (by omega) I19 (fun _ => rfl) 113 rfl (fun v78 ev78 pv78 qv78 => ?_)
                      have pv78 : 0 ≤ v78.toInt := pv78
                      have qv78 : v78.toInt ≤ 1999999998 := qv78
                      refine pv_iload_n (M := mX12_laysCheap) 3 dX12_laysCheap_113 114 rfl rfl rfl ?_
                      refine pv_icmp_ge (M := mX12_laysCheap) (tgt := 133) dX12_laysCheap_114 117 rfl (by decide) (fun c79 => ?_) (fun c79 => ?_)
                      · have c79 := iv_le (X := v39.toInt) (Y := v78.toInt) c79 rfl rfl
                        refine pv_aload_n (M := mX12_laysCheap) 0 dX12_laysCheap_133 134 rfl rfl rfl ?_
                        refine mv_get (M := mX12_laysCheap) (v := .ref 153) dX12_laysCheap_134 FX12 46 wd1219 (by decide) (tl123 hT) rfl rfl 137 rfl ?_
                        refine pv_bipush (M := mX12_laysCheap) (v := 17) dX12_laysCheap_137 139 rfl (by decide) ?_
                        refine pv_iload_n (M := mX12_laysCheap) 1 dX12_laysCheap_139 140 rfl rfl rfl ?_
                        refine iv_imul (M := mX12_laysCheap) (X := 17) (Y := y2.toInt) dX12_laysCheap_140 141 rfl (by decide) rfl (by omega) (by omega) (fun v80 ev80 => ?_)
                        refine pv_iload_n (M := mX12_laysCheap) 2 dX12_laysCheap_141 142 rfl rfl rfl ?_
                        refine iv_iadd (M := mX12_laysCheap) (X := v80.toInt) (Y := y16.toInt) dX12_laysCheap_142 143 rfl rfl rfl (by omega) (by omega) (fun v81 ev81 => ?_)
                        refine pv_iload_n (M := mX12_laysCheap) 3 dX12_laysCheap_143 144 rfl rfl rfl ?_
                        refine iv_iast (M := mX12_laysCheap) (X := v81.toInt) dX12_laysCheap_144 (tl153 hT) rfl (by omega) (by omega) I19 (fun _ => rfl) (show (0 : Int) ≤ v39.toInt by omega) (show v39.toInt ≤ (1999999998 : Int) by omega) 145 rfl (fun m82 e85 I83 => ?_)
                        have K84 := K20.set e85 rfl
                        have w86 : (m82 123 40).toInt = (m17 123 40).toInt := by rw [e85, up2_ne (by omega)]
                        have w87 : (m82 123 41).toInt = (m17 123 41).toInt := by rw [e85, up2_ne (by omega)]
                        refine iv_inc (M := mX12_laysCheap) (C := (-1)) dX12_laysCheap_145 148 rfl rfl (by decide) rfl rfl (by decide) (by omega) (by omega) (fun v88 ev88 => ?_)
                        show PV _ _ _ _ _ _ _ 148 [.ref 123, .int y2, .int v88, .int v39] [] _
                        refine pv_goto (M := mX12_laysCheap) (tgt := 14) dX12_laysCheap_148 (by decide) ?_
                        refine pv_fg (lo2 := [.ref 123, .int y2, .int v88, pv_U]) ⟨Or.inr rfl, ⟨Or.inr rfl, ⟨Or.inr rfl, ⟨Or.inl rfl, trivial⟩⟩⟩⟩ ?_
                        exact ih23 v88 m82 n18 (by first | omega | decide) (by first | omega | decide) (by first | omega | decide) (by first | omega | decide) I83 K84 (by omega)
                      · have c79 := iv_nle (X := v39.toInt) (Y := v78.toInt) c79 rfl rfl
                        refine pv_aload_n (M := mX12_laysCheap) 0 dX12_laysCheap_117 118 rfl rfl rfl ?_
                        refine mv_get (M := mX12_laysCheap) (v := .ref 153) dX12_laysCheap_118 FX12 46 wd1219 (by decide) (tl123 hT) rfl rfl 121 rfl ?_
                        refine pv_bipush (M := mX12_laysCheap) (v := 17) dX12_laysCheap_121 123 rfl (by decide) ?_
                        refine pv_iload_n (M := mX12_laysCheap) 1 dX12_laysCheap_123 124 rfl rfl rfl ?_
                        refine pv_iconst (M := mX12_laysCheap) (v := 1) dX12_laysCheap_124 125 rfl (by decide) ?_
                        refine iv_iadd (M := mX12_laysCheap) (X := y2.toInt) (Y := 1) dX12_laysCheap_125 126 rfl rfl (by decide) (by omega) (by omega) (fun v89 ev89 => ?_)
                        refine iv_imul (M := mX12_laysCheap) (X := 17) (Y := v89.toInt) dX12_laysCheap_126 127 rfl (by decide) rfl (by omega) (by omega) (fun v90 ev90 => ?_)
                        refine pv_iload_n (M := mX12_laysCheap) 2 dX12_laysCheap_127 128 rfl rfl rfl ?_
                        refine iv_iadd (M := mX12_laysCheap) (X := v90.toInt) (Y := y16.toInt) dX12_laysCheap_128 129 rfl rfl rfl (by omega) (by omega) (fun v91 ev91 => ?_)
                        refine pv_iconst (M := mX12_laysCheap) (v := 1) dX12_laysCheap_129 130 rfl (by decide) ?_
                        refine iv_iadd (M := mX12_laysCheap) (X := v91.toInt) (Y := 1) dX12_laysCheap_130 131 rfl rfl (by decide) (by omega) (by omega) (fun v92 ev92 => ?_)
                        refine iv_iald (M := mX12_laysCheap) (X := v92.toInt) dX12_laysCheap_131 (tl153 hT) rfl (by omega) (by omega) I19 (fun _ => rfl) 132 rfl (fun v93 ev93 pv93 qv93 => ?_)
                        have pv93 : 0 ≤ v93.toInt := pv93
                        have qv93 : v93.toInt ≤ 1999999998 := qv93
                        refine pv_istore_n (M := mX12_laysCheap) 3 (lo2 := [.ref 123, .int y2, .int y16, .int v93]) dX12_laysCheap_132 133 rfl rfl (by decide) rfl rfl ?_
                        refine pv_aload_n (M := mX12_laysCheap) 0 dX12_laysCheap_133 134 rfl rfl rfl ?_
                        refine mv_get (M := mX12_laysCheap) (v := .ref 153) dX12_laysCheap_134 FX12 46 wd1219 (by decide) (tl123 hT) rfl rfl 137 rfl ?_
                        refine pv_bipush (M := mX12_laysCheap) (v := 17) dX12_laysCheap_137 139 rfl (by decide) ?_
                        refine pv_iload_n (M := mX12_laysCheap) 1 dX12_laysCheap_139 140 rfl rfl rfl ?_
                        refine iv_imul (M := mX12_laysCheap) (X := 17) (Y := y2.toInt) dX12_laysCheap_140 141 rfl (by decide) rfl (by omega) (by omega) (fun v94 ev94 => ?_)
                        refine pv_iload_n (M := mX12_laysCheap) 2 dX12_laysCheap_141 142 rfl rfl rfl ?_
                        refine iv_iadd (M := mX12_laysCheap) (X := v94.toInt) (Y := y16.toInt) dX12_laysCheap_142 143 rfl rfl rfl (by omega) (by omega) (fun v95 ev95 => ?_)
                        refine pv_iload_n (M := mX12_laysCheap) 3 dX12_laysCheap_143 144 rfl rfl rfl ?_
                        refine iv_iast (M := mX12_laysCheap) (X := v95.toInt) dX12_laysCheap_144 (tl153 hT) rfl (by omega) (by omega) I19 (fun _ => rfl) (show (0 : Int) ≤ v93.toInt by omega) (show v93.toInt ≤ (1999999998 : Int) by omega) 145 rfl (fun m96 e99 I97 => ?_)
                        have K98 := K20.set e99 rfl
                        have w100 : (m96 123 40).toInt = (m17 123 40).toInt := by rw [e99, up2_ne (by omega)]
                        have w101 : (m96 123 41).toInt = (m17 123 41).toInt := by rw [e99, up2_ne (by omega)]
                        refine iv_inc (M := mX12_laysCheap) (C := (-1)) dX12_laysCheap_145 148 rfl rfl (by decide) rfl rfl (by decide) (by omega) (by omega) (fun v102 ev102 => ?_)
                        show PV _ _ _ _ _ _ _ 148 [.ref 123, .int y2, .int v102, .int v93] [] _
                        refine pv_goto (M := mX12_laysCheap) (tgt := 14) dX12_laysCheap_148 (by decide) ?_
                        refine pv_fg (lo2 := [.ref 123, .int y2, .int v102, pv_U]) ⟨Or.inr rfl, ⟨Or.inr rfl, ⟨Or.inr rfl, ⟨Or.inl rfl, trivial⟩⟩⟩⟩ ?_
                        exact ih23 v102 m96 n18 (by first | omega | decide) (by first | omega | decide) (by first | omega | decide) (by first | omega | decide) I97 K98 (by omega)
              · have c32 := iv_eq (X := y2.toInt) (Y := v31.toInt) c32 rfl rfl
                refine pv_iload_n (M := mX12_laysCheap) 2 dX12_laysCheap_26 27 rfl rfl rfl ?_
                refine pv_aload_n (M := mX12_laysCheap) 0 dX12_laysCheap_27 28 rfl rfl rfl ?_
                refine iv_get (M := mX12_laysCheap) dX12_laysCheap_28 FX12 41 wd1214 (by decide) (tl123 hT) rfl I19 rfl 31 rfl (fun v103 ev103 pv103 qv103 => ?_)
                have pv103 : 0 ≤ v103.toInt := pv103
                have qv103 : v103.toInt ≤ 16 := qv103
                have wv103 : v103.toInt = (m17 123 41).toInt := congrArg Int32.toInt ev103
                refine pv_icmp_ne (M := mX12_laysCheap) (tgt := 38) dX12_laysCheap_31 34 rfl (by decide) (fun c104 => ?_) (fun c104 => ?_)
                · have c104 := iv_ne (X := y16.toInt) (Y := v103.toInt) c104 rfl rfl
                  refine pv_ldcw (M := mX12_laysCheap) (v := 1000000000) dX12_laysCheap_38 41 rfl wd1583 ?_
                  refine pv_goto (M := mX12_laysCheap) (tgt := 66) dX12_laysCheap_41 (by decide) ?_
                  refine pv_istore_n (M := mX12_laysCheap) 3 (lo2 := [.ref 123, .int y2, .int y16, .int 1000000000]) dX12_laysCheap_66 67 rfl rfl (by decide) rfl rfl ?_
                  refine pv_iload_n (M := mX12_laysCheap) 1 dX12_laysCheap_67 68 rfl rfl rfl ?_
                  refine pv_aload_n (M := mX12_laysCheap) 0 dX12_laysCheap_68 69 rfl rfl rfl ?_
                  refine iv_get (M := mX12_laysCheap) dX12_laysCheap_69 FX12 40 wd1213 (by decide) (tl123 hT) rfl I19 rfl 72 rfl (fun v105 ev105 pv105 qv105 => ?_)
                  have pv105 : 0 ≤ v105.toInt := pv105
                  have qv105 : v105.toInt ≤ 40 := qv105
                  have wv105 : v105.toInt = (m17 123 40).toInt := congrArg Int32.toInt ev105
                  refine pv_icmp_ge (M := mX12_laysCheap) (tgt := 133) dX12_laysCheap_72 75 rfl (by decide) (fun c106 => ?_) (fun c106 => ?_)
                  · have c106 := iv_le (X := v105.toInt) (Y := y2.toInt) c106 rfl rfl
                    refine pv_aload_n (M := mX12_laysCheap) 0 dX12_laysCheap_133 134 rfl rfl rfl ?_
                    refine mv_get (M := mX12_laysCheap) (v := .ref 153) dX12_laysCheap_134 FX12 46 wd1219 (by decide) (tl123 hT) rfl rfl 137 rfl ?_
                    refine pv_bipush (M := mX12_laysCheap) (v := 17) dX12_laysCheap_137 139 rfl (by decide) ?_
                    refine pv_iload_n (M := mX12_laysCheap) 1 dX12_laysCheap_139 140 rfl rfl rfl ?_
                    refine iv_imul (M := mX12_laysCheap) (X := 17) (Y := y2.toInt) dX12_laysCheap_140 141 rfl (by decide) rfl (by omega) (by omega) (fun v107 ev107 => ?_)
                    refine pv_iload_n (M := mX12_laysCheap) 2 dX12_laysCheap_141 142 rfl rfl rfl ?_
                    refine iv_iadd (M := mX12_laysCheap) (X := v107.toInt) (Y := y16.toInt) dX12_laysCheap_142 143 rfl rfl rfl (by omega) (by omega) (fun v108 ev108 => ?_)
                    refine pv_iload_n (M := mX12_laysCheap) 3 dX12_laysCheap_143 144 rfl rfl rfl ?_
                    refine iv_iast (M := mX12_laysCheap) (X := v108.toInt) dX12_laysCheap_144 (tl153 hT) rfl (by omega) (by omega) I19 (fun _ => rfl) (by decide) (by decide) 145 rfl (fun m109 e112 I110 => ?_)
                    have K111 := K20.set e112 rfl
                    have w113 : (m109 123 40).toInt = (m17 123 40).toInt := by rw [e112, up2_ne (by omega)]
                    have w114 : (m109 123 41).toInt = (m17 123 41).toInt := by rw [e112, up2_ne (by omega)]
                    refine iv_inc (M := mX12_laysCheap) (C := (-1)) dX12_laysCheap_145 148 rfl rfl (by decide) rfl rfl (by decide) (by omega) (by omega) (fun v115 ev115 => ?_)
                    show PV _ _ _ _ _ _ _ 148 [.ref 123, .int y2, .int v115, .int 1000000000] [] _
                    refine pv_goto (M := mX12_laysCheap) (tgt := 14) dX12_laysCheap_148 (by decide) ?_
                    refine pv_fg (lo2 := [.ref 123, .int y2, .int v115, pv_U]) ⟨Or.inr rfl, ⟨Or.inr rfl, ⟨Or.inr rfl, ⟨Or.inl rfl, trivial⟩⟩⟩⟩ ?_
                    exact ih23 v115 m109 n18 (by first | omega | decide) (by first | omega | decide) (by first | omega | decide) (by first | omega | decide) I110 K111 (by omega)
                  · have c106 := iv_nle (X := v105.toInt) (Y := y2.toInt) c106 rfl rfl
                    refine pv_iload_n (M := mX12_laysCheap) 2 dX12_laysCheap_75 76 rfl rfl rfl ?_
                    refine pv_aload_n (M := mX12_laysCheap) 0 dX12_laysCheap_76 77 rfl rfl rfl ?_
                    refine iv_get (M := mX12_laysCheap) dX12_laysCheap_77 FX12 41 wd1214 (by decide) (tl123 hT) rfl I19 rfl 80 rfl (fun v116 ev116 pv116 qv116 => ?_)
                    have pv116 : 0 ≤ v116.toInt := pv116
                    have qv116 : v116.toInt ≤ 16 := qv116
                    have wv116 : v116.toInt = (m17 123 41).toInt := congrArg Int32.toInt ev116
                    refine pv_icmp_ge (M := mX12_laysCheap) (tgt := 133) dX12_laysCheap_80 83 rfl (by decide) (fun c117 => ?_) (fun c117 => ?_)
                    · have c117 := iv_le (X := v116.toInt) (Y := y16.toInt) c117 rfl rfl
                      refine pv_aload_n (M := mX12_laysCheap) 0 dX12_laysCheap_133 134 rfl rfl rfl ?_
                      refine mv_get (M := mX12_laysCheap) (v := .ref 153) dX12_laysCheap_134 FX12 46 wd1219 (by decide) (tl123 hT) rfl rfl 137 rfl ?_
                      refine pv_bipush (M := mX12_laysCheap) (v := 17) dX12_laysCheap_137 139 rfl (by decide) ?_
                      refine pv_iload_n (M := mX12_laysCheap) 1 dX12_laysCheap_139 140 rfl rfl rfl ?_
                      refine iv_imul (M := mX12_laysCheap) (X := 17) (Y := y2.toInt) dX12_laysCheap_140 141 rfl (by decide) rfl (by omega) (by omega) (fun v118 ev118 => ?_)
                      refine pv_iload_n (M := mX12_laysCheap) 2 dX12_laysCheap_141 142 rfl rfl rfl ?_
                      refine iv_iadd (M := mX12_laysCheap) (X := v118.toInt) (Y := y16.toInt) dX12_laysCheap_142 143 rfl rfl rfl (by omega) (by omega) (fun v119 ev119 => ?_)
                      refine pv_iload_n (M := mX12_laysCheap) 3 dX12_laysCheap_143 144 rfl rfl rfl ?_
                      refine iv_iast (M := mX12_laysCheap) (X := v119.toInt) dX12_laysCheap_144 (tl153 hT) rfl (by omega) (by omega) I19 (fun _ => rfl) (by decide) (by decide) 145 rfl (fun m120 e123 I121 => ?_)
                      have K122 := K20.set e123 rfl
                      have w124 : (m120 123 40).toInt = (m17 123 40).toInt := by rw [e123, up2_ne (by omega)]
                      have w125 : (m120 123 41).toInt = (m17 123 41).toInt := by rw [e123, up2_ne (by omega)]
                      refine iv_inc (M := mX12_laysCheap) (C := (-1)) dX12_laysCheap_145 148 rfl rfl (by decide) rfl rfl (by decide) (by omega) (by omega) (fun v126 ev126 => ?_)
                      show PV _ _ _ _ _ _ _ 148 [.ref 123, .int y2, .int v126, .int 1000000000] [] _
                      refine pv_goto (M := mX12_laysCheap) (tgt := 14) dX12_laysCheap_148 (by decide) ?_
                      refine pv_fg (lo2 := [.ref 123, .int y2, .int v126, pv_U]) ⟨Or.inr rfl, ⟨Or.inr rfl, ⟨Or.inr rfl, ⟨Or.inl rfl, trivial⟩⟩⟩⟩ ?_
                      exact ih23 v126 m120 n18 (by first | omega | decide) (by first | omega | decide) (by first | omega | decide) (by first | omega | decide) I121 K122 (by omega)
                    · have c117 := iv_nle (X := v116.toInt) (Y := y16.toInt) c117 rfl rfl
                      refine pv_aload_n (M := mX12_laysCheap) 0 dX12_laysCheap_83 84 rfl rfl rfl ?_
                      refine mv_get (M := mX12_laysCheap) (v := .ref 149) dX12_laysCheap_84 FX12 42 wd1215 (by decide) (tl123 hT) rfl rfl 87 rfl ?_
                      refine pv_iload_n (M := mX12_laysCheap) 1 dX12_laysCheap_87 88 rfl rfl rfl ?_
                      refine iv_iald (M := mX12_laysCheap) (X := y2.toInt) dX12_laysCheap_88 (tl149 hT) rfl (by omega) (by omega) I19 (fun _ => rfl) 89 rfl (fun v127 ev127 pv127 qv127 => ?_)
                      have pv127 : 0 ≤ v127.toInt := pv127
                      have qv127 : v127.toInt ≤ 25 := qv127
                      refine pv_aload_n (M := mX12_laysCheap) 0 dX12_laysCheap_89 90 rfl rfl rfl ?_
                      refine mv_get (M := mX12_laysCheap) (v := .ref 150) dX12_laysCheap_90 FX12 43 wd1216 (by decide) (tl123 hT) rfl rfl 93 rfl ?_
                      refine pv_iload_n (M := mX12_laysCheap) 2 dX12_laysCheap_93 94 rfl rfl rfl ?_
                      refine iv_iald (M := mX12_laysCheap) (X := y16.toInt) dX12_laysCheap_94 (tl150 hT) rfl (by omega) (by omega) I19 (fun _ => rfl) 95 rfl (fun v128 ev128 pv128 qv128 => ?_)
                      have pv128 : 0 ≤ v128.toInt := pv128
                      have qv128 : v128.toInt ≤ 25 := qv128
                      refine pv_icmp_ne (M := mX12_laysCheap) (tgt := 133) dX12_laysCheap_95 98 rfl (by decide) (fun c129 => ?_) (fun c129 => ?_)
                      · have c129 := iv_ne (X := v127.toInt) (Y := v128.toInt) c129 rfl rfl
                        refine pv_aload_n (M := mX12_laysCheap) 0 dX12_laysCheap_133 134 rfl rfl rfl ?_
                        refine mv_get (M := mX12_laysCheap) (v := .ref 153) dX12_laysCheap_134 FX12 46 wd1219 (by decide) (tl123 hT) rfl rfl 137 rfl ?_
                        refine pv_bipush (M := mX12_laysCheap) (v := 17) dX12_laysCheap_137 139 rfl (by decide) ?_
                        refine pv_iload_n (M := mX12_laysCheap) 1 dX12_laysCheap_139 140 rfl rfl rfl ?_
                        refine iv_imul (M := mX12_laysCheap) (X := 17) (Y := y2.toInt) dX12_laysCheap_140 141 rfl (by decide) rfl (by omega) (by omega) (fun v130 ev130 => ?_)
                        refine pv_iload_n (M := mX12_laysCheap) 2 dX12_laysCheap_141 142 rfl rfl rfl ?_
                        refine iv_iadd (M := mX12_laysCheap) (X := v130.toInt) (Y := y16.toInt) dX12_laysCheap_142 143 rfl rfl rfl (by omega) (by omega) (fun v131 ev131 => ?_)
                        refine pv_iload_n (M := mX12_laysCheap) 3 dX12_laysCheap_143 144 rfl rfl rfl ?_
                        refine iv_iast (M := mX12_laysCheap) (X := v131.toInt) dX12_laysCheap_144 (tl153 hT) rfl (by omega) (by omega) I19 (fun _ => rfl) (by decide) (by decide) 145 rfl (fun m132 e135 I133 => ?_)
                        have K134 := K20.set e135 rfl
                        have w136 : (m132 123 40).toInt = (m17 123 40).toInt := by rw [e135, up2_ne (by omega)]
                        have w137 : (m132 123 41).toInt = (m17 123 41).toInt := by rw [e135, up2_ne (by omega)]
                        refine iv_inc (M := mX12_laysCheap) (C := (-1)) dX12_laysCheap_145 148 rfl rfl (by decide) rfl rfl (by decide) (by omega) (by omega) (fun v138 ev138 => ?_)
                        show PV _ _ _ _ _ _ _ 148 [.ref 123, .int y2, .int v138, .int 1000000000] [] _
                        refine pv_goto (M := mX12_laysCheap) (tgt := 14) dX12_laysCheap_148 (by decide) ?_
                        refine pv_fg (lo2 := [.ref 123, .int y2, .int v138, pv_U]) ⟨Or.inr rfl, ⟨Or.inr rfl, ⟨Or.inr rfl, ⟨Or.inl rfl, trivial⟩⟩⟩⟩ ?_
                        exact ih23 v138 m132 n18 (by first | omega | decide) (by first | omega | decide) (by first | omega | decide) (by first | omega | decide) I133 K134 (by omega)
                      · have c129 := iv_eq (X := v127.toInt) (Y := v128.toInt) c129 rfl rfl
                        refine pv_aload_n (M := mX12_laysCheap) 0 dX12_laysCheap_98 99 rfl rfl rfl ?_
                        refine mv_get (M := mX12_laysCheap) (v := .ref 153) dX12_laysCheap_99 FX12 46 wd1219 (by decide) (tl123 hT) rfl rfl 102 rfl ?_
                        refine pv_bipush (M := mX12_laysCheap) (v := 17) dX12_laysCheap_102 104 rfl (by decide) ?_
                        refine pv_iload_n (M := mX12_laysCheap) 1 dX12_laysCheap_104 105 rfl rfl rfl ?_
                        refine pv_iconst (M := mX12_laysCheap) (v := 1) dX12_laysCheap_105 106 rfl (by decide) ?_
                        refine iv_iadd (M := mX12_laysCheap) (X := y2.toInt) (Y := 1) dX12_laysCheap_106 107 rfl rfl (by decide) (by omega) (by omega) (fun v139 ev139 => ?_)
                        refine iv_imul (M := mX12_laysCheap) (X := 17) (Y := v139.toInt) dX12_laysCheap_107 108 rfl (by decide) rfl (by omega) (by omega) (fun v140 ev140 => ?_)
                        refine pv_iload_n (M := mX12_laysCheap) 2 dX12_laysCheap_108 109 rfl rfl rfl ?_
                        refine iv_iadd (M := mX12_laysCheap) (X := v140.toInt) (Y := y16.toInt) dX12_laysCheap_109 110 rfl rfl rfl (by omega) (by omega) (fun v141 ev141 => ?_)
                        refine pv_iconst (M := mX12_laysCheap) (v := 1) dX12_laysCheap_110 111 rfl (by decide) ?_
                        refine iv_iadd (M := mX12_laysCheap) (X := v141.toInt) (Y := 1) dX12_laysCheap_111 112 rfl rfl (by decide) (by omega) (by omega) (fun v142 ev142 => ?_)
                        refine iv_iald (M := mX12_laysCheap) (X := v142.toInt) dX12_laysCheap_112 (tl153 hT) rfl (by omega) (by omega) I19 (fun _ => rfl) 113 rfl (fun v143 ev143 pv143 qv143 => ?_)
                        have pv143 : 0 ≤ v143.toInt := pv143
                        have qv143 : v143.toInt ≤ 1999999998 := qv143
                        refine pv_iload_n (M := mX12_laysCheap) 3 dX12_laysCheap_113 114 rfl rfl rfl ?_
                        refine pv_icmp_ge (M := mX12_laysCheap) (tgt := 133) dX12_laysCheap_114 117 rfl (by decide) (fun c144 => ?_) (fun c144 => ?_)
                        · have c144 := iv_le (X := 1000000000) (Y := v143.toInt) c144 (by decide) rfl
                          refine pv_aload_n (M := mX12_laysCheap) 0 dX12_laysCheap_133 134 rfl rfl rfl ?_
                          refine mv_get (M := mX12_laysCheap) (v := .ref 153) dX12_laysCheap_134 FX12 46 wd1219 (by decide) (tl123 hT) rfl rfl 137 rfl ?_
                          refine pv_bipush (M := mX12_laysCheap) (v := 17) dX12_laysCheap_137 139 rfl (by decide) ?_
                          refine pv_iload_n (M := mX12_laysCheap) 1 dX12_laysCheap_139 140 rfl rfl rfl ?_
                          refine iv_imul (M := mX12_laysCheap) (X := 17) (Y := y2.toInt) dX12_laysCheap_140 141 rfl (by decide) rfl (by omega) (by omega) (fun v145 ev145 => ?_)
                          refine pv_iload_n (M := mX12_laysCheap) 2 dX12_laysCheap_141 142 rfl rfl rfl ?_
                          refine iv_iadd (M := mX12_laysCheap) (X := v145.toInt) (Y := y16.toInt) dX12_laysCheap_142 143 rfl rfl rfl (by omega) (by omega) (fun v146 ev146 => ?_)
                          refine pv_iload_n (M := mX12_laysCheap) 3 dX12_laysCheap_143 144 rfl rfl rfl ?_
                          refine iv_iast (M := mX12_laysCheap) (X := v146.toInt) dX12_laysCheap_144 (tl153 hT) rfl (by omega) (by omega) I19 (fun _ => rfl) (by decide) (by decide) 145 rfl (fun m147 e150 I148 => ?_)
                          have K149 := K20.set e150 rfl
                          have w151 : (m147 123 40).toInt = (m17 123 40).toInt := by rw [e150, up2_ne (by omega)]
                          have w152 : (m147 123 41).toInt = (m17 123 41).toInt := by rw [e150, up2_ne (by omega)]
                          refine iv_inc (M := mX12_laysCheap) (C := (-1)) dX12_laysCheap_145 148 rfl rfl (by decide) rfl rfl (by decide) (by omega) (by omega) (fun v153 ev153 => ?_)
                          show PV _ _ _ _ _ _ _ 148 [.ref 123, .int y2, .int v153, .int 1000000000] [] _
                          refine pv_goto (M := mX12_laysCheap) (tgt := 14) dX12_laysCheap_148 (by decide) ?_
                          refine pv_fg (lo2 := [.ref 123, .int y2, .int v153, pv_U]) ⟨Or.inr rfl, ⟨Or.inr rfl, ⟨Or.inr rfl, ⟨Or.inl rfl, trivial⟩⟩⟩⟩ ?_
                          exact ih23 v153 m147 n18 (by first | omega | decide) (by first | omega | decide) (by first | omega | decide) (by first | omega | decide) I148 K149 (by omega)
                        · have c144 := iv_nle (X := 1000000000) (Y := v143.toInt) c144 (by decide) rfl
                          refine pv_aload_n (M := mX12_laysCheap) 0 dX12_laysCheap_117 118 rfl rfl rfl ?_
                          refine mv_get (M := mX12_laysCheap) (v := .ref 153) dX12_laysCheap_118 FX12 46 wd1219 (by decide) (tl123 hT) rfl rfl 121 rfl ?_
                          refine pv_bipush (M := mX12_laysCheap) (v := 17) dX12_laysCheap_121 123 rfl (by decide) ?_
                          refine pv_iload_n (M := mX12_laysCheap) 1 dX12_laysCheap_123 124 rfl rfl rfl ?_
                          refine pv_iconst (M := mX12_laysCheap) (v := 1) dX12_laysCheap_124 125 rfl (by decide) ?_
                          refine iv_iadd (M := mX12_laysCheap) (X := y2.toInt) (Y := 1) dX12_laysCheap_125 126 rfl rfl (by decide) (by omega) (by omega) (fun v154 ev154 => ?_)
                          refine iv_imul (M := mX12_laysCheap) (X := 17) (Y := v154.toInt) dX12_laysCheap_126 127 rfl (by decide) rfl (by omega) (by omega) (fun v155 ev155 => ?_)
                          refine pv_iload_n (M := mX12_laysCheap) 2 dX12_laysCheap_127 128 rfl rfl rfl ?_
                          refine iv_iadd (M := mX12_laysCheap) (X := v155.toInt) (Y := y16.toInt) dX12_laysCheap_128 129 rfl rfl rfl (by omega) (by omega) (fun v156 ev156 => ?_)
                          refine pv_iconst (M := mX12_laysCheap) (v := 1) dX12_laysCheap_129 130 rfl (by decide) ?_
                          refine iv_iadd (M := mX12_laysCheap) (X := v156.toInt) (Y := 1) dX12_laysCheap_130 131 rfl rfl (by decide) (by omega) (by omega) (fun v157 ev157 => ?_)
                          refine iv_iald (M := mX12_laysCheap) (X := v157.toInt) dX12_laysCheap_131 (tl153 hT) rfl (by omega) (by omega) I19 (fun _ => rfl) 132 rfl (fun v158 ev158 pv158 qv158 => ?_)
                          have pv158 : 0 ≤ v158.toInt := pv158
                          have qv158 : v158.toInt ≤ 1999999998 := qv158
                          refine pv_istore_n (M := mX12_laysCheap) 3 (lo2 := [.ref 123, .int y2, .int y16, .int v158]) dX12_laysCheap_132 133 rfl rfl (by decide) rfl rfl ?_
                          refine pv_aload_n (M := mX12_laysCheap) 0 dX12_laysCheap_133 134 rfl rfl rfl ?_
                          refine mv_get (M := mX12_laysCheap) (v := .ref 153) dX12_laysCheap_134 FX12 46 wd1219 (by decide) (tl123 hT) rfl rfl 137 rfl ?_
                          refine pv_bipush (M := mX12_laysCheap) (v := 17) dX12_laysCheap_137 139 rfl (by decide) ?_
                          refine pv_iload_n (M := mX12_laysCheap) 1 dX12_laysCheap_139 140 rfl rfl rfl ?_
                          refine iv_imul (M := mX12_laysCheap) (X := 17) (Y := y2.toInt) dX12_laysCheap_140 141 rfl (by decide) rfl (by omega) (by omega) (fun v159 ev159 => ?_)
                          refine pv_iload_n (M := mX12_laysCheap) 2 dX12_laysCheap_141 142 rfl rfl rfl ?_
                          refine iv_iadd (M := mX12_laysCheap) (X := v159.toInt) (Y := y16.toInt) dX12_laysCheap_142 143 rfl rfl rfl (by omega) (by omega) (fun v160 ev160 => ?_)
                          refine pv_iload_n (M := mX12_laysCheap) 3 dX12_laysCheap_143 144 rfl rfl rfl ?_
                          refine iv_iast (M := mX12_laysCheap) (X := v160.toInt) dX12_laysCheap_144 (tl153 hT) rfl (by omega) (by omega) I19 (fun _ => rfl) (show (0 : Int) ≤ v158.toInt by omega) (show v158.toInt ≤ (1999999998 : Int) by omega) 145 rfl (fun m161 e164 I162 => ?_)
                          have K163 := K20.set e164 rfl
                          have w165 : (m161 123 40).toInt = (m17 123 40).toInt := by rw [e164, up2_ne (by omega)]
                          have w166 : (m161 123 41).toInt = (m17 123 41).toInt := by rw [e164, up2_ne (by omega)]
                          refine iv_inc (M := mX12_laysCheap) (C := (-1)) dX12_laysCheap_145 148 rfl rfl (by decide) rfl rfl (by decide) (by omega) (by omega) (fun v167 ev167 => ?_)
                          show PV _ _ _ _ _ _ _ 148 [.ref 123, .int y2, .int v167, .int v158] [] _
                          refine pv_goto (M := mX12_laysCheap) (tgt := 14) dX12_laysCheap_148 (by decide) ?_
                          refine pv_fg (lo2 := [.ref 123, .int y2, .int v167, pv_U]) ⟨Or.inr rfl, ⟨Or.inr rfl, ⟨Or.inr rfl, ⟨Or.inl rfl, trivial⟩⟩⟩⟩ ?_
                          exact ih23 v167 m161 n18 (by first | omega | decide) (by first | omega | decide) (by first | omega | decide) (by first | omega | decide) I162 K163 (by omega)
                · have c104 := iv_eq (X := y16.toInt) (Y := v103.toInt) c104 rfl rfl
                  refine pv_iconst (M := mX12_laysCheap) (v := 0) dX12_laysCheap_34 35 rfl (by decide) ?_
                  refine pv_goto (M := mX12_laysCheap) (tgt := 66) dX12_laysCheap_35 (by decide) ?_
                  refine pv_istore_n (M := mX12_laysCheap) 3 (lo2 := [.ref 123, .int y2, .int y16, .int 0]) dX12_laysCheap_66 67 rfl rfl (by decide) rfl rfl ?_
                  refine pv_iload_n (M := mX12_laysCheap) 1 dX12_laysCheap_67 68 rfl rfl rfl ?_
                  refine pv_aload_n (M := mX12_laysCheap) 0 dX12_laysCheap_68 69 rfl rfl rfl ?_
                  refine iv_get (M := mX12_laysCheap) dX12_laysCheap_69 FX12 40 wd1213 (by decide) (tl123 hT) rfl I19 rfl 72 rfl (fun v168 ev168 pv168 qv168 => ?_)
                  have pv168 : 0 ≤ v168.toInt := pv168
                  have qv168 : v168.toInt ≤ 40 := qv168
                  have wv168 : v168.toInt = (m17 123 40).toInt := congrArg Int32.toInt ev168
                  refine pv_icmp_ge (M := mX12_laysCheap) (tgt := 133) dX12_laysCheap_72 75 rfl (by decide) (fun c169 => ?_) (fun c169 => ?_)
                  · have c169 := iv_le (X := v168.toInt) (Y := y2.toInt) c169 rfl rfl
                    refine pv_aload_n (M := mX12_laysCheap) 0 dX12_laysCheap_133 134 rfl rfl rfl ?_
                    refine mv_get (M := mX12_laysCheap) (v := .ref 153) dX12_laysCheap_134 FX12 46 wd1219 (by decide) (tl123 hT) rfl rfl 137 rfl ?_
                    refine pv_bipush (M := mX12_laysCheap) (v := 17) dX12_laysCheap_137 139 rfl (by decide) ?_
                    refine pv_iload_n (M := mX12_laysCheap) 1 dX12_laysCheap_139 140 rfl rfl rfl ?_
                    refine iv_imul (M := mX12_laysCheap) (X := 17) (Y := y2.toInt) dX12_laysCheap_140 141 rfl (by decide) rfl (by omega) (by omega) (fun v170 ev170 => ?_)
                    refine pv_iload_n (M := mX12_laysCheap) 2 dX12_laysCheap_141 142 rfl rfl rfl ?_
                    refine iv_iadd (M := mX12_laysCheap) (X := v170.toInt) (Y := y16.toInt) dX12_laysCheap_142 143 rfl rfl rfl (by omega) (by omega) (fun v171 ev171 => ?_)
                    refine pv_iload_n (M := mX12_laysCheap) 3 dX12_laysCheap_143 144 rfl rfl rfl ?_
                    refine iv_iast (M := mX12_laysCheap) (X := v171.toInt) dX12_laysCheap_144 (tl153 hT) rfl (by omega) (by omega) I19 (fun _ => rfl) (by decide) (by decide) 145 rfl (fun m172 e175 I173 => ?_)
                    have K174 := K20.set e175 rfl
                    have w176 : (m172 123 40).toInt = (m17 123 40).toInt := by rw [e175, up2_ne (by omega)]
                    have w177 : (m172 123 41).toInt = (m17 123 41).toInt := by rw [e175, up2_ne (by omega)]
                    refine iv_inc (M := mX12_laysCheap) (C := (-1)) dX12_laysCheap_145 148 rfl rfl (by decide) rfl rfl (by decide) (by omega) (by omega) (fun v178 ev178 => ?_)
                    show PV _ _ _ _ _ _ _ 148 [.ref 123, .int y2, .int v178, .int 0] [] _
                    refine pv_goto (M := mX12_laysCheap) (tgt := 14) dX12_laysCheap_148 (by decide) ?_
                    refine pv_fg (lo2 := [.ref 123, .int y2, .int v178, pv_U]) ⟨Or.inr rfl, ⟨Or.inr rfl, ⟨Or.inr rfl, ⟨Or.inl rfl, trivial⟩⟩⟩⟩ ?_
                    exact ih23 v178 m172 n18 (by first | omega | decide) (by first | omega | decide) (by first | omega | decide) (by first | omega | decide) I173 K174 (by omega)
                  · have c169 := iv_nle (X := v168.toInt) (Y := y2.toInt) c169 rfl rfl
                    refine pv_iload_n (M := mX12_laysCheap) 2 dX12_laysCheap_75 76 rfl rfl rfl ?_
                    refine pv_aload_n (M := mX12_laysCheap) 0 dX12_laysCheap_76 77 rfl rfl rfl ?_
                    refine iv_get (M := mX12_laysCheap) dX12_laysCheap_77 FX12 41 wd1214 (by decide) (tl123 hT) rfl I19 rfl 80 rfl (fun v179 ev179 pv179 qv179 => ?_)
                    have pv179 : 0 ≤ v179.toInt := pv179
                    have qv179 : v179.toInt ≤ 16 := qv179
                    have wv179 : v179.toInt = (m17 123 41).toInt := congrArg Int32.toInt ev179
                    refine pv_icmp_ge (M := mX12_laysCheap) (tgt := 133) dX12_laysCheap_80 83 rfl (by decide) (fun c180 => ?_) (fun c180 => ?_)
                    · have c180 := iv_le (X := v179.toInt) (Y := y16.toInt) c180 rfl rfl
                      refine pv_aload_n (M := mX12_laysCheap) 0 dX12_laysCheap_133 134 rfl rfl rfl ?_
                      refine mv_get (M := mX12_laysCheap) (v := .ref 153) dX12_laysCheap_134 FX12 46 wd1219 (by decide) (tl123 hT) rfl rfl 137 rfl ?_
                      refine pv_bipush (M := mX12_laysCheap) (v := 17) dX12_laysCheap_137 139 rfl (by decide) ?_
                      refine pv_iload_n (M := mX12_laysCheap) 1 dX12_laysCheap_139 140 rfl rfl rfl ?_
                      refine iv_imul (M := mX12_laysCheap) (X := 17) (Y := y2.toInt) dX12_laysCheap_140 141 rfl (by decide) rfl (by omega) (by omega) (fun v181 ev181 => ?_)
                      refine pv_iload_n (M := mX12_laysCheap) 2 dX12_laysCheap_141 142 rfl rfl rfl ?_
                      refine iv_iadd (M := mX12_laysCheap) (X := v181.toInt) (Y := y16.toInt) dX12_laysCheap_142 143 rfl rfl rfl (by omega) (by omega) (fun v182 ev182 => ?_)
                      refine pv_iload_n (M := mX12_laysCheap) 3 dX12_laysCheap_143 144 rfl rfl rfl ?_
                      refine iv_iast (M := mX12_laysCheap) (X := v182.toInt) dX12_laysCheap_144 (tl153 hT) rfl (by omega) (by omega) I19 (fun _ => rfl) (by decide) (by decide) 145 rfl (fun m183 e186 I184 => ?_)
                      have K185 := K20.set e186 rfl
                      have w187 : (m183 123 40).toInt = (m17 123 40).toInt := by rw [e186, up2_ne (by omega)]
                      have w188 : (m183 123 41).toInt = (m17 123 41).toInt := by rw [e186, up2_ne (by omega)]
                      refine iv_inc (M := mX12_laysCheap) (C := (-1)) dX12_laysCheap_145 148 rfl rfl (by decide) rfl rfl (by decide) (by omega) (by omega) (fun v189 ev189 => ?_)
                      show PV _ _ _ _ _ _ _ 148 [.ref 123, .int y2, .int v189, .int 0] [] _
                      refine pv_goto (M := mX12_laysCheap) (tgt := 14) dX12_laysCheap_148 (by decide) ?_
                      refine pv_fg (lo2 := [.ref 123, .int y2, .int v189, pv_U]) ⟨Or.inr rfl, ⟨Or.inr rfl, ⟨Or.inr rfl, ⟨Or.inl rfl, trivial⟩⟩⟩⟩ ?_
                      exact ih23 v189 m183 n18 (by first | omega | decide) (by first | omega | decide) (by first | omega | decide) (by first | omega | decide) I184 K185 (by omega)
                    · have c180 := iv_nle (X := v179.toInt) (Y := y16.toInt) c180 rfl rfl
                      refine pv_aload_n (M := mX12_laysCheap) 0 dX12_laysCheap_83 84 rfl rfl rfl ?_
                      refine mv_get (M := mX12_laysCheap) (v := .ref 149) dX12_laysCheap_84 FX12 42 wd1215 (by decide) (tl123 hT) rfl rfl 87 rfl ?_
                      refine pv_iload_n (M := mX12_laysCheap) 1 dX12_laysCheap_87 88 rfl rfl rfl ?_
                      refine iv_iald (M := mX12_laysCheap) (X := y2.toInt) dX12_laysCheap_88 (tl149 hT) rfl (by omega) (by omega) I19 (fun _ => rfl) 89 rfl (fun v190 ev190 pv190 qv190 => ?_)
                      have pv190 : 0 ≤ v190.toInt := pv190
                      have qv190 : v190.toInt ≤ 25 := qv190
                      refine pv_aload_n (M := mX12_laysCheap) 0 dX12_laysCheap_89 90 rfl rfl rfl ?_
                      refine mv_get (M := mX12_laysCheap) (v := .ref 150) dX12_laysCheap_90 FX12 43 wd1216 (by decide) (tl123 hT) rfl rfl 93 rfl ?_
                      refine pv_iload_n (M := mX12_laysCheap) 2 dX12_laysCheap_93 94 rfl rfl rfl ?_
                      refine iv_iald (M := mX12_laysCheap) (X := y16.toInt) dX12_laysCheap_94 (tl150 hT) rfl (by omega) (by omega) I19 (fun _ => rfl) 95 rfl (fun v191 ev191 pv191 qv191 => ?_)
                      have pv191 : 0 ≤ v191.toInt := pv191
                      have qv191 : v191.toInt ≤ 25 := qv191
                      refine pv_icmp_ne (M := mX12_laysCheap) (tgt := 133) dX12_laysCheap_95 98 rfl (by decide) (fun c192 => ?_) (fun c192 => ?_)
                      · have c192 := iv_ne (X := v190.toInt) (Y := v191.toInt) c192 rfl rfl
                        refine pv_aload_n (M := mX12_laysCheap) 0 dX12_laysCheap_133 134 rfl rfl rfl ?_
                        refine mv_get (M := mX12_laysCheap) (v := .ref 153) dX12_laysCheap_134 FX12 46 wd1219 (by decide) (tl123 hT) rfl rfl 137 rfl ?_
                        refine pv_bipush (M := mX12_laysCheap) (v := 17) dX12_laysCheap_137 139 rfl (by decide) ?_
                        refine pv_iload_n (M := mX12_laysCheap) 1 dX12_laysCheap_139 140 rfl rfl rfl ?_
                        refine iv_imul (M := mX12_laysCheap) (X := 17) (Y := y2.toInt) dX12_laysCheap_140 141 rfl (by decide) rfl (by omega) (by omega) (fun v193 ev193 => ?_)
                        refine pv_iload_n (M := mX12_laysCheap) 2 dX12_laysCheap_141 142 rfl rfl rfl ?_
                        refine iv_iadd (M := mX12_laysCheap) (X := v193.toInt) (Y := y16.toInt) dX12_laysCheap_142 143 rfl rfl rfl (by omega) (by omega) (fun v194 ev194 => ?_)
                        refine pv_iload_n (M := mX12_laysCheap) 3 dX12_laysCheap_143 144 rfl rfl rfl ?_
                        refine iv_iast (M := mX12_laysCheap) (X := v194.toInt) dX12_laysCheap_144 (tl153 hT) rfl (by omega) (by omega) I19 (fun _ => rfl) (by decide) (by decide) 145 rfl (fun m195 e198 I196 => ?_)
                        have K197 := K20.set e198 rfl
                        have w199 : (m195 123 40).toInt = (m17 123 40).toInt := by rw [e198, up2_ne (by omega)]
                        have w200 : (m195 123 41).toInt = (m17 123 41).toInt := by rw [e198, up2_ne (by omega)]
                        refine iv_inc (M := mX12_laysCheap) (C := (-1)) dX12_laysCheap_145 148 rfl rfl (by decide) rfl rfl (by decide) (by omega) (by omega) (fun v201 ev201 => ?_)
                        show PV _ _ _ _ _ _ _ 148 [.ref 123, .int y2, .int v201, .int 0] [] _
                        refine pv_goto (M := mX12_laysCheap) (tgt := 14) dX12_laysCheap_148 (by decide) ?_
                        refine pv_fg (lo2 := [.ref 123, .int y2, .int v201, pv_U]) ⟨Or.inr rfl, ⟨Or.inr rfl, ⟨Or.inr rfl, ⟨Or.inl rfl, trivial⟩⟩⟩⟩ ?_
                        exact ih23 v201 m195 n18 (by first | omega | decide) (by first | omega | decide) (by first | omega | decide) (by first | omega | decide) I196 K197 (by omega)
                      · have c192 := iv_eq (X := v190.toInt) (Y := v191.toInt) c192 rfl rfl
                        refine pv_aload_n (M := mX12_laysCheap) 0 dX12_laysCheap_98 99 rfl rfl rfl ?_
                        refine mv_get (M := mX12_laysCheap) (v := .ref 153) dX12_laysCheap_99 FX12 46 wd1219 (by decide) (tl123 hT) rfl rfl 102 rfl ?_
                        refine pv_bipush (M := mX12_laysCheap) (v := 17) dX12_laysCheap_102 104 rfl (by decide) ?_
                        refine pv_iload_n (M := mX12_laysCheap) 1 dX12_laysCheap_104 105 rfl rfl rfl ?_
                        refine pv_iconst (M := mX12_laysCheap) (v := 1) dX12_laysCheap_105 106 rfl (by decide) ?_
                        refine iv_iadd (M := mX12_laysCheap) (X := y2.toInt) (Y := 1) dX12_laysCheap_106 107 rfl rfl (by decide) (by omega) (by omega) (fun v202 ev202 => ?_)
                        refine iv_imul (M := mX12_laysCheap) (X := 17) (Y := v202.toInt) dX12_laysCheap_107 108 rfl (by decide) rfl (by omega) (by omega) (fun v203 ev203 => ?_)
                        refine pv_iload_n (M := mX12_laysCheap) 2 dX12_laysCheap_108 109 rfl rfl rfl ?_
                        refine iv_iadd (M := mX12_laysCheap) (X := v203.toInt) (Y := y16.toInt) dX12_laysCheap_109 110 rfl rfl rfl (by omega) (by omega) (fun v204 ev204 => ?_)
                        refine pv_iconst (M := mX12_laysCheap) (v := 1) dX12_laysCheap_110 111 rfl (by decide) ?_
                        refine iv_iadd (M := mX12_laysCheap) (X := v204.toInt) (Y := 1) dX12_laysCheap_111 112 rfl rfl (by decide) (by omega) (by omega) (fun v205 ev205 => ?_)
                        refine iv_iald (M := mX12_laysCheap) (X := v205.toInt) dX12_laysCheap_112 (tl153 hT) rfl (by omega) (by omega) I19 (fun _ => rfl) 113 rfl (fun v206 ev206 pv206 qv206 => ?_)
                        have pv206 : 0 ≤ v206.toInt := pv206
                        have qv206 : v206.toInt ≤ 1999999998 := qv206
                        refine pv_iload_n (M := mX12_laysCheap) 3 dX12_laysCheap_113 114 rfl rfl rfl ?_
                        refine pv_icmp_ge (M := mX12_laysCheap) (tgt := 133) dX12_laysCheap_114 117 rfl (by decide) (fun c207 => ?_) (fun c207 => ?_)
                        · have c207 := iv_le (X := 0) (Y := v206.toInt) c207 (by decide) rfl
                          refine pv_aload_n (M := mX12_laysCheap) 0 dX12_laysCheap_133 134 rfl rfl rfl ?_
                          refine mv_get (M := mX12_laysCheap) (v := .ref 153) dX12_laysCheap_134 FX12 46 wd1219 (by decide) (tl123 hT) rfl rfl 137 rfl ?_
                          refine pv_bipush (M := mX12_laysCheap) (v := 17) dX12_laysCheap_137 139 rfl (by decide) ?_
                          refine pv_iload_n (M := mX12_laysCheap) 1 dX12_laysCheap_139 140 rfl rfl rfl ?_
                          refine iv_imul (M := mX12_laysCheap) (X := 17) (Y := y2.toInt) dX12_laysCheap_140 141 rfl (by decide) rfl (by omega) (by omega) (fun v208 ev208 => ?_)
                          refine pv_iload_n (M := mX12_laysCheap) 2 dX12_laysCheap_141 142 rfl rfl rfl ?_
                          refine iv_iadd (M := mX12_laysCheap) (X := v208.toInt) (Y := y16.toInt) dX12_laysCheap_142 143 rfl rfl rfl (by omega) (by omega) (fun v209 ev209 => ?_)
                          refine pv_iload_n (M := mX12_laysCheap) 3 dX12_laysCheap_143 144 rfl rfl rfl ?_
                          refine iv_iast (M := mX12_laysCheap) (X := v209.toInt) dX12_laysCheap_144 (tl153 hT) rfl (by omega) (by omega) I19 (fun _ => rfl) (by decide) (by decide) 145 rfl (fun m210 e213 I211 => ?_)
                          have K212 := K20.set e213 rfl
                          have w214 : (m210 123 40).toInt = (m17 123 40).toInt := by rw [e213, up2_ne (by omega)]
                          have w215 : (m210 123 41).toInt = (m17 123 41).toInt := by rw [e213, up2_ne (by omega)]
                          refine iv_inc (M := mX12_laysCheap) (C := (-1)) dX12_laysCheap_145 148 rfl rfl (by decide) rfl rfl (by decide) (by omega) (by omega) (fun v216 ev216 => ?_)
                          show PV _ _ _ _ _ _ _ 148 [.ref 123, .int y2, .int v216, .int 0] [] _
                          refine pv_goto (M := mX12_laysCheap) (tgt := 14) dX12_laysCheap_148 (by decide) ?_
                          refine pv_fg (lo2 := [.ref 123, .int y2, .int v216, pv_U]) ⟨Or.inr rfl, ⟨Or.inr rfl, ⟨Or.inr rfl, ⟨Or.inl rfl, trivial⟩⟩⟩⟩ ?_
                          exact ih23 v216 m210 n18 (by first | omega | decide) (by first | omega | decide) (by first | omega | decide) (by first | omega | decide) I211 K212 (by omega)
                        · have c207 := iv_nle (X := 0) (Y := v206.toInt) c207 (by decide) rfl
                          refine pv_aload_n (M := mX12_laysCheap) 0 dX12_laysCheap_117 118 rfl rfl rfl ?_
                          refine mv_get (M := mX12_laysCheap) (v := .ref 153) dX12_laysCheap_118 FX12 46 wd1219 (by decide) (tl123 hT) rfl rfl 121 rfl ?_
                          refine pv_bipush (M := mX12_laysCheap) (v := 17) dX12_laysCheap_121 123 rfl (by decide) ?_
                          refine pv_iload_n (M := mX12_laysCheap) 1 dX12_laysCheap_123 124 rfl rfl rfl ?_
                          refine pv_iconst (M := mX12_laysCheap) (v := 1) dX12_laysCheap_124 125 rfl (by decide) ?_
                          refine iv_iadd (M := mX12_laysCheap) (X := y2.toInt) (Y := 1) dX12_laysCheap_125 126 rfl rfl (by decide) (by omega) (by omega) (fun v217 ev217 => ?_)
                          refine iv_imul (M := mX12_laysCheap) (X := 17) (Y := v217.toInt) dX12_laysCheap_126 127 rfl (by decide) rfl (by omega) (by omega) (fun v218 ev218 => ?_)
                          refine pv_iload_n (M := mX12_laysCheap) 2 dX12_laysCheap_127 128 rfl rfl rfl ?_
                          refine iv_iadd (M := mX12_laysCheap) (X := v218.toInt) (Y := y16.toInt) dX12_laysCheap_128 129 rfl rfl rfl (by omega) (by omega) (fun v219 ev219 => ?_)
                          refine pv_iconst (M := mX12_laysCheap) (v := 1) dX12_laysCheap_129 130 rfl (by decide) ?_
                          refine iv_iadd (M := mX12_laysCheap) (X := v219.toInt) (Y := 1) dX12_laysCheap_130 131 rfl rfl (by decide) (by omega) (by omega) (fun v220 ev220 => ?_)
                          refine iv_iald (M := mX12_laysCheap) (X := v220.toInt) dX12_laysCheap_131 (tl153 hT) rfl (by omega) (by omega) I19 (fun _ => rfl) 132 rfl (fun v221 ev221 pv221 qv221 => ?_)
                          have pv221 : 0 ≤ v221.toInt := pv221
                          have qv221 : v221.toInt ≤ 1999999998 := qv221
                          refine pv_istore_n (M := mX12_laysCheap) 3 (lo2 := [.ref 123, .int y2, .int y16, .int v221]) dX12_laysCheap_132 133 rfl rfl (by decide) rfl rfl ?_
                          refine pv_aload_n (M := mX12_laysCheap) 0 dX12_laysCheap_133 134 rfl rfl rfl ?_
                          refine mv_get (M := mX12_laysCheap) (v := .ref 153) dX12_laysCheap_134 FX12 46 wd1219 (by decide) (tl123 hT) rfl rfl 137 rfl ?_
                          refine pv_bipush (M := mX12_laysCheap) (v := 17) dX12_laysCheap_137 139 rfl (by decide) ?_
                          refine pv_iload_n (M := mX12_laysCheap) 1 dX12_laysCheap_139 140 rfl rfl rfl ?_
                          refine iv_imul (M := mX12_laysCheap) (X := 17) (Y := y2.toInt) dX12_laysCheap_140 141 rfl (by decide) rfl (by omega) (by omega) (fun v222 ev222 => ?_)
                          refine pv_iload_n (M := mX12_laysCheap) 2 dX12_laysCheap_141 142 rfl rfl rfl ?_
                          refine iv_iadd (M := mX12_laysCheap) (X := v222.toInt) (Y := y16.toInt) dX12_laysCheap_142 143 rfl rfl rfl (by omega) (by omega) (fun v223 ev223 => ?_)
                          refine pv_iload_n (M := mX12_laysCheap) 3 dX12_laysCheap_143 144 rfl rfl rfl ?_
                          refine iv_iast (M := mX12_laysCheap) (X := v223.toInt) dX12_laysCheap_144 (tl153 hT) rfl (by omega) (by omega) I19 (fun _ => rfl) (show (0 : Int) ≤ v221.toInt by omega) (show v221.toInt ≤ (1999999998 : Int) by omega) 145 rfl (fun m224 e227 I225 => ?_)
                          have K226 := K20.set e227 rfl
                          have w228 : (m224 123 40).toInt = (m17 123 40).toInt := by rw [e227, up2_ne (by omega)]
                          have w229 : (m224 123 41).toInt = (m17 123 41).toInt := by rw [e227, up2_ne (by omega)]
                          refine iv_inc (M := mX12_laysCheap) (C := (-1)) dX12_laysCheap_145 148 rfl rfl (by decide) rfl rfl (by decide) (by omega) (by omega) (fun v230 ev230 => ?_)
                          show PV _ _ _ _ _ _ _ 148 [.ref 123, .int y2, .int v230, .int v221] [] _
                          refine pv_goto (M := mX12_laysCheap) (tgt := 14) dX12_laysCheap_148 (by decide) ?_
                          refine pv_fg (lo2 := [.ref 123, .int y2, .int v230, pv_U]) ⟨Or.inr rfl, ⟨Or.inr rfl, ⟨Or.inr rfl, ⟨Or.inl rfl, trivial⟩⟩⟩⟩ ?_
                          exact ih23 v230 m224 n18 (by first | omega | decide) (by first | omega | decide) (by first | omega | decide) (by first | omega | decide) I225 K226 (by omega)
        exact lp22 (((v15.toInt - (-1)) : Int).toNat + 1) v15 m3 n4 (by first | omega | decide) (by first | omega | decide) (by first | omega | decide) (by first | omega | decide) I5 K6 (by omega)
  exact lp8 (((v1.toInt - (-1)) : Int).toNat + 1) v1 m n (by first | omega | decide) (by first | omega | decide) (by first | omega | decide) I Kp (by omega)

set_option maxHeartbeats 1000000 in
set_option maxRecDepth 20000 in
theorem s_X12_laysStays (g : pv_G) {T : List mv_T} {m : Nat → Nat → Int32} {n : Nat → Nat → Int64} {r : Nat → Value} (hT : TX T) (I : IV BB m) : PM g mX12_laysStays yX12_laysStays (sqV T BB r m) 1 0 0 [.ref 123] (mk T m n r) := by
  have Kp : kp m m := kp.rf
  refine PM.of 2 (lo := [.ref 123, pv_U, pv_U]) rfl (by decide) rfl rfl (Nat.le_of_ble_eq_true rfl) ?_
  refine pv_iconst (M := mX12_laysStays) (v := 0) dX12_laysStays_0 1 rfl (by decide) ?_
  refine pv_istore_n (M := mX12_laysStays) 1 (lo2 := [.ref 123, .int 0, pv_U]) dX12_laysStays_1 2 rfl rfl (by decide) rfl rfl ?_
  refine pv_iconst (M := mX12_laysStays) (v := 0) dX12_laysStays_2 3 rfl (by decide) ?_
  refine pv_istore_n (M := mX12_laysStays) 2 (lo2 := [.ref 123, .int 0, .int 0]) dX12_laysStays_3 4 rfl rfl (by decide) rfl rfl ?_
  have lp8 : ∀ (fuel7 : Nat) (y1 : Int32) (y2 : Int32) (m3 : Nat → Nat → Int32) (n4 : Nat → Nat → Int64), (0 ≤ y1.toInt) → (y1.toInt ≤ 16) → (0 ≤ y2.toInt) → (y2.toInt ≤ 40) → IV BB m3 → kp m m3 → ((40 - y2.toInt) : Int).toNat < fuel7 → PV none g mX12_laysStays (sqV T BB r m) 1 0 0 4 [.ref 123, .int y1, .int y2] [] (mk T m3 n4 r) := by
    intro fuel7
    induction fuel7 with
    | zero => intro y1 y2 m3 n4 b10 b11 b12 b13 I5 K6 z14; omega
    | succ fuel7 ih9 =>
      intro y1 y2 m3 n4 b10 b11 b12 b13 I5 K6 z14
      refine pv_iload_n (M := mX12_laysStays) 2 dX12_laysStays_4 5 rfl rfl rfl ?_
      refine pv_aload_n (M := mX12_laysStays) 0 dX12_laysStays_5 6 rfl rfl rfl ?_
      refine iv_get (M := mX12_laysStays) dX12_laysStays_6 FX12 40 wd1213 (by decide) (tl123 hT) rfl I5 rfl 9 rfl (fun v15 ev15 pv15 qv15 => ?_)
      have pv15 : 0 ≤ v15.toInt := pv15
      have qv15 : v15.toInt ≤ 40 := qv15
      refine pv_icmp_ge (M := mX12_laysStays) (tgt := 84) dX12_laysStays_9 12 rfl (by decide) (fun c16 => ?_) (fun c16 => ?_)
      · have c16 := iv_le (X := v15.toInt) (Y := y2.toInt) c16 rfl rfl
        exact pv_vret (M := mX12_laysStays) dX12_laysStays_84 rfl ⟨_, _, rfl, rfl, I5, K6⟩
      · have c16 := iv_nle (X := v15.toInt) (Y := y2.toInt) c16 rfl rfl
        refine pv_iload_n (M := mX12_laysStays) 1 dX12_laysStays_12 13 rfl rfl rfl ?_
        refine pv_aload_n (M := mX12_laysStays) 0 dX12_laysStays_13 14 rfl rfl rfl ?_
        refine iv_get (M := mX12_laysStays) dX12_laysStays_14 FX12 41 wd1214 (by decide) (tl123 hT) rfl I5 rfl 17 rfl (fun v17 ev17 pv17 qv17 => ?_)
        have pv17 : 0 ≤ v17.toInt := pv17
        have qv17 : v17.toInt ≤ 16 := qv17
        refine pv_icmp_ge (M := mX12_laysStays) (tgt := 84) dX12_laysStays_17 20 rfl (by decide) (fun c18 => ?_) (fun c18 => ?_)
        · have c18 := iv_le (X := v17.toInt) (Y := y1.toInt) c18 rfl rfl
          exact pv_vret (M := mX12_laysStays) dX12_laysStays_84 rfl ⟨_, _, rfl, rfl, I5, K6⟩
        · have c18 := iv_nle (X := v17.toInt) (Y := y1.toInt) c18 rfl rfl
          refine pv_aload_n (M := mX12_laysStays) 0 dX12_laysStays_20 21 rfl rfl rfl ?_
          refine mv_get (M := mX12_laysStays) (v := .ref 149) dX12_laysStays_21 FX12 42 wd1215 (by decide) (tl123 hT) rfl rfl 24 rfl ?_
          refine pv_iload_n (M := mX12_laysStays) 2 dX12_laysStays_24 25 rfl rfl rfl ?_
          refine iv_iald (M := mX12_laysStays) (X := y2.toInt) dX12_laysStays_25 (tl149 hT) rfl (by omega) (by omega) I5 (fun _ => rfl) 26 rfl (fun v19 ev19 pv19 qv19 => ?_)
          have pv19 : 0 ≤ v19.toInt := pv19
          have qv19 : v19.toInt ≤ 25 := qv19
          refine pv_aload_n (M := mX12_laysStays) 0 dX12_laysStays_26 27 rfl rfl rfl ?_
          refine mv_get (M := mX12_laysStays) (v := .ref 150) dX12_laysStays_27 FX12 43 wd1216 (by decide) (tl123 hT) rfl rfl 30 rfl ?_
          refine pv_iload_n (M := mX12_laysStays) 1 dX12_laysStays_30 31 rfl rfl rfl ?_
          refine iv_iald (M := mX12_laysStays) (X := y1.toInt) dX12_laysStays_31 (tl150 hT) rfl (by omega) (by omega) I5 (fun _ => rfl) 32 rfl (fun v20 ev20 pv20 qv20 => ?_)
          have pv20 : 0 ≤ v20.toInt := pv20
          have qv20 : v20.toInt ≤ 25 := qv20
          refine pv_icmp_ne (M := mX12_laysStays) (tgt := 78) dX12_laysStays_32 35 rfl (by decide) (fun c21 => ?_) (fun c21 => ?_)
          · have c21 := iv_ne (X := v19.toInt) (Y := v20.toInt) c21 rfl rfl
            refine iv_inc (M := mX12_laysStays) (C := 1) dX12_laysStays_78 81 rfl rfl (by decide) rfl rfl (by decide) (by omega) (by omega) (fun v22 ev22 => ?_)
            show PV _ _ _ _ _ _ _ 81 [.ref 123, .int y1, .int v22] [] _
            refine pv_goto (M := mX12_laysStays) (tgt := 4) dX12_laysStays_81 (by decide) ?_
            exact ih9 y1 v22 m3 n4 (by first | omega | decide) (by first | omega | decide) (by first | omega | decide) (by first | omega | decide) I5 K6 (by omega)
          · have c21 := iv_eq (X := v19.toInt) (Y := v20.toInt) c21 rfl rfl
            refine pv_aload_n (M := mX12_laysStays) 0 dX12_laysStays_35 36 rfl rfl rfl ?_
            refine mv_get (M := mX12_laysStays) (v := .ref 153) dX12_laysStays_36 FX12 46 wd1219 (by decide) (tl123 hT) rfl rfl 39 rfl ?_
            refine pv_bipush (M := mX12_laysStays) (v := 17) dX12_laysStays_39 41 rfl (by decide) ?_
            refine pv_iload_n (M := mX12_laysStays) 2 dX12_laysStays_41 42 rfl rfl rfl ?_
            refine pv_iconst (M := mX12_laysStays) (v := 1) dX12_laysStays_42 43 rfl (by decide) ?_
            refine iv_iadd (M := mX12_laysStays) (X := y2.toInt) (Y := 1) dX12_laysStays_43 44 rfl rfl (by decide) (by omega) (by omega) (fun v23 ev23 => ?_)
            refine iv_imul (M := mX12_laysStays) (X := 17) (Y := v23.toInt) dX12_laysStays_44 45 rfl (by decide) rfl (by omega) (by omega) (fun v24 ev24 => ?_)
            refine pv_iload_n (M := mX12_laysStays) 1 dX12_laysStays_45 46 rfl rfl rfl ?_
            refine iv_iadd (M := mX12_laysStays) (X := v24.toInt) (Y := y1.toInt) dX12_laysStays_46 47 rfl rfl rfl (by omega) (by omega) (fun v25 ev25 => ?_)
            refine pv_iconst (M := mX12_laysStays) (v := 1) dX12_laysStays_47 48 rfl (by decide) ?_
            refine iv_iadd (M := mX12_laysStays) (X := v25.toInt) (Y := 1) dX12_laysStays_48 49 rfl rfl (by decide) (by omega) (by omega) (fun v26 ev26 => ?_)
            refine iv_iald (M := mX12_laysStays) (X := v26.toInt) dX12_laysStays_49 (tl153 hT) rfl (by omega) (by omega) I5 (fun _ => rfl) 50 rfl (fun v27 ev27 pv27 qv27 => ?_)
            have pv27 : 0 ≤ v27.toInt := pv27
            have qv27 : v27.toInt ≤ 1999999998 := qv27
            refine pv_aload_n (M := mX12_laysStays) 0 dX12_laysStays_50 51 rfl rfl rfl ?_
            refine mv_get (M := mX12_laysStays) (v := .ref 153) dX12_laysStays_51 FX12 46 wd1219 (by decide) (tl123 hT) rfl rfl 54 rfl ?_
            refine pv_bipush (M := mX12_laysStays) (v := 17) dX12_laysStays_54 56 rfl (by decide) ?_
            refine pv_iload_n (M := mX12_laysStays) 2 dX12_laysStays_56 57 rfl rfl rfl ?_
            refine iv_imul (M := mX12_laysStays) (X := 17) (Y := y2.toInt) dX12_laysStays_57 58 rfl (by decide) rfl (by omega) (by omega) (fun v28 ev28 => ?_)
            refine pv_iload_n (M := mX12_laysStays) 1 dX12_laysStays_58 59 rfl rfl rfl ?_
            refine iv_iadd (M := mX12_laysStays) (X := v28.toInt) (Y := y1.toInt) dX12_laysStays_59 60 rfl rfl rfl (by omega) (by omega) (fun v29 ev29 => ?_)
            refine iv_iald (M := mX12_laysStays) (X := v29.toInt) dX12_laysStays_60 (tl153 hT) rfl (by omega) (by omega) I5 (fun _ => rfl) 61 rfl (fun v30 ev30 pv30 qv30 => ?_)
            have pv30 : 0 ≤ v30.toInt := pv30
            have qv30 : v30.toInt ≤ 1999999998 := qv30
            refine pv_icmp_eq (M := mX12_laysStays) (tgt := 67) dX12_laysStays_61 64 rfl (by decide) (fun c31 => ?_) (fun c31 => ?_)
            · have c31 := iv_eq (X := v27.toInt) (Y := v30.toInt) c31 rfl rfl
              refine pv_aload_n (M := mX12_laysStays) 0 dX12_laysStays_67 68 rfl rfl rfl ?_
              refine mv_get (M := mX12_laysStays) (v := .ref 154) dX12_laysStays_68 FX12 47 wd1220 (by decide) (tl123 hT) rfl rfl 71 rfl ?_
              refine pv_iload_n (M := mX12_laysStays) 1 dX12_laysStays_71 72 rfl rfl rfl ?_
              refine pv_iload_n (M := mX12_laysStays) 2 dX12_laysStays_72 73 rfl rfl rfl ?_
              refine iv_iast (M := mX12_laysStays) (X := y1.toInt) dX12_laysStays_73 (tl154 hT) rfl (by omega) (by omega) I5 (fun _ => rfl) (show (0 : Int) ≤ y2.toInt by omega) (show y2.toInt ≤ (39 : Int) by omega) 74 rfl (fun m32 e35 I33 => ?_)
              have K34 := K6.set e35 rfl
              refine pv_iload_n (M := mX12_laysStays) 1 dX12_laysStays_74 75 rfl rfl rfl ?_
              refine pv_iconst (M := mX12_laysStays) (v := 1) dX12_laysStays_75 76 rfl (by decide) ?_
              refine iv_iadd (M := mX12_laysStays) (X := y1.toInt) (Y := 1) dX12_laysStays_76 77 rfl rfl (by decide) (by omega) (by omega) (fun v36 ev36 => ?_)
              refine pv_istore_n (M := mX12_laysStays) 1 (lo2 := [.ref 123, .int v36, .int y2]) dX12_laysStays_77 78 rfl rfl (by decide) rfl rfl ?_
              refine iv_inc (M := mX12_laysStays) (C := 1) dX12_laysStays_78 81 rfl rfl (by decide) rfl rfl (by decide) (by omega) (by omega) (fun v37 ev37 => ?_)
              show PV _ _ _ _ _ _ _ 81 [.ref 123, .int v36, .int v37] [] _
              refine pv_goto (M := mX12_laysStays) (tgt := 4) dX12_laysStays_81 (by decide) ?_
              exact ih9 v36 v37 m32 n4 (by first | omega | decide) (by first | omega | decide) (by first | omega | decide) (by first | omega | decide) I33 K34 (by omega)
            · have c31 := iv_ne (X := v27.toInt) (Y := v30.toInt) c31 rfl rfl
              refine pv_goto (M := mX12_laysStays) (tgt := 78) dX12_laysStays_64 (by decide) ?_
              refine iv_inc (M := mX12_laysStays) (C := 1) dX12_laysStays_78 81 rfl rfl (by decide) rfl rfl (by decide) (by omega) (by omega) (fun v38 ev38 => ?_)
              show PV _ _ _ _ _ _ _ 81 [.ref 123, .int y1, .int v38] [] _
              refine pv_goto (M := mX12_laysStays) (tgt := 4) dX12_laysStays_81 (by decide) ?_
              exact ih9 y1 v38 m3 n4 (by first | omega | decide) (by first | omega | decide) (by first | omega | decide) (by first | omega | decide) I5 K6 (by omega)
  have z39 : (0 : Int32).toInt = 0 := by decide
  have z40 : (0 : Int32).toInt = 0 := by decide
  exact lp8 (((40 - 0) : Int).toNat + 1) 0 0 m n (by first | omega | decide) (by first | omega | decide) (by first | omega | decide) (by first | omega | decide) I Kp (by omega)

set_option maxHeartbeats 1000000 in
set_option maxRecDepth 20000 in
theorem s_X12_letterAt (g : pv_G) {T : List mv_T} {m : Nat → Nat → Int32} {n : Nat → Nat → Int64} {r : Nat → Value} (hT : TX T) (I : IV BB m) (x0 : Int32) (hl0 : 0 ≤ x0.toInt) (hh0 : x0.toInt ≤ 3) (x1 : Int32) (hl1 : 0 ≤ x1.toInt) (hh1 : x1.toInt ≤ 17) : PM g mX12_letterAt yX12_letterAt (sqP (mk T m n r) (-1) 25 (fun v => True)) 1 0 0 [.ref 123, .int x0, .int x1] (mk T m n r) := by
  have Kp : kp m m := kp.rf
  refine PM.of 0 (lo := [.ref 123, .int x0, .int x1]) rfl (by decide) rfl rfl (Nat.le_of_ble_eq_true rfl) ?_
  refine pv_iload_n (M := mX12_letterAt) 2 dX12_letterAt_0 1 rfl rfl rfl ?_
  refine pv_aload_n (M := mX12_letterAt) 0 dX12_letterAt_1 2 rfl rfl rfl ?_
  refine mv_get (M := mX12_letterAt) (v := .ref 126) dX12_letterAt_2 FX12 7 wd1180 (by decide) (tl123 hT) rfl rfl 5 rfl ?_
  refine pv_aload_n (M := mX12_letterAt) 0 dX12_letterAt_5 6 rfl rfl rfl ?_
  refine mv_get (M := mX12_letterAt) (v := .ref 157) dX12_letterAt_6 FX12 51 wd1224 (by decide) (tl123 hT) rfl rfl 9 rfl ?_
  refine pv_iload_n (M := mX12_letterAt) 1 dX12_letterAt_9 10 rfl rfl rfl ?_
  refine iv_iald (M := mX12_letterAt) (X := x0.toInt) dX12_letterAt_10 (tl157 hT) rfl (by omega) (by omega) I (fun _ => rfl) 11 rfl (fun v1 ev1 pv1 qv1 => ?_)
  have pv1 : 0 ≤ v1.toInt := pv1
  have qv1 : v1.toInt ≤ 7 := qv1
  refine iv_iald (M := mX12_letterAt) (X := v1.toInt) dX12_letterAt_11 (tl126 hT) rfl (by omega) (by omega) I (fun _ => rfl) 12 rfl (fun v2 ev2 pv2 qv2 => ?_)
  have pv2 : 0 ≤ v2.toInt := pv2
  have qv2 : v2.toInt ≤ 16 := qv2
  refine pv_icmp_ge (M := mX12_letterAt) (tgt := 34) dX12_letterAt_12 15 rfl (by decide) (fun c3 => ?_) (fun c3 => ?_)
  · have c3 := iv_le (X := v2.toInt) (Y := x1.toInt) c3 rfl rfl
    refine pv_iconst (M := mX12_letterAt) (v := (-1)) dX12_letterAt_34 35 rfl (by decide) ?_
    exact pv_iret (M := mX12_letterAt) dX12_letterAt_35 rfl rfl ⟨_, rfl, rfl, by decide, by decide, trivial⟩
  · have c3 := iv_nle (X := v2.toInt) (Y := x1.toInt) c3 rfl rfl
    refine pv_aload_n (M := mX12_letterAt) 0 dX12_letterAt_15 16 rfl rfl rfl ?_
    refine mv_get (M := mX12_letterAt) (v := .ref 127) dX12_letterAt_16 FX12 8 wd1181 (by decide) (tl123 hT) rfl rfl 19 rfl ?_
    refine pv_bipush (M := mX12_letterAt) (v := 16) dX12_letterAt_19 21 rfl (by decide) ?_
    refine pv_aload_n (M := mX12_letterAt) 0 dX12_letterAt_21 22 rfl rfl rfl ?_
    refine mv_get (M := mX12_letterAt) (v := .ref 157) dX12_letterAt_22 FX12 51 wd1224 (by decide) (tl123 hT) rfl rfl 25 rfl ?_
    refine pv_iload_n (M := mX12_letterAt) 1 dX12_letterAt_25 26 rfl rfl rfl ?_
    refine iv_iald (M := mX12_letterAt) (X := x0.toInt) dX12_letterAt_26 (tl157 hT) rfl (by omega) (by omega) I (fun _ => rfl) 27 rfl (fun v4 ev4 pv4 qv4 => ?_)
    have pv4 : 0 ≤ v4.toInt := pv4
    have qv4 : v4.toInt ≤ 7 := qv4
    refine iv_imul (M := mX12_letterAt) (X := 16) (Y := v4.toInt) dX12_letterAt_27 28 rfl (by decide) rfl (by omega) (by omega) (fun v5 ev5 => ?_)
    refine pv_iload_n (M := mX12_letterAt) 2 dX12_letterAt_28 29 rfl rfl rfl ?_
    refine iv_iadd (M := mX12_letterAt) (X := v5.toInt) (Y := x1.toInt) dX12_letterAt_29 30 rfl rfl rfl (by omega) (by omega) (fun v6 ev6 => ?_)
    refine iv_iald (M := mX12_letterAt) (X := v6.toInt) dX12_letterAt_30 (tl127 hT) rfl (by omega) (by omega) I (fun _ => rfl) 31 rfl (fun v7 ev7 pv7 qv7 => ?_)
    have pv7 : 0 ≤ v7.toInt := pv7
    have qv7 : v7.toInt ≤ 25 := qv7
    refine pv_goto (M := mX12_letterAt) (tgt := 35) dX12_letterAt_31 (by decide) ?_
    exact pv_iret (M := mX12_letterAt) dX12_letterAt_35 rfl rfl ⟨_, rfl, rfl, by omega, by omega, trivial⟩

set_option maxHeartbeats 1000000 in
set_option maxRecDepth 20000 in
theorem s_X12_hiddenAt (g : pv_G) {T : List mv_T} {m : Nat → Nat → Int32} {n : Nat → Nat → Int64} {r : Nat → Value} (hT : TX T) (I : IV BB m) (x0 : Int32) (hl0 : 0 ≤ x0.toInt) (hh0 : x0.toInt ≤ 16) (x1 : Int32) (hl1 : 0 ≤ x1.toInt) (hh1 : x1.toInt ≤ 16) (x2 : Int32) (hl2 : 0 ≤ x2.toInt) (hh2 : x2.toInt ≤ 16) : PM g mX12_hiddenAt yX12_hiddenAt (sqP (mk T m n r) 0 4912 (fun v => True)) 1 0 0 [.ref 123, .int x0, .int x1, .int x2] (mk T m n r) := by
  have Kp : kp m m := kp.rf
  refine PM.of 0 (lo := [.ref 123, .int x0, .int x1, .int x2]) rfl (by decide) rfl rfl (Nat.le_of_ble_eq_true rfl) ?_
  refine pv_bipush (M := mX12_hiddenAt) (v := 17) dX12_hiddenAt_0 2 rfl (by decide) ?_
  refine pv_iload_n (M := mX12_hiddenAt) 1 dX12_hiddenAt_2 3 rfl rfl rfl ?_
  refine iv_imul (M := mX12_hiddenAt) (X := 17) (Y := x0.toInt) dX12_hiddenAt_3 4 rfl (by decide) rfl (by omega) (by omega) (fun v1 ev1 => ?_)
  refine pv_iload_n (M := mX12_hiddenAt) 2 dX12_hiddenAt_4 5 rfl rfl rfl ?_
  refine iv_iadd (M := mX12_hiddenAt) (X := v1.toInt) (Y := x1.toInt) dX12_hiddenAt_5 6 rfl rfl rfl (by omega) (by omega) (fun v2 ev2 => ?_)
  refine pv_bipush (M := mX12_hiddenAt) (v := 17) dX12_hiddenAt_6 8 rfl (by decide) ?_
  refine iv_imul (M := mX12_hiddenAt) (X := v2.toInt) (Y := 17) dX12_hiddenAt_8 9 rfl rfl (by decide) (by omega) (by omega) (fun v3 ev3 => ?_)
  refine pv_iload_n (M := mX12_hiddenAt) 3 dX12_hiddenAt_9 10 rfl rfl rfl ?_
  refine iv_iadd (M := mX12_hiddenAt) (X := v3.toInt) (Y := x2.toInt) dX12_hiddenAt_10 11 rfl rfl rfl (by omega) (by omega) (fun v4 ev4 => ?_)
  exact pv_iret (M := mX12_hiddenAt) dX12_hiddenAt_11 rfl rfl ⟨_, rfl, rfl, by omega, by omega, trivial⟩

set_option maxHeartbeats 1000000 in
set_option maxRecDepth 20000 in
theorem s_X12_longOf (g : pv_G) {T : List mv_T} {m : Nat → Nat → Int32} {n : Nat → Nat → Int64} {r : Nat → Value} (hT : TX T) (I : IV BB m) (x0 : Int32) (hl0 : 0 ≤ x0.toInt) (hh0 : x0.toInt ≤ 4) : PM g mX12_longOf yX12_longOf (sqP (mk T m n r) 0 16 (fun v => True)) 1 0 0 [.ref 123, .int x0] (mk T m n r) := by
  have Kp : kp m m := kp.rf
  refine PM.of 0 (lo := [.ref 123, .int x0]) rfl (by decide) rfl rfl (Nat.le_of_ble_eq_true rfl) ?_
  refine pv_iload_n (M := mX12_longOf) 1 dX12_longOf_0 1 rfl rfl rfl ?_
  refine pv_aload_n (M := mX12_longOf) 0 dX12_longOf_1 2 rfl rfl rfl ?_
  refine iv_get (M := mX12_longOf) dX12_longOf_2 FX12 50 wd1223 (by decide) (tl123 hT) rfl I rfl 5 rfl (fun v1 ev1 pv1 qv1 => ?_)
  have pv1 : 0 ≤ v1.toInt := pv1
  have qv1 : v1.toInt ≤ 4 := qv1
  refine pv_icmp_ge (M := mX12_longOf) (tgt := 22) dX12_longOf_5 8 rfl (by decide) (fun c2 => ?_) (fun c2 => ?_)
  · have c2 := iv_le (X := v1.toInt) (Y := x0.toInt) c2 rfl rfl
    refine pv_iconst (M := mX12_longOf) (v := 0) dX12_longOf_22 23 rfl (by decide) ?_
    exact pv_iret (M := mX12_longOf) dX12_longOf_23 rfl rfl ⟨_, rfl, rfl, by decide, by decide, trivial⟩
  · have c2 := iv_nle (X := v1.toInt) (Y := x0.toInt) c2 rfl rfl
    refine pv_aload_n (M := mX12_longOf) 0 dX12_longOf_8 9 rfl rfl rfl ?_
    refine mv_get (M := mX12_longOf) (v := .ref 126) dX12_longOf_9 FX12 7 wd1180 (by decide) (tl123 hT) rfl rfl 12 rfl ?_
    refine pv_aload_n (M := mX12_longOf) 0 dX12_longOf_12 13 rfl rfl rfl ?_
    refine mv_get (M := mX12_longOf) (v := .ref 157) dX12_longOf_13 FX12 51 wd1224 (by decide) (tl123 hT) rfl rfl 16 rfl ?_
    refine pv_iload_n (M := mX12_longOf) 1 dX12_longOf_16 17 rfl rfl rfl ?_
    refine iv_iald (M := mX12_longOf) (X := x0.toInt) dX12_longOf_17 (tl157 hT) rfl (by omega) (by omega) I (fun _ => rfl) 18 rfl (fun v3 ev3 pv3 qv3 => ?_)
    have pv3 : 0 ≤ v3.toInt := pv3
    have qv3 : v3.toInt ≤ 7 := qv3
    refine iv_iald (M := mX12_longOf) (X := v3.toInt) dX12_longOf_18 (tl126 hT) rfl (by omega) (by omega) I (fun _ => rfl) 19 rfl (fun v4 ev4 pv4 qv4 => ?_)
    have pv4 : 0 ≤ v4.toInt := pv4
    have qv4 : v4.toInt ≤ 16 := qv4
    refine pv_goto (M := mX12_longOf) (tgt := 23) dX12_longOf_19 (by decide) ?_
    exact pv_iret (M := mX12_longOf) dX12_longOf_23 rfl rfl ⟨_, rfl, rfl, by omega, by omega, trivial⟩

set_option maxHeartbeats 1000000 in
set_option maxRecDepth 20000 in
theorem s_X12_nextOf (g : pv_G) {T : List mv_T} {m : Nat → Nat → Int32} {n : Nat → Nat → Int64} {r : Nat → Value} (hT : TX T) (I : IV BB m) (x0 : Int32) (hl0 : 0 ≤ x0.toInt) (hh0 : x0.toInt ≤ 3) (x1 : Int32) (hl1 : 0 ≤ x1.toInt) (hh1 : x1.toInt ≤ 16) (x2 : Int32) : PM g mX12_nextOf yX12_nextOf (sqP (mk T m n r) (-1) 15 (fun v => True)) 2 0 0 [.ref 123, .int x0, .int x1, .int x2] (mk T m n r) := by
  have Kp : kp m m := kp.rf
  refine PM.of 1 (lo := [.ref 123, .int x0, .int x1, .int x2, pv_U]) rfl (by decide) rfl rfl (Nat.le_of_ble_eq_true rfl) ?_
  refine pv_iload_n (M := mX12_nextOf) 1 dX12_nextOf_0 1 rfl rfl rfl ?_
  refine pv_aload_n (M := mX12_nextOf) 0 dX12_nextOf_1 2 rfl rfl rfl ?_
  refine iv_get (M := mX12_nextOf) dX12_nextOf_2 FX12 50 wd1223 (by decide) (tl123 hT) rfl I rfl 5 rfl (fun v1 ev1 pv1 qv1 => ?_)
  have pv1 : 0 ≤ v1.toInt := pv1
  have qv1 : v1.toInt ≤ 4 := qv1
  refine pv_icmp_lt (M := mX12_nextOf) (tgt := 10) dX12_nextOf_5 8 rfl (by decide) (fun c2 => ?_) (fun c2 => ?_)
  · have c2 := iv_lt (X := x0.toInt) (Y := v1.toInt) c2 rfl rfl
    refine pv_iload_n (M := mX12_nextOf) 2 dX12_nextOf_10 11 rfl rfl rfl ?_
    refine pv_istore (M := mX12_nextOf) (lo2 := [.ref 123, .int x0, .int x1, .int x2, .int x1]) dX12_nextOf_11 13 rfl (by decide) rfl rfl ?_
    have lp9 : ∀ (fuel8 : Nat) (y3 : Int32), (0 ≤ y3.toInt) → (y3.toInt ≤ 16) → ((16 - y3.toInt) : Int).toNat < fuel8 → PV none g mX12_nextOf (sqP (mk T m n r) (-1) 15 (fun v => True)) 2 0 0 13 [.ref 123, .int x0, .int x1, .int x2, .int y3] [] (mk T m n r) := by
      intro fuel8
      induction fuel8 with
      | zero => intro y3 b11 b12 z13; omega
      | succ fuel8 ih10 =>
        intro y3 b11 b12 z13
        refine pv_iload (M := mX12_nextOf) dX12_nextOf_13 15 rfl rfl ?_
        refine pv_aload_n (M := mX12_nextOf) 0 dX12_nextOf_15 16 rfl rfl rfl ?_
        refine pv_iload_n (M := mX12_nextOf) 1 dX12_nextOf_16 17 rfl rfl rfl ?_
        refine pv_callv (M := mX12_nextOf) (as := [.int x0]) (st := [.int y3]) (kc2 := 0) (ks2 := 0) dX12_nextOf_17 wd1633 YX12_longOf ⟨wd1635, wd98⟩ (mk_get (tl123 hT)) rfl rfl (s_X12_longOf g hT I x0 (by omega) (by omega)) rfl rfl (Nat.le_of_ble_eq_true rfl) (by decide) rfl rfl 20 rfl (fun rv h1 q14 => ?_)
        obtain ⟨v15, rfl, rfl, pv15, qv15, rv15⟩ := q14
        show PV _ _ _ _ _ _ _ 20 [.ref 123, .int x0, .int x1, .int x2, .int y3] [.int v15, .int y3] _
        refine pv_icmp_ge (M := mX12_nextOf) (tgt := 43) dX12_nextOf_20 23 rfl (by decide) (fun c16 => ?_) (fun c16 => ?_)
        · have c16 := iv_le (X := v15.toInt) (Y := y3.toInt) c16 rfl rfl
          refine pv_iconst (M := mX12_nextOf) (v := (-1)) dX12_nextOf_43 44 rfl (by decide) ?_
          exact pv_iret (M := mX12_nextOf) dX12_nextOf_44 rfl rfl ⟨_, rfl, rfl, by decide, by decide, trivial⟩
        · have c16 := iv_nle (X := v15.toInt) (Y := y3.toInt) c16 rfl rfl
          refine pv_aload_n (M := mX12_nextOf) 0 dX12_nextOf_23 24 rfl rfl rfl ?_
          refine pv_iload_n (M := mX12_nextOf) 1 dX12_nextOf_24 25 rfl rfl rfl ?_
          refine pv_iload (M := mX12_nextOf) dX12_nextOf_25 27 rfl rfl ?_
          refine pv_callv (M := mX12_nextOf) (as := [.int x0, .int y3]) (st := []) (kc2 := 0) (ks2 := 0) dX12_nextOf_27 wd1645 YX12_letterAt ⟨wd1647, wd101⟩ (mk_get (tl123 hT)) rfl rfl (s_X12_letterAt g hT I x0 (by omega) (by omega) y3 (by omega) (by omega)) rfl rfl (Nat.le_of_ble_eq_true rfl) (by decide) rfl rfl 30 rfl (fun rv h1 q17 => ?_)
          obtain ⟨v18, rfl, rfl, pv18, qv18, rv18⟩ := q17
          show PV _ _ _ _ _ _ _ 30 [.ref 123, .int x0, .int x1, .int x2, .int y3] [.int v18] _
          refine pv_iload_n (M := mX12_nextOf) 3 dX12_nextOf_30 31 rfl rfl rfl ?_
          refine pv_icmp_ne (M := mX12_nextOf) (tgt := 37) dX12_nextOf_31 34 rfl (by decide) (fun c19 => ?_) (fun c19 => ?_)
          · have c19 := iv_ne (X := v18.toInt) (Y := x2.toInt) c19 rfl rfl
            refine iv_inc (M := mX12_nextOf) (C := 1) dX12_nextOf_37 40 rfl rfl (by decide) rfl rfl (by decide) (by omega) (by omega) (fun v20 ev20 => ?_)
            show PV _ _ _ _ _ _ _ 40 [.ref 123, .int x0, .int x1, .int x2, .int v20] [] _
            refine pv_goto (M := mX12_nextOf) (tgt := 13) dX12_nextOf_40 (by decide) ?_
            exact ih10 v20 (by first | omega | decide) (by first | omega | decide) (by omega)
          · have c19 := iv_eq (X := v18.toInt) (Y := x2.toInt) c19 rfl rfl
            refine pv_iload (M := mX12_nextOf) dX12_nextOf_34 36 rfl rfl ?_
            exact pv_iret (M := mX12_nextOf) dX12_nextOf_36 rfl rfl ⟨_, rfl, rfl, by omega, by omega, trivial⟩
    exact lp9 (((16 - x1.toInt) : Int).toNat + 1) x1 (by first | omega | decide) (by first | omega | decide) (by omega)
  · have c2 := iv_nlt (X := x0.toInt) (Y := v1.toInt) c2 rfl rfl
    refine pv_iconst (M := mX12_nextOf) (v := 0) dX12_nextOf_8 9 rfl (by decide) ?_
    exact pv_iret (M := mX12_nextOf) dX12_nextOf_9 rfl rfl ⟨_, rfl, rfl, by decide, by decide, trivial⟩

set_option maxHeartbeats 1000000 in
set_option maxRecDepth 20000 in
theorem s_X12_behind (g : pv_G) {T : List mv_T} {m : Nat → Nat → Int32} {n : Nat → Nat → Int64} {r : Nat → Value} (hT : TX T) (I : IV BB m) (x0 : Int32) (hl0 : 0 ≤ x0.toInt) (hh0 : x0.toInt ≤ 3) (x1 : Int32) (hl1 : 0 ≤ x1.toInt) (hh1 : x1.toInt ≤ 4) (x2 : Int32) (hl2 : -1 ≤ x2.toInt) (hh2 : x2.toInt ≤ 15) : PM g mX12_behind yX12_behind (sqP (mk T m n r) 0 16 (fun v => True)) 1 0 0 [.int x0, .int x1, .int x2] (mk T m n r) := by
  have Kp : kp m m := kp.rf
  refine PM.of 0 (lo := [.int x0, .int x1, .int x2]) rfl (by decide) rfl rfl (Nat.le_of_ble_eq_true rfl) ?_
  refine pv_iload_n (M := mX12_behind) 0 dX12_behind_0 1 rfl rfl rfl ?_
  refine pv_iload_n (M := mX12_behind) 1 dX12_behind_1 2 rfl rfl rfl ?_
  refine pv_icmp_ge (M := mX12_behind) (tgt := 11) dX12_behind_2 5 rfl (by decide) (fun c1 => ?_) (fun c1 => ?_)
  · have c1 := iv_le (X := x1.toInt) (Y := x0.toInt) c1 rfl rfl
    refine pv_iconst (M := mX12_behind) (v := 0) dX12_behind_11 12 rfl (by decide) ?_
    exact pv_iret (M := mX12_behind) dX12_behind_12 rfl rfl ⟨_, rfl, rfl, by decide, by decide, trivial⟩
  · have c1 := iv_nle (X := x1.toInt) (Y := x0.toInt) c1 rfl rfl
    refine pv_iload_n (M := mX12_behind) 2 dX12_behind_5 6 rfl rfl rfl ?_
    refine pv_iconst (M := mX12_behind) (v := 1) dX12_behind_6 7 rfl (by decide) ?_
    refine iv_iadd (M := mX12_behind) (X := x2.toInt) (Y := 1) dX12_behind_7 8 rfl rfl (by decide) (by omega) (by omega) (fun v2 ev2 => ?_)
    refine pv_goto (M := mX12_behind) (tgt := 12) dX12_behind_8 (by decide) ?_
    exact pv_iret (M := mX12_behind) dX12_behind_12 rfl rfl ⟨_, rfl, rfl, by omega, by omega, trivial⟩

set_option maxHeartbeats 1000000 in
set_option maxRecDepth 20000 in
theorem s_X12_shortAt (g : pv_G) {T : List mv_T} {m : Nat → Nat → Int32} {n : Nat → Nat → Int64} {r : Nat → Value} (hT : TX T) (I : IV BB m) (x0 : Int32) (hl0 : 0 ≤ x0.toInt) (hh0 : x0.toInt ≤ 16) (x1 : Int32) (hl1 : 0 ≤ x1.toInt) (hh1 : x1.toInt ≤ 16) (x2 : Int32) (hl2 : 0 ≤ x2.toInt) (hh2 : x2.toInt ≤ 16) (x3 : Int32) (hl3 : 0 ≤ x3.toInt) (hh3 : x3.toInt ≤ 16) : PM g mX12_shortAt yX12_shortAt (sqP (mk T m n r) 0 40000 (fun v => True)) 1 0 0 [.int x0, .int x1, .int x2, .int x3] (mk T m n r) := by
  have Kp : kp m m := kp.rf
  refine PM.of 0 (lo := [.int x0, .int x1, .int x2, .int x3]) rfl (by decide) rfl rfl (Nat.le_of_ble_eq_true rfl) ?_
  refine pv_bipush (M := mX12_shortAt) (v := 13) dX12_shortAt_0 2 rfl (by decide) ?_
  refine pv_iload_n (M := mX12_shortAt) 0 dX12_shortAt_2 3 rfl rfl rfl ?_
  refine iv_imul (M := mX12_shortAt) (X := 13) (Y := x0.toInt) dX12_shortAt_3 4 rfl (by decide) rfl (by omega) (by omega) (fun v1 ev1 => ?_)
  refine pv_iload_n (M := mX12_shortAt) 1 dX12_shortAt_4 5 rfl rfl rfl ?_
  refine iv_iadd (M := mX12_shortAt) (X := v1.toInt) (Y := x1.toInt) dX12_shortAt_5 6 rfl rfl rfl (by omega) (by omega) (fun v2 ev2 => ?_)
  refine pv_bipush (M := mX12_shortAt) (v := 13) dX12_shortAt_6 8 rfl (by decide) ?_
  refine iv_imul (M := mX12_shortAt) (X := v2.toInt) (Y := 13) dX12_shortAt_8 9 rfl rfl (by decide) (by omega) (by omega) (fun v3 ev3 => ?_)
  refine pv_iload_n (M := mX12_shortAt) 2 dX12_shortAt_9 10 rfl rfl rfl ?_
  refine iv_iadd (M := mX12_shortAt) (X := v3.toInt) (Y := x2.toInt) dX12_shortAt_10 11 rfl rfl rfl (by omega) (by omega) (fun v4 ev4 => ?_)
  refine pv_bipush (M := mX12_shortAt) (v := 13) dX12_shortAt_11 13 rfl (by decide) ?_
  refine iv_imul (M := mX12_shortAt) (X := v4.toInt) (Y := 13) dX12_shortAt_13 14 rfl rfl (by decide) (by omega) (by omega) (fun v5 ev5 => ?_)
  refine pv_iload_n (M := mX12_shortAt) 3 dX12_shortAt_14 15 rfl rfl rfl ?_
  refine iv_iadd (M := mX12_shortAt) (X := v5.toInt) (Y := x3.toInt) dX12_shortAt_15 16 rfl rfl rfl (by omega) (by omega) (fun v6 ev6 => ?_)
  exact pv_iret (M := mX12_shortAt) dX12_shortAt_16 rfl rfl ⟨_, rfl, rfl, by omega, by omega, trivial⟩

set_option maxHeartbeats 1000000 in
set_option maxRecDepth 20000 in
theorem s_X12_isTooLong (g : pv_G) {T : List mv_T} {m : Nat → Nat → Int32} {n : Nat → Nat → Int64} {r : Nat → Value} (hT : TX T) (I : IV BB m) : PM g mX12_isTooLong yX12_isTooLong (sqP (mk T m n r) 0 1 (fun v => True)) 2 0 0 [.ref 123] (mk T m n r) := by
  have Kp : kp m m := kp.rf
  refine PM.of 1 (lo := [.ref 123, pv_U]) rfl (by decide) rfl rfl (Nat.le_of_ble_eq_true rfl) ?_
  refine pv_iconst (M := mX12_isTooLong) (v := 0) dX12_isTooLong_0 1 rfl (by decide) ?_
  refine pv_istore_n (M := mX12_isTooLong) 1 (lo2 := [.ref 123, .int 0]) dX12_isTooLong_1 2 rfl rfl (by decide) rfl rfl ?_
  have lp7 : ∀ (fuel6 : Nat) (y1 : Int32), (0 ≤ y1.toInt) → (y1.toInt ≤ 4) → ((4 - y1.toInt) : Int).toNat < fuel6 → PV none g mX12_isTooLong (sqP (mk T m n r) 0 1 (fun v => True)) 2 0 0 2 [.ref 123, .int y1] [] (mk T m n r) := by
    intro fuel6
    induction fuel6 with
    | zero => intro y1 b9 b10 z11; omega
    | succ fuel6 ih8 =>
      intro y1 b9 b10 z11
      refine pv_iload_n (M := mX12_isTooLong) 1 dX12_isTooLong_2 3 rfl rfl rfl ?_
      refine pv_aload_n (M := mX12_isTooLong) 0 dX12_isTooLong_3 4 rfl rfl rfl ?_
      refine iv_get (M := mX12_isTooLong) dX12_isTooLong_4 FX12 50 wd1223 (by decide) (tl123 hT) rfl I rfl 7 rfl (fun v12 ev12 pv12 qv12 => ?_)
      have pv12 : 0 ≤ v12.toInt := pv12
      have qv12 : v12.toInt ≤ 4 := qv12
      refine pv_icmp_ge (M := mX12_isTooLong) (tgt := 28) dX12_isTooLong_7 10 rfl (by decide) (fun c13 => ?_) (fun c13 => ?_)
      · have c13 := iv_le (X := v12.toInt) (Y := y1.toInt) c13 rfl rfl
        refine pv_iconst (M := mX12_isTooLong) (v := 0) dX12_isTooLong_28 29 rfl (by decide) ?_
        exact pv_iret (M := mX12_isTooLong) dX12_isTooLong_29 rfl rfl ⟨_, rfl, rfl, by decide, by decide, trivial⟩
      · have c13 := iv_nle (X := v12.toInt) (Y := y1.toInt) c13 rfl rfl
        refine pv_aload_n (M := mX12_isTooLong) 0 dX12_isTooLong_10 11 rfl rfl rfl ?_
        refine pv_iload_n (M := mX12_isTooLong) 1 dX12_isTooLong_11 12 rfl rfl rfl ?_
        refine pv_callv (M := mX12_isTooLong) (as := [.int y1]) (st := []) (kc2 := 0) (ks2 := 0) dX12_isTooLong_12 wd1633 YX12_longOf ⟨wd1635, wd98⟩ (mk_get (tl123 hT)) rfl rfl (s_X12_longOf g hT I y1 (by omega) (by omega)) rfl rfl (Nat.le_of_ble_eq_true rfl) (by decide) rfl rfl 15 rfl (fun rv h1 q14 => ?_)
        obtain ⟨v15, rfl, rfl, pv15, qv15, rv15⟩ := q14
        show PV _ _ _ _ _ _ _ 15 [.ref 123, .int y1] [.int v15] _
        refine pv_bipush (M := mX12_isTooLong) (v := 12) dX12_isTooLong_15 17 rfl (by decide) ?_
        refine pv_icmp_le (M := mX12_isTooLong) (tgt := 22) dX12_isTooLong_17 20 rfl (by decide) (fun c16 => ?_) (fun c16 => ?_)
        · have c16 := iv_le (X := v15.toInt) (Y := 12) c16 rfl (by decide)
          refine iv_inc (M := mX12_isTooLong) (C := 1) dX12_isTooLong_22 25 rfl rfl (by decide) rfl rfl (by decide) (by omega) (by omega) (fun v17 ev17 => ?_)
          show PV _ _ _ _ _ _ _ 25 [.ref 123, .int v17] [] _
          refine pv_goto (M := mX12_isTooLong) (tgt := 2) dX12_isTooLong_25 (by decide) ?_
          exact ih8 v17 (by first | omega | decide) (by first | omega | decide) (by omega)
        · have c16 := iv_nle (X := v15.toInt) (Y := 12) c16 rfl (by decide)
          refine pv_iconst (M := mX12_isTooLong) (v := 1) dX12_isTooLong_20 21 rfl (by decide) ?_
          exact pv_iret (M := mX12_isTooLong) dX12_isTooLong_21 rfl rfl ⟨_, rfl, rfl, by decide, by decide, trivial⟩
  have z18 : (0 : Int32).toInt = 0 := by decide
  exact lp7 (((4 - 0) : Int).toNat + 1) 0 (by first | omega | decide) (by first | omega | decide) (by omega)

set_option maxHeartbeats 1000000 in
set_option maxRecDepth 20000 in
theorem s_X12_areSet (g : pv_G) {T : List mv_T} {m : Nat → Nat → Int32} {n : Nat → Nat → Int64} {r : Nat → Value} (hT : TX T) (I : IV BB m) (x0 : Int32) : PM g mX12_areSet yX12_areSet (sqP (mk T m n r) 0 1 (fun v => v = 0 ∨ (0 ≤ x0.toInt ∧ x0.toInt ≤ 255))) 2 0 0 [.ref 123, .int x0] (mk T m n r) := by
  have Kp : kp m m := kp.rf
  refine PM.of 0 (lo := [.ref 123, .int x0]) rfl (by decide) rfl rfl (Nat.le_of_ble_eq_true rfl) ?_
  refine pv_iload_n (M := mX12_areSet) 1 dX12_areSet_0 1 rfl rfl rfl ?_
  refine pv_iconst (M := mX12_areSet) (v := 0) dX12_areSet_1 2 rfl (by decide) ?_
  refine pv_sipush (M := mX12_areSet) (v := 255) dX12_areSet_2 5 rfl (by decide) ?_
  have z2 : (0 : Int32).toInt = 0 := by decide
  have z3 : (255 : Int32).toInt = 255 := by decide
  refine pv_calls (M := mX12_areSet) (as := [.int x0, .int 0, .int 255]) (st := []) (kc2 := 0) (ks2 := 0) dX12_areSet_5 wd1370 YX12_in wd1371 (s_X12_in g hT I x0 0 255) rfl rfl (Nat.le_of_ble_eq_true rfl) (by decide) rfl rfl 8 rfl (fun rv h1 q1 => ?_)
  obtain ⟨v4, rfl, rfl, pv4, qv4, rv4⟩ := q1
  show PV _ _ _ _ _ _ _ 8 [.ref 123, .int x0] [.int v4] _
  refine pv_if_eq (M := mX12_areSet) (tgt := 26) dX12_areSet_8 11 rfl (by decide) (fun c5 => ?_) (fun c5 => ?_)
  · have c5 := iv_eq (X := v4.toInt) (Y := 0) c5 rfl (by decide)
    refine pv_iconst (M := mX12_areSet) (v := 0) dX12_areSet_26 27 rfl (by decide) ?_
    exact pv_iret (M := mX12_areSet) dX12_areSet_27 rfl rfl ⟨_, rfl, rfl, by decide, by decide, Or.inl rfl⟩
  · have pc5 := rv4.resolve_left c5
    have c5 := iv_ne (X := v4.toInt) (Y := 0) c5 rfl (by decide)
    refine pv_iload_n (M := mX12_areSet) 1 dX12_areSet_11 12 rfl rfl rfl ?_
    refine pv_aload_n (M := mX12_areSet) 0 dX12_areSet_12 13 rfl rfl rfl ?_
    refine iv_get (M := mX12_areSet) dX12_areSet_13 FX12 4 wd1177 (by decide) (tl123 hT) rfl I rfl 16 rfl (fun v6 ev6 pv6 qv6 => ?_)
    have pv6 : 0 ≤ v6.toInt := pv6
    have qv6 : v6.toInt ≤ 255 := qv6
    refine pv_iconst (M := mX12_areSet) (v := (-1)) dX12_areSet_16 17 rfl (by decide) ?_
    refine pv_ixor (M := mX12_areSet) (v := (v6 ^^^ (-1) : Int32)) dX12_areSet_17 18 rfl rfl ?_
    obtain ⟨v7, ev7⟩ : ∃ z : Int32, z = v6 ^^^ (-1) := ⟨_, rfl⟩
    rw [← ev7]
    refine pv_iand (M := mX12_areSet) (v := (x0 &&& v7 : Int32)) dX12_areSet_18 19 rfl rfl ?_
    obtain ⟨v8, ev8⟩ : ∃ z : Int32, z = x0 &&& v7 := ⟨_, rfl⟩
    rw [← ev8]
    refine pv_if_ne (M := mX12_areSet) (tgt := 26) dX12_areSet_19 22 rfl (by decide) (fun c9 => ?_) (fun c9 => ?_)
    · have c9 := iv_ne (X := v8.toInt) (Y := 0) c9 rfl (by decide)
      refine pv_iconst (M := mX12_areSet) (v := 0) dX12_areSet_26 27 rfl (by decide) ?_
      exact pv_iret (M := mX12_areSet) dX12_areSet_27 rfl rfl ⟨_, rfl, rfl, by decide, by decide, Or.inl rfl⟩
    · have c9 := iv_eq (X := v8.toInt) (Y := 0) c9 rfl (by decide)
      refine pv_iconst (M := mX12_areSet) (v := 1) dX12_areSet_22 23 rfl (by decide) ?_
      refine pv_goto (M := mX12_areSet) (tgt := 27) dX12_areSet_23 (by decide) ?_
      exact pv_iret (M := mX12_areSet) dX12_areSet_27 rfl rfl ⟨_, rfl, rfl, by decide, by decide, Or.inr ⟨by omega, by omega⟩⟩

set_option maxHeartbeats 1000000 in
set_option maxRecDepth 20000 in
theorem s_X12_seed (g : pv_G) {T : List mv_T} {m : Nat → Nat → Int32} {n : Nat → Nat → Int64} {r : Nat → Value} (hT : TX T) (I : IV BB m) (x0 : Int32) : PM g mX12_seed yX12_seed (sqI T BB r m 0 1 (fun v => True)) 2 0 0 [.ref 123, .int x0] (mk T m n r) := by
  have Kp : kp m m := kp.rf
  refine PM.of 0 (lo := [.ref 123, .int x0]) rfl (by decide) rfl rfl (Nat.le_of_ble_eq_true rfl) ?_
  refine pv_iload_n (M := mX12_seed) 1 dX12_seed_0 1 rfl rfl rfl ?_
  refine pv_iconst (M := mX12_seed) (v := 0) dX12_seed_1 2 rfl (by decide) ?_
  refine pv_ldcw (M := mX12_seed) (v := 65535) dX12_seed_2 5 rfl wd1777 ?_
  have z2 : (0 : Int32).toInt = 0 := by decide
  have z3 : (65535 : Int32).toInt = 65535 := by decide
  refine pv_calls (M := mX12_seed) (as := [.int x0, .int 0, .int 65535]) (st := []) (kc2 := 0) (ks2 := 0) dX12_seed_5 wd1370 YX12_in wd1371 (s_X12_in g hT I x0 0 65535) rfl rfl (Nat.le_of_ble_eq_true rfl) (by decide) rfl rfl 8 rfl (fun rv h1 q1 => ?_)
  obtain ⟨v4, rfl, rfl, pv4, qv4, rv4⟩ := q1
  show PV _ _ _ _ _ _ _ 8 [.ref 123, .int x0] [.int v4] _
  refine pv_if_ne (M := mX12_seed) (tgt := 13) dX12_seed_8 11 rfl (by decide) (fun c5 => ?_) (fun c5 => ?_)
  · have pc5 := rv4.resolve_left c5
    have c5 := iv_ne (X := v4.toInt) (Y := 0) c5 rfl (by decide)
    refine pv_aload_n (M := mX12_seed) 0 dX12_seed_13 14 rfl rfl rfl ?_
    refine pv_iload_n (M := mX12_seed) 1 dX12_seed_14 15 rfl rfl rfl ?_
    refine iv_put (M := mX12_seed) dX12_seed_15 FX12 2 wd1175 (by decide) rfl (tl123 hT) rfl rfl rfl I rfl (show (0 : Int) ≤ x0.toInt by omega) (show x0.toInt ≤ (65535 : Int) by omega) 18 rfl (fun m6 e9 I7 => ?_)
    have K8 := Kp.set e9 rfl
    refine pv_iconst (M := mX12_seed) (v := 1) dX12_seed_18 19 rfl (by decide) ?_
    exact pv_iret (M := mX12_seed) dX12_seed_19 rfl rfl ⟨_, _, _, rfl, rfl, I7, K8, by decide, by decide, trivial⟩
  · have c5 := iv_eq (X := v4.toInt) (Y := 0) c5 rfl (by decide)
    refine pv_iconst (M := mX12_seed) (v := 0) dX12_seed_11 12 rfl (by decide) ?_
    exact pv_iret (M := mX12_seed) dX12_seed_12 rfl rfl ⟨_, _, _, rfl, rfl, I, Kp, by decide, by decide, trivial⟩

set_option maxHeartbeats 1000000 in
set_option maxRecDepth 20000 in
theorem s_X12_comeAll (g : pv_G) {T : List mv_T} {m : Nat → Nat → Int32} {n : Nat → Nat → Int64} {r : Nat → Value} (hT : TX T) (I : IV BB m) (x0 : Int32) (hl0 : 0 ≤ x0.toInt) (hh0 : x0.toInt ≤ 255) (x1 : Int32) : PM g mX12_comeAll yX12_comeAll (sqI T BB r m 0 1 (fun v => True)) 2 0 0 [.ref 123, .int x0, .int x1] (mk T m n r) := by
  have Kp : kp m m := kp.rf
  refine PM.of 1 (lo := [.ref 123, .int x0, .int x1, pv_U]) rfl (by decide) rfl rfl (Nat.le_of_ble_eq_true rfl) ?_
  refine pv_iconst (M := mX12_comeAll) (v := 0) dX12_comeAll_0 1 rfl (by decide) ?_
  refine pv_istore_n (M := mX12_comeAll) 3 (lo2 := [.ref 123, .int x0, .int x1, .int 0]) dX12_comeAll_1 2 rfl rfl (by decide) rfl rfl ?_
  have lp7 : ∀ (fuel6 : Nat) (y1 : Int32) (m2 : Nat → Nat → Int32) (n3 : Nat → Nat → Int64), (0 ≤ y1.toInt) → (y1.toInt ≤ 8) → IV BB m2 → kp m m2 → ((8 - y1.toInt) : Int).toNat < fuel6 → PV none g mX12_comeAll (sqI T BB r m 0 1 (fun v => True)) 2 0 0 2 [.ref 123, .int x0, .int x1, .int y1] [] (mk T m2 n3 r) := by
    intro fuel6
    induction fuel6 with
    | zero => intro y1 m2 n3 b9 b10 I4 K5 z11; omega
    | succ fuel6 ih8 =>
      intro y1 m2 n3 b9 b10 I4 K5 z11
      refine pv_iload_n (M := mX12_comeAll) 3 dX12_comeAll_2 3 rfl rfl rfl ?_
      refine pv_bipush (M := mX12_comeAll) (v := 8) dX12_comeAll_3 5 rfl (by decide) ?_
      refine pv_icmp_ge (M := mX12_comeAll) (tgt := 40) dX12_comeAll_5 8 rfl (by decide) (fun c12 => ?_) (fun c12 => ?_)
      · have c12 := iv_le (X := 8) (Y := y1.toInt) c12 (by decide) rfl
        refine pv_iconst (M := mX12_comeAll) (v := 1) dX12_comeAll_40 41 rfl (by decide) ?_
        exact pv_iret (M := mX12_comeAll) dX12_comeAll_41 rfl rfl ⟨_, _, _, rfl, rfl, I4, K5, by decide, by decide, trivial⟩
      · have c12 := iv_nle (X := 8) (Y := y1.toInt) c12 (by decide) rfl
        refine pv_iload_n (M := mX12_comeAll) 1 dX12_comeAll_8 9 rfl rfl rfl ?_
        refine pv_iload_n (M := mX12_comeAll) 3 dX12_comeAll_9 10 rfl rfl rfl ?_
        refine pv_ishr (M := mX12_comeAll) (v := (x0 >>> (y1 &&& 31) : Int32)) dX12_comeAll_10 11 rfl rfl ?_
        obtain ⟨v13, ev13⟩ : ∃ z : Int32, z = x0 >>> (y1 &&& 31) := ⟨_, rfl⟩
        rw [← ev13]
        refine pv_iconst (M := mX12_comeAll) (v := 1) dX12_comeAll_11 12 rfl (by decide) ?_
        refine iv_iandm (M := mX12_comeAll) dX12_comeAll_12 13 rfl 1 (by decide) (by decide) (fun v14 ev14 pv14 qv14 => ?_)
        have qv14 : v14.toInt < 2 := qv14
        refine pv_if_ne (M := mX12_comeAll) (tgt := 19) dX12_comeAll_13 16 rfl (by decide) (fun c15 => ?_) (fun c15 => ?_)
        · have c15 := iv_ne (X := v14.toInt) (Y := 0) c15 rfl (by decide)
          refine pv_aload_n (M := mX12_comeAll) 0 dX12_comeAll_19 20 rfl rfl rfl ?_
          refine pv_iload_n (M := mX12_comeAll) 3 dX12_comeAll_20 21 rfl rfl rfl ?_
          refine pv_callv (M := mX12_comeAll) (as := [.int y1]) (st := []) (kc2 := 0) (ks2 := 0) dX12_comeAll_21 wd1567 YX12_laysDeed ⟨wd1569, wd89⟩ (mk_get (tl123 hT)) rfl rfl (s_X12_laysDeed g hT I4 y1 (by omega) (by omega)) rfl rfl (Nat.le_of_ble_eq_true rfl) (by decide) rfl rfl 24 rfl (fun rv h1 q16 => ?_)
          obtain ⟨m17, n18, rfl, rfl, I19, K20⟩ := q16
          have K20 := K5.trans K20
          show PV _ _ _ _ _ _ _ 24 [.ref 123, .int x0, .int x1, .int y1] [] _
          refine pv_aload_n (M := mX12_comeAll) 0 dX12_comeAll_24 25 rfl rfl rfl ?_
          refine pv_iload_n (M := mX12_comeAll) 2 dX12_comeAll_25 26 rfl rfl rfl ?_
          refine pv_callv (M := mX12_comeAll) (as := [.int x1]) (st := []) (kc2 := 0) (ks2 := 0) dX12_comeAll_26 wd1696 YX12_comesWithout ⟨wd1698, wd108⟩ (mk_get (tl123 hT)) rfl rfl (s_X12_comesWithout g hT I19 x1) rfl rfl (Nat.le_of_ble_eq_true rfl) (by decide) rfl rfl 29 rfl (fun rv h1 q21 => ?_)
          obtain ⟨v22, rfl, rfl, pv22, qv22, rv22⟩ := q21
          show PV _ _ _ _ _ _ _ 29 [.ref 123, .int x0, .int x1, .int y1] [.int v22] _
          refine pv_if_ne (M := mX12_comeAll) (tgt := 34) dX12_comeAll_29 32 rfl (by decide) (fun c23 => ?_) (fun c23 => ?_)
          · have c23 := iv_ne (X := v22.toInt) (Y := 0) c23 rfl (by decide)
            refine iv_inc (M := mX12_comeAll) (C := 1) dX12_comeAll_34 37 rfl rfl (by decide) rfl rfl (by decide) (by omega) (by omega) (fun v24 ev24 => ?_)
            show PV _ _ _ _ _ _ _ 37 [.ref 123, .int x0, .int x1, .int v24] [] _
            refine pv_goto (M := mX12_comeAll) (tgt := 2) dX12_comeAll_37 (by decide) ?_
            exact ih8 v24 m17 n18 (by first | omega | decide) (by first | omega | decide) I19 K20 (by omega)
          · have c23 := iv_eq (X := v22.toInt) (Y := 0) c23 rfl (by decide)
            refine pv_iconst (M := mX12_comeAll) (v := 0) dX12_comeAll_32 33 rfl (by decide) ?_
            exact pv_iret (M := mX12_comeAll) dX12_comeAll_33 rfl rfl ⟨_, _, _, rfl, rfl, I19, K20, by decide, by decide, trivial⟩
        · have c15 := iv_eq (X := v14.toInt) (Y := 0) c15 rfl (by decide)
          refine pv_goto (M := mX12_comeAll) (tgt := 34) dX12_comeAll_16 (by decide) ?_
          refine iv_inc (M := mX12_comeAll) (C := 1) dX12_comeAll_34 37 rfl rfl (by decide) rfl rfl (by decide) (by omega) (by omega) (fun v25 ev25 => ?_)
          show PV _ _ _ _ _ _ _ 37 [.ref 123, .int x0, .int x1, .int v25] [] _
          refine pv_goto (M := mX12_comeAll) (tgt := 2) dX12_comeAll_37 (by decide) ?_
          exact ih8 v25 m2 n3 (by first | omega | decide) (by first | omega | decide) I4 K5 (by omega)
  have z26 : (0 : Int32).toInt = 0 := by decide
  exact lp7 (((8 - 0) : Int).toNat + 1) 0 m n (by first | omega | decide) (by first | omega | decide) I Kp (by omega)

set_option maxHeartbeats 1000000 in
set_option maxRecDepth 20000 in
theorem s_X12_forged (g : pv_G) {T : List mv_T} {m : Nat → Nat → Int32} {n : Nat → Nat → Int64} {r : Nat → Value} (hT : TX T) (I : IV BB m) (x0 : Int32) : PM g mX12_forged yX12_forged (sqI T BB r m (-1) 1 (fun v => True)) 2 0 0 [.ref 123, .int x0] (mk T m n r) := by
  have Kp : kp m m := kp.rf
  refine PM.of 1 (lo := [.ref 123, .int x0, pv_U]) rfl (by decide) rfl rfl (Nat.le_of_ble_eq_true rfl) ?_
  refine pv_aload_n (M := mX12_forged) 0 dX12_forged_0 1 rfl rfl rfl ?_
  refine pv_iload_n (M := mX12_forged) 1 dX12_forged_1 2 rfl rfl rfl ?_
  refine pv_callv (M := mX12_forged) (as := [.int x0]) (st := []) (kc2 := 0) (ks2 := 0) dX12_forged_2 wd1558 YX12_isDeed ⟨wd1560, wd87⟩ (mk_get (tl123 hT)) rfl rfl (s_X12_isDeed g hT I x0) rfl rfl (Nat.le_of_ble_eq_true rfl) (by decide) rfl rfl 5 rfl (fun rv h1 q1 => ?_)
  obtain ⟨v2, rfl, rfl, pv2, qv2, rv2⟩ := q1
  show PV _ _ _ _ _ _ _ 5 [.ref 123, .int x0, pv_U] [.int v2] _
  refine pv_if_ne (M := mX12_forged) (tgt := 10) dX12_forged_5 8 rfl (by decide) (fun c3 => ?_) (fun c3 => ?_)
  · have pc3 := rv2.resolve_left c3
    have c3 := iv_ne (X := v2.toInt) (Y := 0) c3 rfl (by decide)
    refine pv_aload_n (M := mX12_forged) 0 dX12_forged_10 11 rfl rfl rfl ?_
    refine pv_iload_n (M := mX12_forged) 1 dX12_forged_11 12 rfl rfl rfl ?_
    refine pv_callv (M := mX12_forged) (as := [.int x0]) (st := []) (kc2 := 0) (ks2 := 0) dX12_forged_12 wd1567 YX12_laysDeed ⟨wd1569, wd89⟩ (mk_get (tl123 hT)) rfl rfl (s_X12_laysDeed g hT I x0 (by omega) (by omega)) rfl rfl (Nat.le_of_ble_eq_true rfl) (by decide) rfl rfl 15 rfl (fun rv h1 q4 => ?_)
    obtain ⟨m5, n6, rfl, rfl, I7, K8⟩ := q4
    have K8 := Kp.trans K8
    show PV _ _ _ _ _ _ _ 15 [.ref 123, .int x0, pv_U] [] _
    refine pv_iconst (M := mX12_forged) (v := 0) dX12_forged_15 16 rfl (by decide) ?_
    refine pv_istore_n (M := mX12_forged) 2 (lo2 := [.ref 123, .int x0, .int 0]) dX12_forged_16 17 rfl rfl (by decide) rfl rfl ?_
    have lp15 : ∀ (fuel14 : Nat) (y9 : Int32) (m10 : Nat → Nat → Int32) (n11 : Nat → Nat → Int64), (0 ≤ y9.toInt) → (y9.toInt ≤ 8) → IV BB m10 → kp m m10 → ((8 - y9.toInt) : Int).toNat < fuel14 → PV none g mX12_forged (sqI T BB r m (-1) 1 (fun v => True)) 2 0 0 17 [.ref 123, .int x0, .int y9] [] (mk T m10 n11 r) := by
      intro fuel14
      induction fuel14 with
      | zero => intro y9 m10 n11 b17 b18 I12 K13 z19; omega
      | succ fuel14 ih16 =>
        intro y9 m10 n11 b17 b18 I12 K13 z19
        refine pv_iload_n (M := mX12_forged) 2 dX12_forged_17 18 rfl rfl rfl ?_
        refine pv_aload_n (M := mX12_forged) 0 dX12_forged_18 19 rfl rfl rfl ?_
        refine iv_get (M := mX12_forged) dX12_forged_19 FX12 0 wd1173 (by decide) (tl123 hT) rfl I12 rfl 22 rfl (fun v20 ev20 pv20 qv20 => ?_)
        have pv20 : 0 ≤ v20.toInt := pv20
        have qv20 : v20.toInt ≤ 8 := qv20
        refine pv_icmp_ge (M := mX12_forged) (tgt := 47) dX12_forged_22 25 rfl (by decide) (fun c21 => ?_) (fun c21 => ?_)
        · have c21 := iv_le (X := v20.toInt) (Y := y9.toInt) c21 rfl rfl
          refine pv_iconst (M := mX12_forged) (v := 1) dX12_forged_47 48 rfl (by decide) ?_
          exact pv_iret (M := mX12_forged) dX12_forged_48 rfl rfl ⟨_, _, _, rfl, rfl, I12, K13, by decide, by decide, trivial⟩
        · have c21 := iv_nle (X := v20.toInt) (Y := y9.toInt) c21 rfl rfl
          refine pv_aload_n (M := mX12_forged) 0 dX12_forged_25 26 rfl rfl rfl ?_
          refine pv_iload_n (M := mX12_forged) 2 dX12_forged_26 27 rfl rfl rfl ?_
          refine pv_iconst (M := mX12_forged) (v := 1) dX12_forged_27 28 rfl (by decide) ?_
          refine pv_callv (M := mX12_forged) (as := [.int y9, .int 1]) (st := []) (kc2 := 0) (ks2 := 0) dX12_forged_28 wd1563 YX12_laysBlank ⟨wd1565, wd88⟩ (mk_get (tl123 hT)) rfl rfl (s_X12_laysBlank g hT I12 y9 (by omega) (by omega) 1 (by decide) (by decide)) rfl rfl (Nat.le_of_ble_eq_true rfl) (by decide) rfl rfl 31 rfl (fun rv h1 q22 => ?_)
          obtain ⟨m23, n24, rfl, rfl, I25, K26⟩ := q22
          have K26 := K13.trans K26
          show PV _ _ _ _ _ _ _ 31 [.ref 123, .int x0, .int y9] [] _
          refine pv_aload_n (M := mX12_forged) 0 dX12_forged_31 32 rfl rfl rfl ?_
          refine pv_iconst (M := mX12_forged) (v := (-1)) dX12_forged_32 33 rfl (by decide) ?_
          refine pv_callv (M := mX12_forged) (as := [.int (-1)]) (st := []) (kc2 := 0) (ks2 := 0) dX12_forged_33 wd1696 YX12_comesWithout ⟨wd1698, wd108⟩ (mk_get (tl123 hT)) rfl rfl (s_X12_comesWithout g hT I25 (-1)) rfl rfl (Nat.le_of_ble_eq_true rfl) (by decide) rfl rfl 36 rfl (fun rv h1 q27 => ?_)
          obtain ⟨v28, rfl, rfl, pv28, qv28, rv28⟩ := q27
          show PV _ _ _ _ _ _ _ 36 [.ref 123, .int x0, .int y9] [.int v28] _
          refine pv_if_eq (M := mX12_forged) (tgt := 41) dX12_forged_36 39 rfl (by decide) (fun c29 => ?_) (fun c29 => ?_)
          · have c29 := iv_eq (X := v28.toInt) (Y := 0) c29 rfl (by decide)
            refine iv_inc (M := mX12_forged) (C := 1) dX12_forged_41 44 rfl rfl (by decide) rfl rfl (by decide) (by omega) (by omega) (fun v30 ev30 => ?_)
            show PV _ _ _ _ _ _ _ 44 [.ref 123, .int x0, .int v30] [] _
            refine pv_goto (M := mX12_forged) (tgt := 17) dX12_forged_44 (by decide) ?_
            exact ih16 v30 m23 n24 (by first | omega | decide) (by first | omega | decide) I25 K26 (by omega)
          · have c29 := iv_ne (X := v28.toInt) (Y := 0) c29 rfl (by decide)
            refine pv_iconst (M := mX12_forged) (v := 0) dX12_forged_39 40 rfl (by decide) ?_
            exact pv_iret (M := mX12_forged) dX12_forged_40 rfl rfl ⟨_, _, _, rfl, rfl, I25, K26, by decide, by decide, trivial⟩
    have z31 : (0 : Int32).toInt = 0 := by decide
    exact lp15 (((8 - 0) : Int).toNat + 1) 0 m5 n6 (by first | omega | decide) (by first | omega | decide) I7 K8 (by omega)
  · have c3 := iv_eq (X := v2.toInt) (Y := 0) c3 rfl (by decide)
    refine pv_iconst (M := mX12_forged) (v := (-1)) dX12_forged_8 9 rfl (by decide) ?_
    exact pv_iret (M := mX12_forged) dX12_forged_9 rfl rfl ⟨_, _, _, rfl, rfl, I, Kp, by decide, by decide, trivial⟩

set_option maxHeartbeats 1000000 in
set_option maxRecDepth 20000 in
theorem s_X12_laysComes (g : pv_G) {T : List mv_T} {m : Nat → Nat → Int32} {n : Nat → Nat → Int64} {r : Nat → Value} (hT : TX T) (I : IV BB m) : PM g mX12_laysComes yX12_laysComes (sqV T BB r m) 2 0 0 [.ref 123] (mk T m n r) := by
  have Kp : kp m m := kp.rf
  refine PM.of 2 (lo := [.ref 123, pv_U, pv_U]) rfl (by decide) rfl rfl (Nat.le_of_ble_eq_true rfl) ?_
  refine pv_iconst (M := mX12_laysComes) (v := 0) dX12_laysComes_0 1 rfl (by decide) ?_
  refine pv_istore_n (M := mX12_laysComes) 1 (lo2 := [.ref 123, .int 0, pv_U]) dX12_laysComes_1 2 rfl rfl (by decide) rfl rfl ?_
  have lp7 : ∀ (fuel6 : Nat) (y1 : Int32) (m2 : Nat → Nat → Int32) (n3 : Nat → Nat → Int64), (0 ≤ y1.toInt) → (y1.toInt ≤ 8) → IV BB m2 → kp m m2 → ((8 - y1.toInt) : Int).toNat < fuel6 → PV none g mX12_laysComes (sqV T BB r m) 2 0 0 2 [.ref 123, .int y1, pv_U] [] (mk T m2 n3 r) := by
    intro fuel6
    induction fuel6 with
    | zero => intro y1 m2 n3 b9 b10 I4 K5 z11; omega
    | succ fuel6 ih8 =>
      intro y1 m2 n3 b9 b10 I4 K5 z11
      refine pv_iload_n (M := mX12_laysComes) 1 dX12_laysComes_2 3 rfl rfl rfl ?_
      refine pv_aload_n (M := mX12_laysComes) 0 dX12_laysComes_3 4 rfl rfl rfl ?_
      refine iv_get (M := mX12_laysComes) dX12_laysComes_4 FX12 0 wd1173 (by decide) (tl123 hT) rfl I4 rfl 7 rfl (fun v12 ev12 pv12 qv12 => ?_)
      have pv12 : 0 ≤ v12.toInt := pv12
      have qv12 : v12.toInt ≤ 8 := qv12
      refine pv_icmp_ge (M := mX12_laysComes) (tgt := 81) dX12_laysComes_7 10 rfl (by decide) (fun c13 => ?_) (fun c13 => ?_)
      · have c13 := iv_le (X := v12.toInt) (Y := y1.toInt) c13 rfl rfl
        exact pv_vret (M := mX12_laysComes) dX12_laysComes_81 rfl ⟨_, _, rfl, rfl, I4, K5⟩
      · have c13 := iv_nle (X := v12.toInt) (Y := y1.toInt) c13 rfl rfl
        refine pv_aload_n (M := mX12_laysComes) 0 dX12_laysComes_10 11 rfl rfl rfl ?_
        refine pv_iload_n (M := mX12_laysComes) 1 dX12_laysComes_11 12 rfl rfl rfl ?_
        refine pv_iconst (M := mX12_laysComes) (v := 0) dX12_laysComes_12 13 rfl (by decide) ?_
        refine pv_callv (M := mX12_laysComes) (as := [.int y1, .int 0]) (st := []) (kc2 := 0) (ks2 := 0) dX12_laysComes_13 wd1563 YX12_laysBlank ⟨wd1565, wd88⟩ (mk_get (tl123 hT)) rfl rfl (s_X12_laysBlank g hT I4 y1 (by omega) (by omega) 0 (by decide) (by decide)) rfl rfl (Nat.le_of_ble_eq_true rfl) (by decide) rfl rfl 16 rfl (fun rv h1 q14 => ?_)
        obtain ⟨m15, n16, rfl, rfl, I17, K18⟩ := q14
        have K18 := K5.trans K18
        show PV _ _ _ _ _ _ _ 16 [.ref 123, .int y1, pv_U] [] _
        refine pv_iconst (M := mX12_laysComes) (v := 0) dX12_laysComes_16 17 rfl (by decide) ?_
        refine pv_istore_n (M := mX12_laysComes) 2 (lo2 := [.ref 123, .int y1, .int 0]) dX12_laysComes_17 18 rfl rfl (by decide) rfl rfl ?_
        have lp25 : ∀ (fuel24 : Nat) (y19 : Int32) (m20 : Nat → Nat → Int32) (n21 : Nat → Nat → Int64), (0 ≤ y19.toInt) → (y19.toInt ≤ 8) → IV BB m20 → kp m m20 → ((8 - y19.toInt) : Int).toNat < fuel24 → PV none g mX12_laysComes (sqV T BB r m) 2 0 0 18 [.ref 123, .int y1, .int y19] [] (mk T m20 n21 r) := by
          intro fuel24
          induction fuel24 with
          | zero => intro y19 m20 n21 b27 b28 I22 K23 z29; omega
          | succ fuel24 ih26 =>
            intro y19 m20 n21 b27 b28 I22 K23 z29
            refine pv_iload_n (M := mX12_laysComes) 2 dX12_laysComes_18 19 rfl rfl rfl ?_
            refine pv_bipush (M := mX12_laysComes) (v := 8) dX12_laysComes_19 21 rfl (by decide) ?_
            refine pv_icmp_ge (M := mX12_laysComes) (tgt := 75) dX12_laysComes_21 24 rfl (by decide) (fun c30 => ?_) (fun c30 => ?_)
            · have c30 := iv_le (X := 8) (Y := y19.toInt) c30 (by decide) rfl
              refine iv_inc (M := mX12_laysComes) (C := 1) dX12_laysComes_75 78 rfl rfl (by decide) rfl rfl (by decide) (by omega) (by omega) (fun v31 ev31 => ?_)
              show PV _ _ _ _ _ _ _ 78 [.ref 123, .int v31, .int y19] [] _
              refine pv_goto (M := mX12_laysComes) (tgt := 2) dX12_laysComes_78 (by decide) ?_
              refine pv_fg (lo2 := [.ref 123, .int v31, pv_U]) ⟨Or.inr rfl, ⟨Or.inr rfl, ⟨Or.inl rfl, trivial⟩⟩⟩ ?_
              exact ih8 v31 m20 n21 (by first | omega | decide) (by first | omega | decide) I22 K23 (by omega)
            · have c30 := iv_nle (X := 8) (Y := y19.toInt) c30 (by decide) rfl
              refine pv_aload_n (M := mX12_laysComes) 0 dX12_laysComes_24 25 rfl rfl rfl ?_
              refine pv_iload_n (M := mX12_laysComes) 2 dX12_laysComes_25 26 rfl rfl rfl ?_
              refine pv_callv (M := mX12_laysComes) (as := [.int y19]) (st := []) (kc2 := 0) (ks2 := 0) dX12_laysComes_26 wd1558 YX12_isDeed ⟨wd1560, wd87⟩ (mk_get (tl123 hT)) rfl rfl (s_X12_isDeed g hT I22 y19) rfl rfl (Nat.le_of_ble_eq_true rfl) (by decide) rfl rfl 29 rfl (fun rv h1 q32 => ?_)
              obtain ⟨v33, rfl, rfl, pv33, qv33, rv33⟩ := q32
              show PV _ _ _ _ _ _ _ 29 [.ref 123, .int y1, .int y19] [.int v33] _
              refine pv_if_eq (M := mX12_laysComes) (tgt := 37) dX12_laysComes_29 32 rfl (by decide) (fun c34 => ?_) (fun c34 => ?_)
              · have c34 := iv_eq (X := v33.toInt) (Y := 0) c34 rfl (by decide)
                refine pv_aload_n (M := mX12_laysComes) 0 dX12_laysComes_37 38 rfl rfl rfl ?_
                refine mv_get (M := mX12_laysComes) (v := .ref 165) dX12_laysComes_38 FX12 59 wd1232 (by decide) (tl123 hT) rfl rfl 41 rfl ?_
                refine pv_bipush (M := mX12_laysComes) (v := 8) dX12_laysComes_41 43 rfl (by decide) ?_
                refine pv_iload_n (M := mX12_laysComes) 2 dX12_laysComes_43 44 rfl rfl rfl ?_
                refine iv_imul (M := mX12_laysComes) (X := 8) (Y := y19.toInt) dX12_laysComes_44 45 rfl (by decide) rfl (by omega) (by omega) (fun v35 ev35 => ?_)
                refine pv_iload_n (M := mX12_laysComes) 1 dX12_laysComes_45 46 rfl rfl rfl ?_
                refine iv_iadd (M := mX12_laysComes) (X := v35.toInt) (Y := y1.toInt) dX12_laysComes_46 47 rfl rfl rfl (by omega) (by omega) (fun v36 ev36 => ?_)
                refine pv_aload_n (M := mX12_laysComes) 0 dX12_laysComes_47 48 rfl rfl rfl ?_
                refine pv_iload_n (M := mX12_laysComes) 2 dX12_laysComes_48 49 rfl rfl rfl ?_
                refine pv_callv (M := mX12_laysComes) (as := [.int y19]) (st := [.int v36, .ref 165]) (kc2 := 0) (ks2 := 0) dX12_laysComes_49 wd1558 YX12_isDeed ⟨wd1560, wd87⟩ (mk_get (tl123 hT)) rfl rfl (s_X12_isDeed g hT I22 y19) rfl rfl (Nat.le_of_ble_eq_true rfl) (by decide) rfl rfl 52 rfl (fun rv h1 q37 => ?_)
                obtain ⟨v38, rfl, rfl, pv38, qv38, rv38⟩ := q37
                show PV _ _ _ _ _ _ _ 52 [.ref 123, .int y1, .int y19] [.int v38, .int v36, .ref 165] _
                refine pv_if_eq (M := mX12_laysComes) (tgt := 67) dX12_laysComes_52 55 rfl (by decide) (fun c39 => ?_) (fun c39 => ?_)
                · have c39 := iv_eq (X := v38.toInt) (Y := 0) c39 rfl (by decide)
                  refine pv_iconst (M := mX12_laysComes) (v := 0) dX12_laysComes_67 68 rfl (by decide) ?_
                  refine iv_zast (M := mX12_laysComes) (X := v36.toInt) dX12_laysComes_68 (tl165 hT) rfl (by omega) (by omega) I22 (fun _ => rfl) (y := 0) (by decide) (by decide) (by decide) 69 rfl (fun m40 e43 I41 => ?_)
                  have K42 := K23.set e43 rfl
                  refine iv_inc (M := mX12_laysComes) (C := 1) dX12_laysComes_69 72 rfl rfl (by decide) rfl rfl (by decide) (by omega) (by omega) (fun v44 ev44 => ?_)
                  show PV _ _ _ _ _ _ _ 72 [.ref 123, .int y1, .int v44] [] _
                  refine pv_goto (M := mX12_laysComes) (tgt := 18) dX12_laysComes_72 (by decide) ?_
                  exact ih26 v44 m40 n21 (by first | omega | decide) (by first | omega | decide) I41 K42 (by omega)
                · have pc39 := rv38.resolve_left c39
                  have c39 := iv_ne (X := v38.toInt) (Y := 0) c39 rfl (by decide)
                  refine pv_aload_n (M := mX12_laysComes) 0 dX12_laysComes_55 56 rfl rfl rfl ?_
                  refine pv_iconst (M := mX12_laysComes) (v := (-1)) dX12_laysComes_56 57 rfl (by decide) ?_
                  refine pv_callv (M := mX12_laysComes) (as := [.int (-1)]) (st := [.int v36, .ref 165]) (kc2 := 0) (ks2 := 0) dX12_laysComes_57 wd1696 YX12_comesWithout ⟨wd1698, wd108⟩ (mk_get (tl123 hT)) rfl rfl (s_X12_comesWithout g hT I22 (-1)) rfl rfl (Nat.le_of_ble_eq_true rfl) (by decide) rfl rfl 60 rfl (fun rv h1 q45 => ?_)
                  obtain ⟨v46, rfl, rfl, pv46, qv46, rv46⟩ := q45
                  show PV _ _ _ _ _ _ _ 60 [.ref 123, .int y1, .int y19] [.int v46, .int v36, .ref 165] _
                  refine pv_if_eq (M := mX12_laysComes) (tgt := 67) dX12_laysComes_60 63 rfl (by decide) (fun c47 => ?_) (fun c47 => ?_)
                  · have c47 := iv_eq (X := v46.toInt) (Y := 0) c47 rfl (by decide)
                    refine pv_iconst (M := mX12_laysComes) (v := 0) dX12_laysComes_67 68 rfl (by decide) ?_
                    refine iv_zast (M := mX12_laysComes) (X := v36.toInt) dX12_laysComes_68 (tl165 hT) rfl (by omega) (by omega) I22 (fun _ => rfl) (y := 0) (by decide) (by decide) (by decide) 69 rfl (fun m48 e51 I49 => ?_)
                    have K50 := K23.set e51 rfl
                    refine iv_inc (M := mX12_laysComes) (C := 1) dX12_laysComes_69 72 rfl rfl (by decide) rfl rfl (by decide) (by omega) (by omega) (fun v52 ev52 => ?_)
                    show PV _ _ _ _ _ _ _ 72 [.ref 123, .int y1, .int v52] [] _
                    refine pv_goto (M := mX12_laysComes) (tgt := 18) dX12_laysComes_72 (by decide) ?_
                    exact ih26 v52 m48 n21 (by first | omega | decide) (by first | omega | decide) I49 K50 (by omega)
                  · have c47 := iv_ne (X := v46.toInt) (Y := 0) c47 rfl (by decide)
                    refine pv_iconst (M := mX12_laysComes) (v := 1) dX12_laysComes_63 64 rfl (by decide) ?_
                    refine pv_goto (M := mX12_laysComes) (tgt := 68) dX12_laysComes_64 (by decide) ?_
                    refine iv_zast (M := mX12_laysComes) (X := v36.toInt) dX12_laysComes_68 (tl165 hT) rfl (by omega) (by omega) I22 (fun _ => rfl) (y := 1) (by decide) (by decide) (by decide) 69 rfl (fun m53 e56 I54 => ?_)
                    have K55 := K23.set e56 rfl
                    refine iv_inc (M := mX12_laysComes) (C := 1) dX12_laysComes_69 72 rfl rfl (by decide) rfl rfl (by decide) (by omega) (by omega) (fun v57 ev57 => ?_)
                    show PV _ _ _ _ _ _ _ 72 [.ref 123, .int y1, .int v57] [] _
                    refine pv_goto (M := mX12_laysComes) (tgt := 18) dX12_laysComes_72 (by decide) ?_
                    exact ih26 v57 m53 n21 (by first | omega | decide) (by first | omega | decide) I54 K55 (by omega)
              · have pc34 := rv33.resolve_left c34
                have c34 := iv_ne (X := v33.toInt) (Y := 0) c34 rfl (by decide)
                refine pv_aload_n (M := mX12_laysComes) 0 dX12_laysComes_32 33 rfl rfl rfl ?_
                refine pv_iload_n (M := mX12_laysComes) 2 dX12_laysComes_33 34 rfl rfl rfl ?_
                refine pv_callv (M := mX12_laysComes) (as := [.int y19]) (st := []) (kc2 := 0) (ks2 := 0) dX12_laysComes_34 wd1567 YX12_laysDeed ⟨wd1569, wd89⟩ (mk_get (tl123 hT)) rfl rfl (s_X12_laysDeed g hT I22 y19 (by omega) (by omega)) rfl rfl (Nat.le_of_ble_eq_true rfl) (by decide) rfl rfl 37 rfl (fun rv h1 q58 => ?_)
                obtain ⟨m59, n60, rfl, rfl, I61, K62⟩ := q58
                have K62 := K23.trans K62
                show PV _ _ _ _ _ _ _ 37 [.ref 123, .int y1, .int y19] [] _
                refine pv_aload_n (M := mX12_laysComes) 0 dX12_laysComes_37 38 rfl rfl rfl ?_
                refine mv_get (M := mX12_laysComes) (v := .ref 165) dX12_laysComes_38 FX12 59 wd1232 (by decide) (tl123 hT) rfl rfl 41 rfl ?_
                refine pv_bipush (M := mX12_laysComes) (v := 8) dX12_laysComes_41 43 rfl (by decide) ?_
                refine pv_iload_n (M := mX12_laysComes) 2 dX12_laysComes_43 44 rfl rfl rfl ?_
                refine iv_imul (M := mX12_laysComes) (X := 8) (Y := y19.toInt) dX12_laysComes_44 45 rfl (by decide) rfl (by omega) (by omega) (fun v63 ev63 => ?_)
                refine pv_iload_n (M := mX12_laysComes) 1 dX12_laysComes_45 46 rfl rfl rfl ?_
                refine iv_iadd (M := mX12_laysComes) (X := v63.toInt) (Y := y1.toInt) dX12_laysComes_46 47 rfl rfl rfl (by omega) (by omega) (fun v64 ev64 => ?_)
                refine pv_aload_n (M := mX12_laysComes) 0 dX12_laysComes_47 48 rfl rfl rfl ?_
                refine pv_iload_n (M := mX12_laysComes) 2 dX12_laysComes_48 49 rfl rfl rfl ?_
                refine pv_callv (M := mX12_laysComes) (as := [.int y19]) (st := [.int v64, .ref 165]) (kc2 := 0) (ks2 := 0) dX12_laysComes_49 wd1558 YX12_isDeed ⟨wd1560, wd87⟩ (mk_get (tl123 hT)) rfl rfl (s_X12_isDeed g hT I61 y19) rfl rfl (Nat.le_of_ble_eq_true rfl) (by decide) rfl rfl 52 rfl (fun rv h1 q65 => ?_)
                obtain ⟨v66, rfl, rfl, pv66, qv66, rv66⟩ := q65
                show PV _ _ _ _ _ _ _ 52 [.ref 123, .int y1, .int y19] [.int v66, .int v64, .ref 165] _
                refine pv_if_eq (M := mX12_laysComes) (tgt := 67) dX12_laysComes_52 55 rfl (by decide) (fun c67 => ?_) (fun c67 => ?_)
                · have c67 := iv_eq (X := v66.toInt) (Y := 0) c67 rfl (by decide)
                  refine pv_iconst (M := mX12_laysComes) (v := 0) dX12_laysComes_67 68 rfl (by decide) ?_
                  refine iv_zast (M := mX12_laysComes) (X := v64.toInt) dX12_laysComes_68 (tl165 hT) rfl (by omega) (by omega) I61 (fun _ => rfl) (y := 0) (by decide) (by decide) (by decide) 69 rfl (fun m68 e71 I69 => ?_)
                  have K70 := K62.set e71 rfl
                  refine iv_inc (M := mX12_laysComes) (C := 1) dX12_laysComes_69 72 rfl rfl (by decide) rfl rfl (by decide) (by omega) (by omega) (fun v72 ev72 => ?_)
                  show PV _ _ _ _ _ _ _ 72 [.ref 123, .int y1, .int v72] [] _
                  refine pv_goto (M := mX12_laysComes) (tgt := 18) dX12_laysComes_72 (by decide) ?_
                  exact ih26 v72 m68 n60 (by first | omega | decide) (by first | omega | decide) I69 K70 (by omega)
                · have pc67 := rv66.resolve_left c67
                  have c67 := iv_ne (X := v66.toInt) (Y := 0) c67 rfl (by decide)
                  refine pv_aload_n (M := mX12_laysComes) 0 dX12_laysComes_55 56 rfl rfl rfl ?_
                  refine pv_iconst (M := mX12_laysComes) (v := (-1)) dX12_laysComes_56 57 rfl (by decide) ?_
                  refine pv_callv (M := mX12_laysComes) (as := [.int (-1)]) (st := [.int v64, .ref 165]) (kc2 := 0) (ks2 := 0) dX12_laysComes_57 wd1696 YX12_comesWithout ⟨wd1698, wd108⟩ (mk_get (tl123 hT)) rfl rfl (s_X12_comesWithout g hT I61 (-1)) rfl rfl (Nat.le_of_ble_eq_true rfl) (by decide) rfl rfl 60 rfl (fun rv h1 q73 => ?_)
                  obtain ⟨v74, rfl, rfl, pv74, qv74, rv74⟩ := q73
                  show PV _ _ _ _ _ _ _ 60 [.ref 123, .int y1, .int y19] [.int v74, .int v64, .ref 165] _
                  refine pv_if_eq (M := mX12_laysComes) (tgt := 67) dX12_laysComes_60 63 rfl (by decide) (fun c75 => ?_) (fun c75 => ?_)
                  · have c75 := iv_eq (X := v74.toInt) (Y := 0) c75 rfl (by decide)
                    refine pv_iconst (M := mX12_laysComes) (v := 0) dX12_laysComes_67 68 rfl (by decide) ?_
                    refine iv_zast (M := mX12_laysComes) (X := v64.toInt) dX12_laysComes_68 (tl165 hT) rfl (by omega) (by omega) I61 (fun _ => rfl) (y := 0) (by decide) (by decide) (by decide) 69 rfl (fun m76 e79 I77 => ?_)
                    have K78 := K62.set e79 rfl
                    refine iv_inc (M := mX12_laysComes) (C := 1) dX12_laysComes_69 72 rfl rfl (by decide) rfl rfl (by decide) (by omega) (by omega) (fun v80 ev80 => ?_)
                    show PV _ _ _ _ _ _ _ 72 [.ref 123, .int y1, .int v80] [] _
                    refine pv_goto (M := mX12_laysComes) (tgt := 18) dX12_laysComes_72 (by decide) ?_
                    exact ih26 v80 m76 n60 (by first | omega | decide) (by first | omega | decide) I77 K78 (by omega)
                  · have c75 := iv_ne (X := v74.toInt) (Y := 0) c75 rfl (by decide)
                    refine pv_iconst (M := mX12_laysComes) (v := 1) dX12_laysComes_63 64 rfl (by decide) ?_
                    refine pv_goto (M := mX12_laysComes) (tgt := 68) dX12_laysComes_64 (by decide) ?_
                    refine iv_zast (M := mX12_laysComes) (X := v64.toInt) dX12_laysComes_68 (tl165 hT) rfl (by omega) (by omega) I61 (fun _ => rfl) (y := 1) (by decide) (by decide) (by decide) 69 rfl (fun m81 e84 I82 => ?_)
                    have K83 := K62.set e84 rfl
                    refine iv_inc (M := mX12_laysComes) (C := 1) dX12_laysComes_69 72 rfl rfl (by decide) rfl rfl (by decide) (by omega) (by omega) (fun v85 ev85 => ?_)
                    show PV _ _ _ _ _ _ _ 72 [.ref 123, .int y1, .int v85] [] _
                    refine pv_goto (M := mX12_laysComes) (tgt := 18) dX12_laysComes_72 (by decide) ?_
                    exact ih26 v85 m81 n60 (by first | omega | decide) (by first | omega | decide) I82 K83 (by omega)
        have z86 : (0 : Int32).toInt = 0 := by decide
        exact lp25 (((8 - 0) : Int).toNat + 1) 0 m15 n16 (by first | omega | decide) (by first | omega | decide) I17 K18 (by omega)
  have z87 : (0 : Int32).toInt = 0 := by decide
  exact lp7 (((8 - 0) : Int).toNat + 1) 0 m n (by first | omega | decide) (by first | omega | decide) I Kp (by omega)

set_option maxHeartbeats 1000000 in
set_option maxRecDepth 20000 in
theorem s_X12_fewestStrokes (g : pv_G) {T : List mv_T} {m : Nat → Nat → Int32} {n : Nat → Nat → Int64} {r : Nat → Value} (hT : TX T) (I : IV BB m) (x0 : Int32) (hl0 : 1 ≤ x0.toInt) (hh0 : x0.toInt ≤ 9) : PM g mX12_fewestStrokes yX12_fewestStrokes (sqI T BB r m 0 1999999998 (fun v => True)) 2 0 0 [.ref 123, .int x0] (mk T m n r) := by
  have Kp : kp m m := kp.rf
  refine PM.of 4 (lo := [.ref 123, .int x0, pv_U, pv_U, pv_U, pv_U]) rfl (by decide) rfl rfl (Nat.le_of_ble_eq_true rfl) ?_
  refine pv_iconst (M := mX12_fewestStrokes) (v := 0) dX12_fewestStrokes_0 1 rfl (by decide) ?_
  refine pv_istore_n (M := mX12_fewestStrokes) 2 (lo2 := [.ref 123, .int x0, .int 0, pv_U, pv_U, pv_U]) dX12_fewestStrokes_1 2 rfl rfl (by decide) rfl rfl ?_
  have lp7 : ∀ (fuel6 : Nat) (y1 : Int32) (m2 : Nat → Nat → Int32) (n3 : Nat → Nat → Int64), (0 ≤ y1.toInt) → (y1.toInt ≤ 17) → IV BB m2 → kp m m2 → ((17 - y1.toInt) : Int).toNat < fuel6 → PV none g mX12_fewestStrokes (sqI T BB r m 0 1999999998 (fun v => True)) 2 0 0 2 [.ref 123, .int x0, .int y1, pv_U, pv_U, pv_U] [] (mk T m2 n3 r) := by
    intro fuel6
    induction fuel6 with
    | zero => intro y1 m2 n3 b9 b10 I4 K5 z11; omega
    | succ fuel6 ih8 =>
      intro y1 m2 n3 b9 b10 I4 K5 z11
      refine pv_iload_n (M := mX12_fewestStrokes) 2 dX12_fewestStrokes_2 3 rfl rfl rfl ?_
      refine pv_aload_n (M := mX12_fewestStrokes) 0 dX12_fewestStrokes_3 4 rfl rfl rfl ?_
      refine iv_get (M := mX12_fewestStrokes) dX12_fewestStrokes_4 FX12 41 wd1214 (by decide) (tl123 hT) rfl I4 rfl 7 rfl (fun v12 ev12 pv12 qv12 => ?_)
      have pv12 : 0 ≤ v12.toInt := pv12
      have qv12 : v12.toInt ≤ 16 := qv12
      have wv12 : v12.toInt = (m2 123 41).toInt := congrArg Int32.toInt ev12
      refine pv_icmp_gt (M := mX12_fewestStrokes) (tgt := 140) dX12_fewestStrokes_7 10 rfl (by decide) (fun c13 => ?_) (fun c13 => ?_)
      · have c13 := iv_lt (X := v12.toInt) (Y := y1.toInt) c13 rfl rfl
        refine pv_ldcw (M := mX12_fewestStrokes) (v := 1000000000) dX12_fewestStrokes_140 143 rfl wd1583 ?_
        refine pv_istore_n (M := mX12_fewestStrokes) 2 (lo2 := [.ref 123, .int x0, .int 1000000000, pv_U, pv_U, pv_U]) dX12_fewestStrokes_143 144 rfl rfl (by decide) rfl rfl ?_
        refine pv_iconst (M := mX12_fewestStrokes) (v := 0) dX12_fewestStrokes_144 145 rfl (by decide) ?_
        refine pv_istore_n (M := mX12_fewestStrokes) 3 (lo2 := [.ref 123, .int x0, .int 1000000000, .int 0, pv_U, pv_U]) dX12_fewestStrokes_145 146 rfl rfl (by decide) rfl rfl ?_
        have lp21 : ∀ (fuel20 : Nat) (y14 : Int32) (y15 : Int32), (0 ≤ y14.toInt) → (y14.toInt ≤ 1999999998) → (0 ≤ y15.toInt) → (y15.toInt ≤ 41) → ((41 - y15.toInt) : Int).toNat < fuel20 → PV none g mX12_fewestStrokes (sqI T BB r m 0 1999999998 (fun v => True)) 2 0 0 146 [.ref 123, .int x0, .int y14, .int y15, pv_U, pv_U] [] (mk T m2 n3 r) := by
          intro fuel20
          induction fuel20 with
          | zero => intro y14 y15 b23 b24 b25 b26 z27; omega
          | succ fuel20 ih22 =>
            intro y14 y15 b23 b24 b25 b26 z27
            refine pv_iload_n (M := mX12_fewestStrokes) 3 dX12_fewestStrokes_146 147 rfl rfl rfl ?_
            refine pv_aload_n (M := mX12_fewestStrokes) 0 dX12_fewestStrokes_147 148 rfl rfl rfl ?_
            refine iv_get (M := mX12_fewestStrokes) dX12_fewestStrokes_148 FX12 40 wd1213 (by decide) (tl123 hT) rfl I4 rfl 151 rfl (fun v28 ev28 pv28 qv28 => ?_)
            have pv28 : 0 ≤ v28.toInt := pv28
            have qv28 : v28.toInt ≤ 40 := qv28
            have wv28 : v28.toInt = (m2 123 40).toInt := congrArg Int32.toInt ev28
            refine pv_icmp_gt (M := mX12_fewestStrokes) (tgt := 194) dX12_fewestStrokes_151 154 rfl (by decide) (fun c29 => ?_) (fun c29 => ?_)
            · have c29 := iv_lt (X := v28.toInt) (Y := y15.toInt) c29 rfl rfl
              refine pv_iload_n (M := mX12_fewestStrokes) 2 dX12_fewestStrokes_194 195 rfl rfl rfl ?_
              exact pv_iret (M := mX12_fewestStrokes) dX12_fewestStrokes_195 rfl rfl ⟨_, _, _, rfl, rfl, I4, K5, by omega, by omega, trivial⟩
            · have c29 := iv_nlt (X := v28.toInt) (Y := y15.toInt) c29 rfl rfl
              refine pv_iload_n (M := mX12_fewestStrokes) 2 dX12_fewestStrokes_154 155 rfl rfl rfl ?_
              refine pv_aload_n (M := mX12_fewestStrokes) 0 dX12_fewestStrokes_155 156 rfl rfl rfl ?_
              refine mv_get (M := mX12_fewestStrokes) (v := .ref 155) dX12_fewestStrokes_156 FX12 48 wd1221 (by decide) (tl123 hT) rfl rfl 159 rfl ?_
              refine pv_bipush (M := mX12_fewestStrokes) (v := 17) dX12_fewestStrokes_159 161 rfl (by decide) ?_
              refine pv_iload_n (M := mX12_fewestStrokes) 3 dX12_fewestStrokes_161 162 rfl rfl rfl ?_
              refine iv_imul (M := mX12_fewestStrokes) (X := 17) (Y := y15.toInt) dX12_fewestStrokes_162 163 rfl (by decide) rfl (by omega) (by omega) (fun v30 ev30 => ?_)
              refine pv_aload_n (M := mX12_fewestStrokes) 0 dX12_fewestStrokes_163 164 rfl rfl rfl ?_
              refine iv_get (M := mX12_fewestStrokes) dX12_fewestStrokes_164 FX12 41 wd1214 (by decide) (tl123 hT) rfl I4 rfl 167 rfl (fun v31 ev31 pv31 qv31 => ?_)
              have pv31 : 0 ≤ v31.toInt := pv31
              have qv31 : v31.toInt ≤ 16 := qv31
              have wv31 : v31.toInt = (m2 123 41).toInt := congrArg Int32.toInt ev31
              refine iv_iadd (M := mX12_fewestStrokes) (X := v30.toInt) (Y := v31.toInt) dX12_fewestStrokes_167 168 rfl rfl rfl (by omega) (by omega) (fun v32 ev32 => ?_)
              refine iv_iald (M := mX12_fewestStrokes) (X := v32.toInt) dX12_fewestStrokes_168 (tl155 hT) rfl (by omega) (by omega) I4 (fun _ => rfl) 169 rfl (fun v33 ev33 pv33 qv33 => ?_)
              have pv33 : 0 ≤ v33.toInt := pv33
              have qv33 : v33.toInt ≤ 1999999998 := qv33
              refine pv_aload_n (M := mX12_fewestStrokes) 0 dX12_fewestStrokes_169 170 rfl rfl rfl ?_
              refine iv_get (M := mX12_fewestStrokes) dX12_fewestStrokes_170 FX12 40 wd1213 (by decide) (tl123 hT) rfl I4 rfl 173 rfl (fun v34 ev34 pv34 qv34 => ?_)
              have pv34 : 0 ≤ v34.toInt := pv34
              have qv34 : v34.toInt ≤ 40 := qv34
              have wv34 : v34.toInt = (m2 123 40).toInt := congrArg Int32.toInt ev34
              refine pv_iload_n (M := mX12_fewestStrokes) 3 dX12_fewestStrokes_173 174 rfl rfl rfl ?_
              refine iv_isub (M := mX12_fewestStrokes) (X := v34.toInt) (Y := y15.toInt) dX12_fewestStrokes_174 175 rfl rfl rfl (by omega) (by omega) (fun v35 ev35 => ?_)
              refine pv_iload_n (M := mX12_fewestStrokes) 1 dX12_fewestStrokes_175 176 rfl rfl rfl ?_
              refine iv_iadd (M := mX12_fewestStrokes) (X := v35.toInt) (Y := x0.toInt) dX12_fewestStrokes_176 177 rfl rfl rfl (by omega) (by omega) (fun v36 ev36 => ?_)
              refine pv_iconst (M := mX12_fewestStrokes) (v := 1) dX12_fewestStrokes_177 178 rfl (by decide) ?_
              refine iv_isub (M := mX12_fewestStrokes) (X := v36.toInt) (Y := 1) dX12_fewestStrokes_178 179 rfl rfl (by decide) (by omega) (by omega) (fun v37 ev37 => ?_)
              refine pv_iload_n (M := mX12_fewestStrokes) 1 dX12_fewestStrokes_179 180 rfl rfl rfl ?_
              refine iv_idivb (M := mX12_fewestStrokes) (X := v37.toInt) (Y := x0.toInt) dX12_fewestStrokes_180 181 rfl rfl rfl (by omega) (by omega) (fun v38 ev38 fv38 => ?_)
              refine pv_calls (M := mX12_fewestStrokes) (as := [.int v33, .int v38]) (st := [.int y14]) (kc2 := 0) (ks2 := 0) dX12_fewestStrokes_181 wd1588 YX12_sum wd1589 (s_X12_sum g hT I4 v33 (by omega) (by omega) v38 (by omega) (by omega)) rfl rfl (Nat.le_of_ble_eq_true rfl) (by decide) rfl rfl 184 rfl (fun rv h1 q39 => ?_)
              obtain ⟨v40, rfl, rfl, pv40, qv40, rv40⟩ := q39
              show PV _ _ _ _ _ _ _ 184 [.ref 123, .int x0, .int y14, .int y15, pv_U, pv_U] [.int v40, .int y14] _
              refine pv_calls (M := mX12_fewestStrokes) (as := [.int y14, .int v40]) (st := []) (kc2 := 0) (ks2 := 0) dX12_fewestStrokes_184 wd1611 YX12_least wd1612 (s_X12_least g hT I4 y14 (by omega) (by omega) v40 (by omega) (by omega)) rfl rfl (Nat.le_of_ble_eq_true rfl) (by decide) rfl rfl 187 rfl (fun rv h1 q41 => ?_)
              obtain ⟨v42, rfl, rfl, pv42, qv42, rv42⟩ := q41
              show PV _ _ _ _ _ _ _ 187 [.ref 123, .int x0, .int y14, .int y15, pv_U, pv_U] [.int v42] _
              refine pv_istore_n (M := mX12_fewestStrokes) 2 (lo2 := [.ref 123, .int x0, .int v42, .int y15, pv_U, pv_U]) dX12_fewestStrokes_187 188 rfl rfl (by decide) rfl rfl ?_
              refine iv_inc (M := mX12_fewestStrokes) (C := 1) dX12_fewestStrokes_188 191 rfl rfl (by decide) rfl rfl (by decide) (by omega) (by omega) (fun v43 ev43 => ?_)
              show PV _ _ _ _ _ _ _ 191 [.ref 123, .int x0, .int v42, .int v43, pv_U, pv_U] [] _
              refine pv_goto (M := mX12_fewestStrokes) (tgt := 146) dX12_fewestStrokes_191 (by decide) ?_
              exact ih22 v42 v43 (by first | omega | decide) (by first | omega | decide) (by first | omega | decide) (by first | omega | decide) (by omega)
        have z44 : (1000000000 : Int32).toInt = 1000000000 := by decide
        have z45 : (0 : Int32).toInt = 0 := by decide
        exact lp21 (((41 - 0) : Int).toNat + 1) 1000000000 0 (by first | omega | decide) (by first | omega | decide) (by first | omega | decide) (by first | omega | decide) (by omega)
      · have c13 := iv_nlt (X := v12.toInt) (Y := y1.toInt) c13 rfl rfl
        refine pv_iconst (M := mX12_fewestStrokes) (v := 0) dX12_fewestStrokes_10 11 rfl (by decide) ?_
        refine pv_istore_n (M := mX12_fewestStrokes) 3 (lo2 := [.ref 123, .int x0, .int y1, .int 0, pv_U, pv_U]) dX12_fewestStrokes_11 12 rfl rfl (by decide) rfl rfl ?_
        have lp52 : ∀ (fuel51 : Nat) (y46 : Int32) (m47 : Nat → Nat → Int32) (n48 : Nat → Nat → Int64), (0 ≤ y46.toInt) → (y46.toInt ≤ 41) → IV BB m47 → kp m m47 → ((41 - y46.toInt) : Int).toNat < fuel51 → PV none g mX12_fewestStrokes (sqI T BB r m 0 1999999998 (fun v => True)) 2 0 0 12 [.ref 123, .int x0, .int y1, .int y46, pv_U, pv_U] [] (mk T m47 n48 r) := by
          intro fuel51
          induction fuel51 with
          | zero => intro y46 m47 n48 b54 b55 I49 K50 z56; omega
          | succ fuel51 ih53 =>
            intro y46 m47 n48 b54 b55 I49 K50 z56
            refine pv_iload_n (M := mX12_fewestStrokes) 3 dX12_fewestStrokes_12 13 rfl rfl rfl ?_
            refine pv_aload_n (M := mX12_fewestStrokes) 0 dX12_fewestStrokes_13 14 rfl rfl rfl ?_
            refine iv_get (M := mX12_fewestStrokes) dX12_fewestStrokes_14 FX12 40 wd1213 (by decide) (tl123 hT) rfl I49 rfl 17 rfl (fun v57 ev57 pv57 qv57 => ?_)
            have pv57 : 0 ≤ v57.toInt := pv57
            have qv57 : v57.toInt ≤ 40 := qv57
            have wv57 : v57.toInt = (m47 123 40).toInt := congrArg Int32.toInt ev57
            refine pv_icmp_gt (M := mX12_fewestStrokes) (tgt := 134) dX12_fewestStrokes_17 20 rfl (by decide) (fun c58 => ?_) (fun c58 => ?_)
            · have c58 := iv_lt (X := v57.toInt) (Y := y46.toInt) c58 rfl rfl
              refine iv_inc (M := mX12_fewestStrokes) (C := 1) dX12_fewestStrokes_134 137 rfl rfl (by decide) rfl rfl (by decide) (by omega) (by omega) (fun v59 ev59 => ?_)
              show PV _ _ _ _ _ _ _ 137 [.ref 123, .int x0, .int v59, .int y46, pv_U, pv_U] [] _
              refine pv_goto (M := mX12_fewestStrokes) (tgt := 2) dX12_fewestStrokes_137 (by decide) ?_
              refine pv_fg (lo2 := [.ref 123, .int x0, .int v59, pv_U, pv_U, pv_U]) ⟨Or.inr rfl, ⟨Or.inr rfl, ⟨Or.inr rfl, ⟨Or.inl rfl, ⟨Or.inl rfl, ⟨Or.inl rfl, trivial⟩⟩⟩⟩⟩⟩ ?_
              exact ih8 v59 m47 n48 (by first | omega | decide) (by first | omega | decide) I49 K50 (by omega)
            · have c58 := iv_nlt (X := v57.toInt) (Y := y46.toInt) c58 rfl rfl
              refine pv_iload_n (M := mX12_fewestStrokes) 2 dX12_fewestStrokes_20 21 rfl rfl rfl ?_
              refine pv_if_ne (M := mX12_fewestStrokes) (tgt := 32) dX12_fewestStrokes_21 24 rfl (by decide) (fun c60 => ?_) (fun c60 => ?_)
              · have c60 := iv_ne (X := y1.toInt) (Y := 0) c60 rfl (by decide)
                refine pv_ldcw (M := mX12_fewestStrokes) (v := 1000000000) dX12_fewestStrokes_32 35 rfl wd1583 ?_
                refine pv_istore (M := mX12_fewestStrokes) (lo2 := [.ref 123, .int x0, .int y1, .int y46, .int 1000000000, pv_U]) dX12_fewestStrokes_35 37 rfl (by decide) rfl rfl ?_
                refine pv_iload_n (M := mX12_fewestStrokes) 2 dX12_fewestStrokes_37 38 rfl rfl rfl ?_
                refine pv_if_le (M := mX12_fewestStrokes) (tgt := 115) dX12_fewestStrokes_38 41 rfl (by decide) (fun c61 => ?_) (fun c61 => ?_)
                · have c61 := iv_le (X := y1.toInt) (Y := 0) c61 rfl (by decide)
                  refine pv_aload_n (M := mX12_fewestStrokes) 0 dX12_fewestStrokes_115 116 rfl rfl rfl ?_
                  refine mv_get (M := mX12_fewestStrokes) (v := .ref 155) dX12_fewestStrokes_116 FX12 48 wd1221 (by decide) (tl123 hT) rfl rfl 119 rfl ?_
                  refine pv_bipush (M := mX12_fewestStrokes) (v := 17) dX12_fewestStrokes_119 121 rfl (by decide) ?_
                  refine pv_iload_n (M := mX12_fewestStrokes) 3 dX12_fewestStrokes_121 122 rfl rfl rfl ?_
                  refine iv_imul (M := mX12_fewestStrokes) (X := 17) (Y := y46.toInt) dX12_fewestStrokes_122 123 rfl (by decide) rfl (by omega) (by omega) (fun v62 ev62 => ?_)
                  refine pv_iload_n (M := mX12_fewestStrokes) 2 dX12_fewestStrokes_123 124 rfl rfl rfl ?_
                  refine iv_iadd (M := mX12_fewestStrokes) (X := v62.toInt) (Y := y1.toInt) dX12_fewestStrokes_124 125 rfl rfl rfl (by omega) (by omega) (fun v63 ev63 => ?_)
                  refine pv_iload (M := mX12_fewestStrokes) dX12_fewestStrokes_125 127 rfl rfl ?_
                  refine iv_iast (M := mX12_fewestStrokes) (X := v63.toInt) dX12_fewestStrokes_127 (tl155 hT) rfl (by omega) (by omega) I49 (fun _ => rfl) (by decide) (by decide) 128 rfl (fun m64 e67 I65 => ?_)
                  have K66 := K50.set e67 rfl
                  have w68 : (m64 123 40).toInt = (m47 123 40).toInt := by rw [e67, up2_ne (by omega)]
                  have w69 : (m64 123 41).toInt = (m47 123 41).toInt := by rw [e67, up2_ne (by omega)]
                  refine iv_inc (M := mX12_fewestStrokes) (C := 1) dX12_fewestStrokes_128 131 rfl rfl (by decide) rfl rfl (by decide) (by omega) (by omega) (fun v70 ev70 => ?_)
                  show PV _ _ _ _ _ _ _ 131 [.ref 123, .int x0, .int y1, .int v70, .int 1000000000, pv_U] [] _
                  refine pv_goto (M := mX12_fewestStrokes) (tgt := 12) dX12_fewestStrokes_131 (by decide) ?_
                  refine pv_fg (lo2 := [.ref 123, .int x0, .int y1, .int v70, pv_U, pv_U]) ⟨Or.inr rfl, ⟨Or.inr rfl, ⟨Or.inr rfl, ⟨Or.inr rfl, ⟨Or.inl rfl, ⟨Or.inl rfl, trivial⟩⟩⟩⟩⟩⟩ ?_
                  exact ih53 v70 m64 n48 (by first | omega | decide) (by first | omega | decide) I65 K66 (by omega)
                · have c61 := iv_nle (X := y1.toInt) (Y := 0) c61 rfl (by decide)
                  refine pv_iload_n (M := mX12_fewestStrokes) 3 dX12_fewestStrokes_41 42 rfl rfl rfl ?_
                  refine pv_if_le (M := mX12_fewestStrokes) (tgt := 115) dX12_fewestStrokes_42 45 rfl (by decide) (fun c71 => ?_) (fun c71 => ?_)
                  · have c71 := iv_le (X := y46.toInt) (Y := 0) c71 rfl (by decide)
                    refine pv_aload_n (M := mX12_fewestStrokes) 0 dX12_fewestStrokes_115 116 rfl rfl rfl ?_
                    refine mv_get (M := mX12_fewestStrokes) (v := .ref 155) dX12_fewestStrokes_116 FX12 48 wd1221 (by decide) (tl123 hT) rfl rfl 119 rfl ?_
                    refine pv_bipush (M := mX12_fewestStrokes) (v := 17) dX12_fewestStrokes_119 121 rfl (by decide) ?_
                    refine pv_iload_n (M := mX12_fewestStrokes) 3 dX12_fewestStrokes_121 122 rfl rfl rfl ?_
                    refine iv_imul (M := mX12_fewestStrokes) (X := 17) (Y := y46.toInt) dX12_fewestStrokes_122 123 rfl (by decide) rfl (by omega) (by omega) (fun v72 ev72 => ?_)
                    refine pv_iload_n (M := mX12_fewestStrokes) 2 dX12_fewestStrokes_123 124 rfl rfl rfl ?_
                    refine iv_iadd (M := mX12_fewestStrokes) (X := v72.toInt) (Y := y1.toInt) dX12_fewestStrokes_124 125 rfl rfl rfl (by omega) (by omega) (fun v73 ev73 => ?_)
                    refine pv_iload (M := mX12_fewestStrokes) dX12_fewestStrokes_125 127 rfl rfl ?_
                    refine iv_iast (M := mX12_fewestStrokes) (X := v73.toInt) dX12_fewestStrokes_127 (tl155 hT) rfl (by omega) (by omega) I49 (fun _ => rfl) (by decide) (by decide) 128 rfl (fun m74 e77 I75 => ?_)
                    have K76 := K50.set e77 rfl
                    have w78 : (m74 123 40).toInt = (m47 123 40).toInt := by rw [e77, up2_ne (by omega)]
                    have w79 : (m74 123 41).toInt = (m47 123 41).toInt := by rw [e77, up2_ne (by omega)]
                    refine iv_inc (M := mX12_fewestStrokes) (C := 1) dX12_fewestStrokes_128 131 rfl rfl (by decide) rfl rfl (by decide) (by omega) (by omega) (fun v80 ev80 => ?_)
                    show PV _ _ _ _ _ _ _ 131 [.ref 123, .int x0, .int y1, .int v80, .int 1000000000, pv_U] [] _
                    refine pv_goto (M := mX12_fewestStrokes) (tgt := 12) dX12_fewestStrokes_131 (by decide) ?_
                    refine pv_fg (lo2 := [.ref 123, .int x0, .int y1, .int v80, pv_U, pv_U]) ⟨Or.inr rfl, ⟨Or.inr rfl, ⟨Or.inr rfl, ⟨Or.inr rfl, ⟨Or.inl rfl, ⟨Or.inl rfl, trivial⟩⟩⟩⟩⟩⟩ ?_
                    exact ih53 v80 m74 n48 (by first | omega | decide) (by first | omega | decide) I75 K76 (by omega)
                  · have c71 := iv_nle (X := y46.toInt) (Y := 0) c71 rfl (by decide)
                    refine pv_aload_n (M := mX12_fewestStrokes) 0 dX12_fewestStrokes_45 46 rfl rfl rfl ?_
                    refine mv_get (M := mX12_fewestStrokes) (v := .ref 149) dX12_fewestStrokes_46 FX12 42 wd1215 (by decide) (tl123 hT) rfl rfl 49 rfl ?_
                    refine pv_iload_n (M := mX12_fewestStrokes) 3 dX12_fewestStrokes_49 50 rfl rfl rfl ?_
                    refine pv_iconst (M := mX12_fewestStrokes) (v := 1) dX12_fewestStrokes_50 51 rfl (by decide) ?_
                    refine iv_isub (M := mX12_fewestStrokes) (X := y46.toInt) (Y := 1) dX12_fewestStrokes_51 52 rfl rfl (by decide) (by omega) (by omega) (fun v81 ev81 => ?_)
                    refine iv_iald (M := mX12_fewestStrokes) (X := v81.toInt) dX12_fewestStrokes_52 (tl149 hT) rfl (by omega) (by omega) I49 (fun _ => rfl) 53 rfl (fun v82 ev82 pv82 qv82 => ?_)
                    have pv82 : 0 ≤ v82.toInt := pv82
                    have qv82 : v82.toInt ≤ 25 := qv82
                    refine pv_aload_n (M := mX12_fewestStrokes) 0 dX12_fewestStrokes_53 54 rfl rfl rfl ?_
                    refine mv_get (M := mX12_fewestStrokes) (v := .ref 150) dX12_fewestStrokes_54 FX12 43 wd1216 (by decide) (tl123 hT) rfl rfl 57 rfl ?_
                    refine pv_iload_n (M := mX12_fewestStrokes) 2 dX12_fewestStrokes_57 58 rfl rfl rfl ?_
                    refine pv_iconst (M := mX12_fewestStrokes) (v := 1) dX12_fewestStrokes_58 59 rfl (by decide) ?_
                    refine iv_isub (M := mX12_fewestStrokes) (X := y1.toInt) (Y := 1) dX12_fewestStrokes_59 60 rfl rfl (by decide) (by omega) (by omega) (fun v83 ev83 => ?_)
                    refine iv_iald (M := mX12_fewestStrokes) (X := v83.toInt) dX12_fewestStrokes_60 (tl150 hT) rfl (by omega) (by omega) I49 (fun _ => rfl) 61 rfl (fun v84 ev84 pv84 qv84 => ?_)
                    have pv84 : 0 ≤ v84.toInt := pv84
                    have qv84 : v84.toInt ≤ 25 := qv84
                    refine pv_icmp_ne (M := mX12_fewestStrokes) (tgt := 115) dX12_fewestStrokes_61 64 rfl (by decide) (fun c85 => ?_) (fun c85 => ?_)
                    · have c85 := iv_ne (X := v82.toInt) (Y := v84.toInt) c85 rfl rfl
                      refine pv_aload_n (M := mX12_fewestStrokes) 0 dX12_fewestStrokes_115 116 rfl rfl rfl ?_
                      refine mv_get (M := mX12_fewestStrokes) (v := .ref 155) dX12_fewestStrokes_116 FX12 48 wd1221 (by decide) (tl123 hT) rfl rfl 119 rfl ?_
                      refine pv_bipush (M := mX12_fewestStrokes) (v := 17) dX12_fewestStrokes_119 121 rfl (by decide) ?_
                      refine pv_iload_n (M := mX12_fewestStrokes) 3 dX12_fewestStrokes_121 122 rfl rfl rfl ?_
                      refine iv_imul (M := mX12_fewestStrokes) (X := 17) (Y := y46.toInt) dX12_fewestStrokes_122 123 rfl (by decide) rfl (by omega) (by omega) (fun v86 ev86 => ?_)
                      refine pv_iload_n (M := mX12_fewestStrokes) 2 dX12_fewestStrokes_123 124 rfl rfl rfl ?_
                      refine iv_iadd (M := mX12_fewestStrokes) (X := v86.toInt) (Y := y1.toInt) dX12_fewestStrokes_124 125 rfl rfl rfl (by omega) (by omega) (fun v87 ev87 => ?_)
                      refine pv_iload (M := mX12_fewestStrokes) dX12_fewestStrokes_125 127 rfl rfl ?_
                      refine iv_iast (M := mX12_fewestStrokes) (X := v87.toInt) dX12_fewestStrokes_127 (tl155 hT) rfl (by omega) (by omega) I49 (fun _ => rfl) (by decide) (by decide) 128 rfl (fun m88 e91 I89 => ?_)
                      have K90 := K50.set e91 rfl
                      have w92 : (m88 123 40).toInt = (m47 123 40).toInt := by rw [e91, up2_ne (by omega)]
                      have w93 : (m88 123 41).toInt = (m47 123 41).toInt := by rw [e91, up2_ne (by omega)]
                      refine iv_inc (M := mX12_fewestStrokes) (C := 1) dX12_fewestStrokes_128 131 rfl rfl (by decide) rfl rfl (by decide) (by omega) (by omega) (fun v94 ev94 => ?_)
                      show PV _ _ _ _ _ _ _ 131 [.ref 123, .int x0, .int y1, .int v94, .int 1000000000, pv_U] [] _
                      refine pv_goto (M := mX12_fewestStrokes) (tgt := 12) dX12_fewestStrokes_131 (by decide) ?_
                      refine pv_fg (lo2 := [.ref 123, .int x0, .int y1, .int v94, pv_U, pv_U]) ⟨Or.inr rfl, ⟨Or.inr rfl, ⟨Or.inr rfl, ⟨Or.inr rfl, ⟨Or.inl rfl, ⟨Or.inl rfl, trivial⟩⟩⟩⟩⟩⟩ ?_
                      exact ih53 v94 m88 n48 (by first | omega | decide) (by first | omega | decide) I89 K90 (by omega)
                    · have c85 := iv_eq (X := v82.toInt) (Y := v84.toInt) c85 rfl rfl
                      refine pv_iconst (M := mX12_fewestStrokes) (v := 0) dX12_fewestStrokes_64 65 rfl (by decide) ?_
                      refine pv_istore (M := mX12_fewestStrokes) (lo2 := [.ref 123, .int x0, .int y1, .int y46, .int 1000000000, .int 0]) dX12_fewestStrokes_65 67 rfl (by decide) rfl rfl ?_
                      have lp102 : ∀ (fuel101 : Nat) (y95 : Int32) (y96 : Int32), (0 ≤ y95.toInt) → (y95.toInt ≤ 1999999998) → (0 ≤ y96.toInt) → (y96.toInt ≤ 40) → ((40 - y96.toInt) : Int).toNat < fuel101 → PV none g mX12_fewestStrokes (sqI T BB r m 0 1999999998 (fun v => True)) 2 0 0 67 [.ref 123, .int x0, .int y1, .int y46, .int y95, .int y96] [] (mk T m47 n48 r) := by
                        intro fuel101
                        induction fuel101 with
                        | zero => intro y95 y96 b104 b105 b106 b107 z108; omega
                        | succ fuel101 ih103 =>
                          intro y95 y96 b104 b105 b106 b107 z108
                          refine pv_iload (M := mX12_fewestStrokes) dX12_fewestStrokes_67 69 rfl rfl ?_
                          refine pv_iload_n (M := mX12_fewestStrokes) 3 dX12_fewestStrokes_69 70 rfl rfl rfl ?_
                          refine pv_icmp_ge (M := mX12_fewestStrokes) (tgt := 115) dX12_fewestStrokes_70 73 rfl (by decide) (fun c109 => ?_) (fun c109 => ?_)
                          · have c109 := iv_le (X := y46.toInt) (Y := y96.toInt) c109 rfl rfl
                            refine pv_aload_n (M := mX12_fewestStrokes) 0 dX12_fewestStrokes_115 116 rfl rfl rfl ?_
                            refine mv_get (M := mX12_fewestStrokes) (v := .ref 155) dX12_fewestStrokes_116 FX12 48 wd1221 (by decide) (tl123 hT) rfl rfl 119 rfl ?_
                            refine pv_bipush (M := mX12_fewestStrokes) (v := 17) dX12_fewestStrokes_119 121 rfl (by decide) ?_
                            refine pv_iload_n (M := mX12_fewestStrokes) 3 dX12_fewestStrokes_121 122 rfl rfl rfl ?_
                            refine iv_imul (M := mX12_fewestStrokes) (X := 17) (Y := y46.toInt) dX12_fewestStrokes_122 123 rfl (by decide) rfl (by omega) (by omega) (fun v110 ev110 => ?_)
                            refine pv_iload_n (M := mX12_fewestStrokes) 2 dX12_fewestStrokes_123 124 rfl rfl rfl ?_
                            refine iv_iadd (M := mX12_fewestStrokes) (X := v110.toInt) (Y := y1.toInt) dX12_fewestStrokes_124 125 rfl rfl rfl (by omega) (by omega) (fun v111 ev111 => ?_)
                            refine pv_iload (M := mX12_fewestStrokes) dX12_fewestStrokes_125 127 rfl rfl ?_
                            refine iv_iast (M := mX12_fewestStrokes) (X := v111.toInt) dX12_fewestStrokes_127 (tl155 hT) rfl (by omega) (by omega) I49 (fun _ => rfl) (show (0 : Int) ≤ y95.toInt by omega) (show y95.toInt ≤ (1999999998 : Int) by omega) 128 rfl (fun m112 e115 I113 => ?_)
                            have K114 := K50.set e115 rfl
                            have w116 : (m112 123 40).toInt = (m47 123 40).toInt := by rw [e115, up2_ne (by omega)]
                            have w117 : (m112 123 41).toInt = (m47 123 41).toInt := by rw [e115, up2_ne (by omega)]
                            refine iv_inc (M := mX12_fewestStrokes) (C := 1) dX12_fewestStrokes_128 131 rfl rfl (by decide) rfl rfl (by decide) (by omega) (by omega) (fun v118 ev118 => ?_)
                            show PV _ _ _ _ _ _ _ 131 [.ref 123, .int x0, .int y1, .int v118, .int y95, .int y96] [] _
                            refine pv_goto (M := mX12_fewestStrokes) (tgt := 12) dX12_fewestStrokes_131 (by decide) ?_
                            refine pv_fg (lo2 := [.ref 123, .int x0, .int y1, .int v118, pv_U, pv_U]) ⟨Or.inr rfl, ⟨Or.inr rfl, ⟨Or.inr rfl, ⟨Or.inr rfl, ⟨Or.inl rfl, ⟨Or.inl rfl, trivial⟩⟩⟩⟩⟩⟩ ?_
                            exact ih53 v118 m112 n48 (by first | omega | decide) (by first | omega | decide) I113 K114 (by omega)
                          · have c109 := iv_nle (X := y46.toInt) (Y := y96.toInt) c109 rfl rfl
                            refine pv_iload (M := mX12_fewestStrokes) dX12_fewestStrokes_73 75 rfl rfl ?_
                            refine pv_aload_n (M := mX12_fewestStrokes) 0 dX12_fewestStrokes_75 76 rfl rfl rfl ?_
                            refine mv_get (M := mX12_fewestStrokes) (v := .ref 155) dX12_fewestStrokes_76 FX12 48 wd1221 (by decide) (tl123 hT) rfl rfl 79 rfl ?_
                            refine pv_bipush (M := mX12_fewestStrokes) (v := 17) dX12_fewestStrokes_79 81 rfl (by decide) ?_
                            refine pv_iload (M := mX12_fewestStrokes) dX12_fewestStrokes_81 83 rfl rfl ?_
                            refine iv_imul (M := mX12_fewestStrokes) (X := 17) (Y := y96.toInt) dX12_fewestStrokes_83 84 rfl (by decide) rfl (by omega) (by omega) (fun v119 ev119 => ?_)
                            refine pv_iload_n (M := mX12_fewestStrokes) 2 dX12_fewestStrokes_84 85 rfl rfl rfl ?_
                            refine iv_iadd (M := mX12_fewestStrokes) (X := v119.toInt) (Y := y1.toInt) dX12_fewestStrokes_85 86 rfl rfl rfl (by omega) (by omega) (fun v120 ev120 => ?_)
                            refine pv_iconst (M := mX12_fewestStrokes) (v := 1) dX12_fewestStrokes_86 87 rfl (by decide) ?_
                            refine iv_isub (M := mX12_fewestStrokes) (X := v120.toInt) (Y := 1) dX12_fewestStrokes_87 88 rfl rfl (by decide) (by omega) (by omega) (fun v121 ev121 => ?_)
                            refine iv_iald (M := mX12_fewestStrokes) (X := v121.toInt) dX12_fewestStrokes_88 (tl155 hT) rfl (by omega) (by omega) I49 (fun _ => rfl) 89 rfl (fun v122 ev122 pv122 qv122 => ?_)
                            have pv122 : 0 ≤ v122.toInt := pv122
                            have qv122 : v122.toInt ≤ 1999999998 := qv122
                            refine pv_iload_n (M := mX12_fewestStrokes) 3 dX12_fewestStrokes_89 90 rfl rfl rfl ?_
                            refine pv_iconst (M := mX12_fewestStrokes) (v := 1) dX12_fewestStrokes_90 91 rfl (by decide) ?_
                            refine iv_isub (M := mX12_fewestStrokes) (X := y46.toInt) (Y := 1) dX12_fewestStrokes_91 92 rfl rfl (by decide) (by omega) (by omega) (fun v123 ev123 => ?_)
                            refine pv_iload (M := mX12_fewestStrokes) dX12_fewestStrokes_92 94 rfl rfl ?_
                            refine iv_isub (M := mX12_fewestStrokes) (X := v123.toInt) (Y := y96.toInt) dX12_fewestStrokes_94 95 rfl rfl rfl (by omega) (by omega) (fun v124 ev124 => ?_)
                            refine pv_iload_n (M := mX12_fewestStrokes) 1 dX12_fewestStrokes_95 96 rfl rfl rfl ?_
                            refine iv_iadd (M := mX12_fewestStrokes) (X := v124.toInt) (Y := x0.toInt) dX12_fewestStrokes_96 97 rfl rfl rfl (by omega) (by omega) (fun v125 ev125 => ?_)
                            refine pv_iconst (M := mX12_fewestStrokes) (v := 1) dX12_fewestStrokes_97 98 rfl (by decide) ?_
                            refine iv_isub (M := mX12_fewestStrokes) (X := v125.toInt) (Y := 1) dX12_fewestStrokes_98 99 rfl rfl (by decide) (by omega) (by omega) (fun v126 ev126 => ?_)
                            refine pv_iload_n (M := mX12_fewestStrokes) 1 dX12_fewestStrokes_99 100 rfl rfl rfl ?_
                            refine iv_idivb (M := mX12_fewestStrokes) (X := v126.toInt) (Y := x0.toInt) dX12_fewestStrokes_100 101 rfl rfl rfl (by omega) (by omega) (fun v127 ev127 fv127 => ?_)
                            refine pv_calls (M := mX12_fewestStrokes) (as := [.int v122, .int v127]) (st := [.int y95]) (kc2 := 0) (ks2 := 0) dX12_fewestStrokes_101 wd1588 YX12_sum wd1589 (s_X12_sum g hT I49 v122 (by omega) (by omega) v127 (by omega) (by omega)) rfl rfl (Nat.le_of_ble_eq_true rfl) (by decide) rfl rfl 104 rfl (fun rv h1 q128 => ?_)
                            obtain ⟨v129, rfl, rfl, pv129, qv129, rv129⟩ := q128
                            show PV _ _ _ _ _ _ _ 104 [.ref 123, .int x0, .int y1, .int y46, .int y95, .int y96] [.int v129, .int y95] _
                            refine pv_calls (M := mX12_fewestStrokes) (as := [.int y95, .int v129]) (st := []) (kc2 := 0) (ks2 := 0) dX12_fewestStrokes_104 wd1611 YX12_least wd1612 (s_X12_least g hT I49 y95 (by omega) (by omega) v129 (by omega) (by omega)) rfl rfl (Nat.le_of_ble_eq_true rfl) (by decide) rfl rfl 107 rfl (fun rv h1 q130 => ?_)
                            obtain ⟨v131, rfl, rfl, pv131, qv131, rv131⟩ := q130
                            show PV _ _ _ _ _ _ _ 107 [.ref 123, .int x0, .int y1, .int y46, .int y95, .int y96] [.int v131] _
                            refine pv_istore (M := mX12_fewestStrokes) (lo2 := [.ref 123, .int x0, .int y1, .int y46, .int v131, .int y96]) dX12_fewestStrokes_107 109 rfl (by decide) rfl rfl ?_
                            refine iv_inc (M := mX12_fewestStrokes) (C := 1) dX12_fewestStrokes_109 112 rfl rfl (by decide) rfl rfl (by decide) (by omega) (by omega) (fun v132 ev132 => ?_)
                            show PV _ _ _ _ _ _ _ 112 [.ref 123, .int x0, .int y1, .int y46, .int v131, .int v132] [] _
                            refine pv_goto (M := mX12_fewestStrokes) (tgt := 67) dX12_fewestStrokes_112 (by decide) ?_
                            exact ih103 v131 v132 (by first | omega | decide) (by first | omega | decide) (by first | omega | decide) (by first | omega | decide) (by omega)
                      have z133 : (1000000000 : Int32).toInt = 1000000000 := by decide
                      have z134 : (0 : Int32).toInt = 0 := by decide
                      exact lp102 (((40 - 0) : Int).toNat + 1) 1000000000 0 (by first | omega | decide) (by first | omega | decide) (by first | omega | decide) (by first | omega | decide) (by omega)
              · have c60 := iv_eq (X := y1.toInt) (Y := 0) c60 rfl (by decide)
                refine pv_iload_n (M := mX12_fewestStrokes) 3 dX12_fewestStrokes_24 25 rfl rfl rfl ?_
                refine pv_if_ne (M := mX12_fewestStrokes) (tgt := 32) dX12_fewestStrokes_25 28 rfl (by decide) (fun c135 => ?_) (fun c135 => ?_)
                · have c135 := iv_ne (X := y46.toInt) (Y := 0) c135 rfl (by decide)
                  refine pv_ldcw (M := mX12_fewestStrokes) (v := 1000000000) dX12_fewestStrokes_32 35 rfl wd1583 ?_
                  refine pv_istore (M := mX12_fewestStrokes) (lo2 := [.ref 123, .int x0, .int y1, .int y46, .int 1000000000, pv_U]) dX12_fewestStrokes_35 37 rfl (by decide) rfl rfl ?_
                  refine pv_iload_n (M := mX12_fewestStrokes) 2 dX12_fewestStrokes_37 38 rfl rfl rfl ?_
                  refine pv_if_le (M := mX12_fewestStrokes) (tgt := 115) dX12_fewestStrokes_38 41 rfl (by decide) (fun c136 => ?_) (fun c136 => ?_)
                  · have c136 := iv_le (X := y1.toInt) (Y := 0) c136 rfl (by decide)
                    refine pv_aload_n (M := mX12_fewestStrokes) 0 dX12_fewestStrokes_115 116 rfl rfl rfl ?_
                    refine mv_get (M := mX12_fewestStrokes) (v := .ref 155) dX12_fewestStrokes_116 FX12 48 wd1221 (by decide) (tl123 hT) rfl rfl 119 rfl ?_
                    refine pv_bipush (M := mX12_fewestStrokes) (v := 17) dX12_fewestStrokes_119 121 rfl (by decide) ?_
                    refine pv_iload_n (M := mX12_fewestStrokes) 3 dX12_fewestStrokes_121 122 rfl rfl rfl ?_
                    refine iv_imul (M := mX12_fewestStrokes) (X := 17) (Y := y46.toInt) dX12_fewestStrokes_122 123 rfl (by decide) rfl (by omega) (by omega) (fun v137 ev137 => ?_)
                    refine pv_iload_n (M := mX12_fewestStrokes) 2 dX12_fewestStrokes_123 124 rfl rfl rfl ?_
                    refine iv_iadd (M := mX12_fewestStrokes) (X := v137.toInt) (Y := y1.toInt) dX12_fewestStrokes_124 125 rfl rfl rfl (by omega) (by omega) (fun v138 ev138 => ?_)
                    refine pv_iload (M := mX12_fewestStrokes) dX12_fewestStrokes_125 127 rfl rfl ?_
                    refine iv_iast (M := mX12_fewestStrokes) (X := v138.toInt) dX12_fewestStrokes_127 (tl155 hT) rfl (by omega) (by omega) I49 (fun _ => rfl) (by decide) (by decide) 128 rfl (fun m139 e142 I140 => ?_)
                    have K141 := K50.set e142 rfl
                    have w143 : (m139 123 40).toInt = (m47 123 40).toInt := by rw [e142, up2_ne (by omega)]
                    have w144 : (m139 123 41).toInt = (m47 123 41).toInt := by rw [e142, up2_ne (by omega)]
                    refine iv_inc (M := mX12_fewestStrokes) (C := 1) dX12_fewestStrokes_128 131 rfl rfl (by decide) rfl rfl (by decide) (by omega) (by omega) (fun v145 ev145 => ?_)
                    show PV _ _ _ _ _ _ _ 131 [.ref 123, .int x0, .int y1, .int v145, .int 1000000000, pv_U] [] _
                    refine pv_goto (M := mX12_fewestStrokes) (tgt := 12) dX12_fewestStrokes_131 (by decide) ?_
                    refine pv_fg (lo2 := [.ref 123, .int x0, .int y1, .int v145, pv_U, pv_U]) ⟨Or.inr rfl, ⟨Or.inr rfl, ⟨Or.inr rfl, ⟨Or.inr rfl, ⟨Or.inl rfl, ⟨Or.inl rfl, trivial⟩⟩⟩⟩⟩⟩ ?_
                    exact ih53 v145 m139 n48 (by first | omega | decide) (by first | omega | decide) I140 K141 (by omega)
                  · have c136 := iv_nle (X := y1.toInt) (Y := 0) c136 rfl (by decide)
                    refine pv_iload_n (M := mX12_fewestStrokes) 3 dX12_fewestStrokes_41 42 rfl rfl rfl ?_
                    refine pv_if_le (M := mX12_fewestStrokes) (tgt := 115) dX12_fewestStrokes_42 45 rfl (by decide) (fun c146 => ?_) (fun c146 => ?_)
                    · have c146 := iv_le (X := y46.toInt) (Y := 0) c146 rfl (by decide)
                      refine pv_aload_n (M := mX12_fewestStrokes) 0 dX12_fewestStrokes_115 116 rfl rfl rfl ?_
                      refine mv_get (M := mX12_fewestStrokes) (v := .ref 155) dX12_fewestStrokes_116 FX12 48 wd1221 (by decide) (tl123 hT) rfl rfl 119 rfl ?_
                      refine pv_bipush (M := mX12_fewestStrokes) (v := 17) dX12_fewestStrokes_119 121 rfl (by decide) ?_
                      refine pv_iload_n (M := mX12_fewestStrokes) 3 dX12_fewestStrokes_121 122 rfl rfl rfl ?_
                      refine iv_imul (M := mX12_fewestStrokes) (X := 17) (Y := y46.toInt) dX12_fewestStrokes_122 123 rfl (by decide) rfl (by omega) (by omega) (fun v147 ev147 => ?_)
                      refine pv_iload_n (M := mX12_fewestStrokes) 2 dX12_fewestStrokes_123 124 rfl rfl rfl ?_
                      refine iv_iadd (M := mX12_fewestStrokes) (X := v147.toInt) (Y := y1.toInt) dX12_fewestStrokes_124 125 rfl rfl rfl (by omega) (by omega) (fun v148 ev148 => ?_)
                      refine pv_iload (M := mX12_fewestStrokes) dX12_fewestStrokes_125 127 rfl rfl ?_
                      refine iv_iast (M := mX12_fewestStrokes) (X := v148.toInt) dX12_fewestStrokes_127 (tl155 hT) rfl (by omega) (by omega) I49 (fun _ => rfl) (by decide) (by decide) 128 rfl (fun m149 e152 I150 => ?_)
                      have K151 := K50.set e152 rfl
                      have w153 : (m149 123 40).toInt = (m47 123 40).toInt := by rw [e152, up2_ne (by omega)]
                      have w154 : (m149 123 41).toInt = (m47 123 41).toInt := by rw [e152, up2_ne (by omega)]
                      refine iv_inc (M := mX12_fewestStrokes) (C := 1) dX12_fewestStrokes_128 131 rfl rfl (by decide) rfl rfl (by decide) (by omega) (by omega) (fun v155 ev155 => ?_)
                      show PV _ _ _ _ _ _ _ 131 [.ref 123, .int x0, .int y1, .int v155, .int 1000000000, pv_U] [] _
                      refine pv_goto (M := mX12_fewestStrokes) (tgt := 12) dX12_fewestStrokes_131 (by decide) ?_
                      refine pv_fg (lo2 := [.ref 123, .int x0, .int y1, .int v155, pv_U, pv_U]) ⟨Or.inr rfl, ⟨Or.inr rfl, ⟨Or.inr rfl, ⟨Or.inr rfl, ⟨Or.inl rfl, ⟨Or.inl rfl, trivial⟩⟩⟩⟩⟩⟩ ?_
                      exact ih53 v155 m149 n48 (by first | omega | decide) (by first | omega | decide) I150 K151 (by omega)
                    · have c146 := iv_nle (X := y46.toInt) (Y := 0) c146 rfl (by decide)
                      refine pv_aload_n (M := mX12_fewestStrokes) 0 dX12_fewestStrokes_45 46 rfl rfl rfl ?_
                      refine mv_get (M := mX12_fewestStrokes) (v := .ref 149) dX12_fewestStrokes_46 FX12 42 wd1215 (by decide) (tl123 hT) rfl rfl 49 rfl ?_
                      refine pv_iload_n (M := mX12_fewestStrokes) 3 dX12_fewestStrokes_49 50 rfl rfl rfl ?_
                      refine pv_iconst (M := mX12_fewestStrokes) (v := 1) dX12_fewestStrokes_50 51 rfl (by decide) ?_
                      refine iv_isub (M := mX12_fewestStrokes) (X := y46.toInt) (Y := 1) dX12_fewestStrokes_51 52 rfl rfl (by decide) (by omega) (by omega) (fun v156 ev156 => ?_)
                      refine iv_iald (M := mX12_fewestStrokes) (X := v156.toInt) dX12_fewestStrokes_52 (tl149 hT) rfl (by omega) (by omega) I49 (fun _ => rfl) 53 rfl (fun v157 ev157 pv157 qv157 => ?_)
                      have pv157 : 0 ≤ v157.toInt := pv157
                      have qv157 : v157.toInt ≤ 25 := qv157
                      refine pv_aload_n (M := mX12_fewestStrokes) 0 dX12_fewestStrokes_53 54 rfl rfl rfl ?_
                      refine mv_get (M := mX12_fewestStrokes) (v := .ref 150) dX12_fewestStrokes_54 FX12 43 wd1216 (by decide) (tl123 hT) rfl rfl 57 rfl ?_
                      refine pv_iload_n (M := mX12_fewestStrokes) 2 dX12_fewestStrokes_57 58 rfl rfl rfl ?_
                      refine pv_iconst (M := mX12_fewestStrokes) (v := 1) dX12_fewestStrokes_58 59 rfl (by decide) ?_
                      refine iv_isub (M := mX12_fewestStrokes) (X := y1.toInt) (Y := 1) dX12_fewestStrokes_59 60 rfl rfl (by decide) (by omega) (by omega) (fun v158 ev158 => ?_)
                      refine iv_iald (M := mX12_fewestStrokes) (X := v158.toInt) dX12_fewestStrokes_60 (tl150 hT) rfl (by omega) (by omega) I49 (fun _ => rfl) 61 rfl (fun v159 ev159 pv159 qv159 => ?_)
                      have pv159 : 0 ≤ v159.toInt := pv159
                      have qv159 : v159.toInt ≤ 25 := qv159
                      refine pv_icmp_ne (M := mX12_fewestStrokes) (tgt := 115) dX12_fewestStrokes_61 64 rfl (by decide) (fun c160 => ?_) (fun c160 => ?_)
                      · have c160 := iv_ne (X := v157.toInt) (Y := v159.toInt) c160 rfl rfl
                        refine pv_aload_n (M := mX12_fewestStrokes) 0 dX12_fewestStrokes_115 116 rfl rfl rfl ?_
                        refine mv_get (M := mX12_fewestStrokes) (v := .ref 155) dX12_fewestStrokes_116 FX12 48 wd1221 (by decide) (tl123 hT) rfl rfl 119 rfl ?_
                        refine pv_bipush (M := mX12_fewestStrokes) (v := 17) dX12_fewestStrokes_119 121 rfl (by decide) ?_
                        refine pv_iload_n (M := mX12_fewestStrokes) 3 dX12_fewestStrokes_121 122 rfl rfl rfl ?_
                        refine iv_imul (M := mX12_fewestStrokes) (X := 17) (Y := y46.toInt) dX12_fewestStrokes_122 123 rfl (by decide) rfl (by omega) (by omega) (fun v161 ev161 => ?_)
                        refine pv_iload_n (M := mX12_fewestStrokes) 2 dX12_fewestStrokes_123 124 rfl rfl rfl ?_
                        refine iv_iadd (M := mX12_fewestStrokes) (X := v161.toInt) (Y := y1.toInt) dX12_fewestStrokes_124 125 rfl rfl rfl (by omega) (by omega) (fun v162 ev162 => ?_)
                        refine pv_iload (M := mX12_fewestStrokes) dX12_fewestStrokes_125 127 rfl rfl ?_
                        refine iv_iast (M := mX12_fewestStrokes) (X := v162.toInt) dX12_fewestStrokes_127 (tl155 hT) rfl (by omega) (by omega) I49 (fun _ => rfl) (by decide) (by decide) 128 rfl (fun m163 e166 I164 => ?_)
                        have K165 := K50.set e166 rfl
                        have w167 : (m163 123 40).toInt = (m47 123 40).toInt := by rw [e166, up2_ne (by omega)]
                        have w168 : (m163 123 41).toInt = (m47 123 41).toInt := by rw [e166, up2_ne (by omega)]
                        refine iv_inc (M := mX12_fewestStrokes) (C := 1) dX12_fewestStrokes_128 131 rfl rfl (by decide) rfl rfl (by decide) (by omega) (by omega) (fun v169 ev169 => ?_)
                        show PV _ _ _ _ _ _ _ 131 [.ref 123, .int x0, .int y1, .int v169, .int 1000000000, pv_U] [] _
                        refine pv_goto (M := mX12_fewestStrokes) (tgt := 12) dX12_fewestStrokes_131 (by decide) ?_
                        refine pv_fg (lo2 := [.ref 123, .int x0, .int y1, .int v169, pv_U, pv_U]) ⟨Or.inr rfl, ⟨Or.inr rfl, ⟨Or.inr rfl, ⟨Or.inr rfl, ⟨Or.inl rfl, ⟨Or.inl rfl, trivial⟩⟩⟩⟩⟩⟩ ?_
                        exact ih53 v169 m163 n48 (by first | omega | decide) (by first | omega | decide) I164 K165 (by omega)
                      · have c160 := iv_eq (X := v157.toInt) (Y := v159.toInt) c160 rfl rfl
                        refine pv_iconst (M := mX12_fewestStrokes) (v := 0) dX12_fewestStrokes_64 65 rfl (by decide) ?_
                        refine pv_istore (M := mX12_fewestStrokes) (lo2 := [.ref 123, .int x0, .int y1, .int y46, .int 1000000000, .int 0]) dX12_fewestStrokes_65 67 rfl (by decide) rfl rfl ?_
                        have lp177 : ∀ (fuel176 : Nat) (y170 : Int32) (y171 : Int32), (0 ≤ y170.toInt) → (y170.toInt ≤ 1999999998) → (0 ≤ y171.toInt) → (y171.toInt ≤ 40) → ((40 - y171.toInt) : Int).toNat < fuel176 → PV none g mX12_fewestStrokes (sqI T BB r m 0 1999999998 (fun v => True)) 2 0 0 67 [.ref 123, .int x0, .int y1, .int y46, .int y170, .int y171] [] (mk T m47 n48 r) := by
                          intro fuel176
                          induction fuel176 with
                          | zero => intro y170 y171 b179 b180 b181 b182 z183; omega
                          | succ fuel176 ih178 =>
                            intro y170 y171 b179 b180 b181 b182 z183
                            refine pv_iload (M := mX12_fewestStrokes) dX12_fewestStrokes_67 69 rfl rfl ?_
                            refine pv_iload_n (M := mX12_fewestStrokes) 3 dX12_fewestStrokes_69 70 rfl rfl rfl ?_
                            refine pv_icmp_ge (M := mX12_fewestStrokes) (tgt := 115) dX12_fewestStrokes_70 73 rfl (by decide) (fun c184 => ?_) (fun c184 => ?_)
                            · have c184 := iv_le (X := y46.toInt) (Y := y171.toInt) c184 rfl rfl
                              refine pv_aload_n (M := mX12_fewestStrokes) 0 dX12_fewestStrokes_115 116 rfl rfl rfl ?_
                              refine mv_get (M := mX12_fewestStrokes) (v := .ref 155) dX12_fewestStrokes_116 FX12 48 wd1221 (by decide) (tl123 hT) rfl rfl 119 rfl ?_
                              refine pv_bipush (M := mX12_fewestStrokes) (v := 17) dX12_fewestStrokes_119 121 rfl (by decide) ?_
                              refine pv_iload_n (M := mX12_fewestStrokes) 3 dX12_fewestStrokes_121 122 rfl rfl rfl ?_
                              refine iv_imul (M := mX12_fewestStrokes) (X := 17) (Y := y46.toInt) dX12_fewestStrokes_122 123 rfl (by decide) rfl (by omega) (by omega) (fun v185 ev185 => ?_)
                              refine pv_iload_n (M := mX12_fewestStrokes) 2 dX12_fewestStrokes_123 124 rfl rfl rfl ?_
                              refine iv_iadd (M := mX12_fewestStrokes) (X := v185.toInt) (Y := y1.toInt) dX12_fewestStrokes_124 125 rfl rfl rfl (by omega) (by omega) (fun v186 ev186 => ?_)
                              refine pv_iload (M := mX12_fewestStrokes) dX12_fewestStrokes_125 127 rfl rfl ?_
                              refine iv_iast (M := mX12_fewestStrokes) (X := v186.toInt) dX12_fewestStrokes_127 (tl155 hT) rfl (by omega) (by omega) I49 (fun _ => rfl) (show (0 : Int) ≤ y170.toInt by omega) (show y170.toInt ≤ (1999999998 : Int) by omega) 128 rfl (fun m187 e190 I188 => ?_)
                              have K189 := K50.set e190 rfl
                              have w191 : (m187 123 40).toInt = (m47 123 40).toInt := by rw [e190, up2_ne (by omega)]
                              have w192 : (m187 123 41).toInt = (m47 123 41).toInt := by rw [e190, up2_ne (by omega)]
                              refine iv_inc (M := mX12_fewestStrokes) (C := 1) dX12_fewestStrokes_128 131 rfl rfl (by decide) rfl rfl (by decide) (by omega) (by omega) (fun v193 ev193 => ?_)
                              show PV _ _ _ _ _ _ _ 131 [.ref 123, .int x0, .int y1, .int v193, .int y170, .int y171] [] _
                              refine pv_goto (M := mX12_fewestStrokes) (tgt := 12) dX12_fewestStrokes_131 (by decide) ?_
                              refine pv_fg (lo2 := [.ref 123, .int x0, .int y1, .int v193, pv_U, pv_U]) ⟨Or.inr rfl, ⟨Or.inr rfl, ⟨Or.inr rfl, ⟨Or.inr rfl, ⟨Or.inl rfl, ⟨Or.inl rfl, trivial⟩⟩⟩⟩⟩⟩ ?_
                              exact ih53 v193 m187 n48 (by first | omega | decide) (by first | omega | decide) I188 K189 (by omega)
                            · have c184 := iv_nle (X := y46.toInt) (Y := y171.toInt) c184 rfl rfl
                              refine pv_iload (M := mX12_fewestStrokes) dX12_fewestStrokes_73 75 rfl rfl ?_
                              refine pv_aload_n (M := mX12_fewestStrokes) 0 dX12_fewestStrokes_75 76 rfl rfl rfl ?_
                              refine mv_get (M := mX12_fewestStrokes) (v := .ref 155) dX12_fewestStrokes_76 FX12 48 wd1221 (by decide) (tl123 hT) rfl rfl 79 rfl ?_
                              refine pv_bipush (M := mX12_fewestStrokes) (v := 17) dX12_fewestStrokes_79 81 rfl (by decide) ?_
                              refine pv_iload (M := mX12_fewestStrokes) dX12_fewestStrokes_81 83 rfl rfl ?_
                              refine iv_imul (M := mX12_fewestStrokes) (X := 17) (Y := y171.toInt) dX12_fewestStrokes_83 84 rfl (by decide) rfl (by omega) (by omega) (fun v194 ev194 => ?_)
                              refine pv_iload_n (M := mX12_fewestStrokes) 2 dX12_fewestStrokes_84 85 rfl rfl rfl ?_
                              refine iv_iadd (M := mX12_fewestStrokes) (X := v194.toInt) (Y := y1.toInt) dX12_fewestStrokes_85 86 rfl rfl rfl (by omega) (by omega) (fun v195 ev195 => ?_)
                              refine pv_iconst (M := mX12_fewestStrokes) (v := 1) dX12_fewestStrokes_86 87 rfl (by decide) ?_
                              refine iv_isub (M := mX12_fewestStrokes) (X := v195.toInt) (Y := 1) dX12_fewestStrokes_87 88 rfl rfl (by decide) (by omega) (by omega) (fun v196 ev196 => ?_)
                              refine iv_iald (M := mX12_fewestStrokes) (X := v196.toInt) dX12_fewestStrokes_88 (tl155 hT) rfl (by omega) (by omega) I49 (fun _ => rfl) 89 rfl (fun v197 ev197 pv197 qv197 => ?_)
                              have pv197 : 0 ≤ v197.toInt := pv197
                              have qv197 : v197.toInt ≤ 1999999998 := qv197
                              refine pv_iload_n (M := mX12_fewestStrokes) 3 dX12_fewestStrokes_89 90 rfl rfl rfl ?_
                              refine pv_iconst (M := mX12_fewestStrokes) (v := 1) dX12_fewestStrokes_90 91 rfl (by decide) ?_
                              refine iv_isub (M := mX12_fewestStrokes) (X := y46.toInt) (Y := 1) dX12_fewestStrokes_91 92 rfl rfl (by decide) (by omega) (by omega) (fun v198 ev198 => ?_)
                              refine pv_iload (M := mX12_fewestStrokes) dX12_fewestStrokes_92 94 rfl rfl ?_
                              refine iv_isub (M := mX12_fewestStrokes) (X := v198.toInt) (Y := y171.toInt) dX12_fewestStrokes_94 95 rfl rfl rfl (by omega) (by omega) (fun v199 ev199 => ?_)
                              refine pv_iload_n (M := mX12_fewestStrokes) 1 dX12_fewestStrokes_95 96 rfl rfl rfl ?_
                              refine iv_iadd (M := mX12_fewestStrokes) (X := v199.toInt) (Y := x0.toInt) dX12_fewestStrokes_96 97 rfl rfl rfl (by omega) (by omega) (fun v200 ev200 => ?_)
                              refine pv_iconst (M := mX12_fewestStrokes) (v := 1) dX12_fewestStrokes_97 98 rfl (by decide) ?_
                              refine iv_isub (M := mX12_fewestStrokes) (X := v200.toInt) (Y := 1) dX12_fewestStrokes_98 99 rfl rfl (by decide) (by omega) (by omega) (fun v201 ev201 => ?_)
                              refine pv_iload_n (M := mX12_fewestStrokes) 1 dX12_fewestStrokes_99 100 rfl rfl rfl ?_
                              refine iv_idivb (M := mX12_fewestStrokes) (X := v201.toInt) (Y := x0.toInt) dX12_fewestStrokes_100 101 rfl rfl rfl (by omega) (by omega) (fun v202 ev202 fv202 => ?_)
                              refine pv_calls (M := mX12_fewestStrokes) (as := [.int v197, .int v202]) (st := [.int y170]) (kc2 := 0) (ks2 := 0) dX12_fewestStrokes_101 wd1588 YX12_sum wd1589 (s_X12_sum g hT I49 v197 (by omega) (by omega) v202 (by omega) (by omega)) rfl rfl (Nat.le_of_ble_eq_true rfl) (by decide) rfl rfl 104 rfl (fun rv h1 q203 => ?_)
                              obtain ⟨v204, rfl, rfl, pv204, qv204, rv204⟩ := q203
                              show PV _ _ _ _ _ _ _ 104 [.ref 123, .int x0, .int y1, .int y46, .int y170, .int y171] [.int v204, .int y170] _
                              refine pv_calls (M := mX12_fewestStrokes) (as := [.int y170, .int v204]) (st := []) (kc2 := 0) (ks2 := 0) dX12_fewestStrokes_104 wd1611 YX12_least wd1612 (s_X12_least g hT I49 y170 (by omega) (by omega) v204 (by omega) (by omega)) rfl rfl (Nat.le_of_ble_eq_true rfl) (by decide) rfl rfl 107 rfl (fun rv h1 q205 => ?_)
                              obtain ⟨v206, rfl, rfl, pv206, qv206, rv206⟩ := q205
                              show PV _ _ _ _ _ _ _ 107 [.ref 123, .int x0, .int y1, .int y46, .int y170, .int y171] [.int v206] _
                              refine pv_istore (M := mX12_fewestStrokes) (lo2 := [.ref 123, .int x0, .int y1, .int y46, .int v206, .int y171]) dX12_fewestStrokes_107 109 rfl (by decide) rfl rfl ?_
                              refine iv_inc (M := mX12_fewestStrokes) (C := 1) dX12_fewestStrokes_109 112 rfl rfl (by decide) rfl rfl (by decide) (by omega) (by omega) (fun v207 ev207 => ?_)
                              show PV _ _ _ _ _ _ _ 112 [.ref 123, .int x0, .int y1, .int y46, .int v206, .int v207] [] _
                              refine pv_goto (M := mX12_fewestStrokes) (tgt := 67) dX12_fewestStrokes_112 (by decide) ?_
                              exact ih178 v206 v207 (by first | omega | decide) (by first | omega | decide) (by first | omega | decide) (by first | omega | decide) (by omega)
                        have z208 : (1000000000 : Int32).toInt = 1000000000 := by decide
                        have z209 : (0 : Int32).toInt = 0 := by decide
                        exact lp177 (((40 - 0) : Int).toNat + 1) 1000000000 0 (by first | omega | decide) (by first | omega | decide) (by first | omega | decide) (by first | omega | decide) (by omega)
                · have c135 := iv_eq (X := y46.toInt) (Y := 0) c135 rfl (by decide)
                  refine pv_iconst (M := mX12_fewestStrokes) (v := 0) dX12_fewestStrokes_28 29 rfl (by decide) ?_
                  refine pv_goto (M := mX12_fewestStrokes) (tgt := 35) dX12_fewestStrokes_29 (by decide) ?_
                  refine pv_istore (M := mX12_fewestStrokes) (lo2 := [.ref 123, .int x0, .int y1, .int y46, .int 0, pv_U]) dX12_fewestStrokes_35 37 rfl (by decide) rfl rfl ?_
                  refine pv_iload_n (M := mX12_fewestStrokes) 2 dX12_fewestStrokes_37 38 rfl rfl rfl ?_
                  refine pv_if_le (M := mX12_fewestStrokes) (tgt := 115) dX12_fewestStrokes_38 41 rfl (by decide) (fun c210 => ?_) (fun c210 => ?_)
                  · have c210 := iv_le (X := y1.toInt) (Y := 0) c210 rfl (by decide)
                    refine pv_aload_n (M := mX12_fewestStrokes) 0 dX12_fewestStrokes_115 116 rfl rfl rfl ?_
                    refine mv_get (M := mX12_fewestStrokes) (v := .ref 155) dX12_fewestStrokes_116 FX12 48 wd1221 (by decide) (tl123 hT) rfl rfl 119 rfl ?_
                    refine pv_bipush (M := mX12_fewestStrokes) (v := 17) dX12_fewestStrokes_119 121 rfl (by decide) ?_
                    refine pv_iload_n (M := mX12_fewestStrokes) 3 dX12_fewestStrokes_121 122 rfl rfl rfl ?_
                    refine iv_imul (M := mX12_fewestStrokes) (X := 17) (Y := y46.toInt) dX12_fewestStrokes_122 123 rfl (by decide) rfl (by omega) (by omega) (fun v211 ev211 => ?_)
                    refine pv_iload_n (M := mX12_fewestStrokes) 2 dX12_fewestStrokes_123 124 rfl rfl rfl ?_
                    refine iv_iadd (M := mX12_fewestStrokes) (X := v211.toInt) (Y := y1.toInt) dX12_fewestStrokes_124 125 rfl rfl rfl (by omega) (by omega) (fun v212 ev212 => ?_)
                    refine pv_iload (M := mX12_fewestStrokes) dX12_fewestStrokes_125 127 rfl rfl ?_
                    refine iv_iast (M := mX12_fewestStrokes) (X := v212.toInt) dX12_fewestStrokes_127 (tl155 hT) rfl (by omega) (by omega) I49 (fun _ => rfl) (by decide) (by decide) 128 rfl (fun m213 e216 I214 => ?_)
                    have K215 := K50.set e216 rfl
                    have w217 : (m213 123 40).toInt = (m47 123 40).toInt := by rw [e216, up2_ne (by omega)]
                    have w218 : (m213 123 41).toInt = (m47 123 41).toInt := by rw [e216, up2_ne (by omega)]
                    refine iv_inc (M := mX12_fewestStrokes) (C := 1) dX12_fewestStrokes_128 131 rfl rfl (by decide) rfl rfl (by decide) (by omega) (by omega) (fun v219 ev219 => ?_)
                    show PV _ _ _ _ _ _ _ 131 [.ref 123, .int x0, .int y1, .int v219, .int 0, pv_U] [] _
                    refine pv_goto (M := mX12_fewestStrokes) (tgt := 12) dX12_fewestStrokes_131 (by decide) ?_
                    refine pv_fg (lo2 := [.ref 123, .int x0, .int y1, .int v219, pv_U, pv_U]) ⟨Or.inr rfl, ⟨Or.inr rfl, ⟨Or.inr rfl, ⟨Or.inr rfl, ⟨Or.inl rfl, ⟨Or.inl rfl, trivial⟩⟩⟩⟩⟩⟩ ?_
                    exact ih53 v219 m213 n48 (by first | omega | decide) (by first | omega | decide) I214 K215 (by omega)
                  · have c210 := iv_nle (X := y1.toInt) (Y := 0) c210 rfl (by decide)
                    refine pv_iload_n (M := mX12_fewestStrokes) 3 dX12_fewestStrokes_41 42 rfl rfl rfl ?_
                    refine pv_if_le (M := mX12_fewestStrokes) (tgt := 115) dX12_fewestStrokes_42 45 rfl (by decide) (fun c220 => ?_) (fun c220 => ?_)
                    · have c220 := iv_le (X := y46.toInt) (Y := 0) c220 rfl (by decide)
                      refine pv_aload_n (M := mX12_fewestStrokes) 0 dX12_fewestStrokes_115 116 rfl rfl rfl ?_
                      refine mv_get (M := mX12_fewestStrokes) (v := .ref 155) dX12_fewestStrokes_116 FX12 48 wd1221 (by decide) (tl123 hT) rfl rfl 119 rfl ?_
                      refine pv_bipush (M := mX12_fewestStrokes) (v := 17) dX12_fewestStrokes_119 121 rfl (by decide) ?_
                      refine pv_iload_n (M := mX12_fewestStrokes) 3 dX12_fewestStrokes_121 122 rfl rfl rfl ?_
                      refine iv_imul (M := mX12_fewestStrokes) (X := 17) (Y := y46.toInt) dX12_fewestStrokes_122 123 rfl (by decide) rfl (by omega) (by omega) (fun v221 ev221 => ?_)
                      refine pv_iload_n (M := mX12_fewestStrokes) 2 dX12_fewestStrokes_123 124 rfl rfl rfl ?_
                      refine iv_iadd (M := mX12_fewestStrokes) (X := v221.toInt) (Y := y1.toInt) dX12_fewestStrokes_124 125 rfl rfl rfl (by omega) (by omega) (fun v222 ev222 => ?_)
                      refine pv_iload (M := mX12_fewestStrokes) dX12_fewestStrokes_125 127 rfl rfl ?_
                      refine iv_iast (M := mX12_fewestStrokes) (X := v222.toInt) dX12_fewestStrokes_127 (tl155 hT) rfl (by omega) (by omega) I49 (fun _ => rfl) (by decide) (by decide) 128 rfl (fun m223 e226 I224 => ?_)
                      have K225 := K50.set e226 rfl
                      have w227 : (m223 123 40).toInt = (m47 123 40).toInt := by rw [e226, up2_ne (by omega)]
                      have w228 : (m223 123 41).toInt = (m47 123 41).toInt := by rw [e226, up2_ne (by omega)]
                      refine iv_inc (M := mX12_fewestStrokes) (C := 1) dX12_fewestStrokes_128 131 rfl rfl (by decide) rfl rfl (by decide) (by omega) (by omega) (fun v229 ev229 => ?_)
                      show PV _ _ _ _ _ _ _ 131 [.ref 123, .int x0, .int y1, .int v229, .int 0, pv_U] [] _
                      refine pv_goto (M := mX12_fewestStrokes) (tgt := 12) dX12_fewestStrokes_131 (by decide) ?_
                      refine pv_fg (lo2 := [.ref 123, .int x0, .int y1, .int v229, pv_U, pv_U]) ⟨Or.inr rfl, ⟨Or.inr rfl, ⟨Or.inr rfl, ⟨Or.inr rfl, ⟨Or.inl rfl, ⟨Or.inl rfl, trivial⟩⟩⟩⟩⟩⟩ ?_
                      exact ih53 v229 m223 n48 (by first | omega | decide) (by first | omega | decide) I224 K225 (by omega)
                    · have c220 := iv_nle (X := y46.toInt) (Y := 0) c220 rfl (by decide)
                      refine pv_aload_n (M := mX12_fewestStrokes) 0 dX12_fewestStrokes_45 46 rfl rfl rfl ?_
                      refine mv_get (M := mX12_fewestStrokes) (v := .ref 149) dX12_fewestStrokes_46 FX12 42 wd1215 (by decide) (tl123 hT) rfl rfl 49 rfl ?_
                      refine pv_iload_n (M := mX12_fewestStrokes) 3 dX12_fewestStrokes_49 50 rfl rfl rfl ?_
                      refine pv_iconst (M := mX12_fewestStrokes) (v := 1) dX12_fewestStrokes_50 51 rfl (by decide) ?_
                      refine iv_isub (M := mX12_fewestStrokes) (X := y46.toInt) (Y := 1) dX12_fewestStrokes_51 52 rfl rfl (by decide) (by omega) (by omega) (fun v230 ev230 => ?_)
                      refine iv_iald (M := mX12_fewestStrokes) (X := v230.toInt) dX12_fewestStrokes_52 (tl149 hT) rfl (by omega) (by omega) I49 (fun _ => rfl) 53 rfl (fun v231 ev231 pv231 qv231 => ?_)
                      have pv231 : 0 ≤ v231.toInt := pv231
                      have qv231 : v231.toInt ≤ 25 := qv231
                      refine pv_aload_n (M := mX12_fewestStrokes) 0 dX12_fewestStrokes_53 54 rfl rfl rfl ?_
                      refine mv_get (M := mX12_fewestStrokes) (v := .ref 150) dX12_fewestStrokes_54 FX12 43 wd1216 (by decide) (tl123 hT) rfl rfl 57 rfl ?_
                      refine pv_iload_n (M := mX12_fewestStrokes) 2 dX12_fewestStrokes_57 58 rfl rfl rfl ?_
                      refine pv_iconst (M := mX12_fewestStrokes) (v := 1) dX12_fewestStrokes_58 59 rfl (by decide) ?_
                      refine iv_isub (M := mX12_fewestStrokes) (X := y1.toInt) (Y := 1) dX12_fewestStrokes_59 60 rfl rfl (by decide) (by omega) (by omega) (fun v232 ev232 => ?_)
                      refine iv_iald (M := mX12_fewestStrokes) (X := v232.toInt) dX12_fewestStrokes_60 (tl150 hT) rfl (by omega) (by omega) I49 (fun _ => rfl) 61 rfl (fun v233 ev233 pv233 qv233 => ?_)
                      have pv233 : 0 ≤ v233.toInt := pv233
                      have qv233 : v233.toInt ≤ 25 := qv233
                      refine pv_icmp_ne (M := mX12_fewestStrokes) (tgt := 115) dX12_fewestStrokes_61 64 rfl (by decide) (fun c234 => ?_) (fun c234 => ?_)
                      · have c234 := iv_ne (X := v231.toInt) (Y := v233.toInt) c234 rfl rfl
                        refine pv_aload_n (M := mX12_fewestStrokes) 0 dX12_fewestStrokes_115 116 rfl rfl rfl ?_
                        refine mv_get (M := mX12_fewestStrokes) (v := .ref 155) dX12_fewestStrokes_116 FX12 48 wd1221 (by decide) (tl123 hT) rfl rfl 119 rfl ?_
                        refine pv_bipush (M := mX12_fewestStrokes) (v := 17) dX12_fewestStrokes_119 121 rfl (by decide) ?_
                        refine pv_iload_n (M := mX12_fewestStrokes) 3 dX12_fewestStrokes_121 122 rfl rfl rfl ?_
                        refine iv_imul (M := mX12_fewestStrokes) (X := 17) (Y := y46.toInt) dX12_fewestStrokes_122 123 rfl (by decide) rfl (by omega) (by omega) (fun v235 ev235 => ?_)
                        refine pv_iload_n (M := mX12_fewestStrokes) 2 dX12_fewestStrokes_123 124 rfl rfl rfl ?_
                        refine iv_iadd (M := mX12_fewestStrokes) (X := v235.toInt) (Y := y1.toInt) dX12_fewestStrokes_124 125 rfl rfl rfl (by omega) (by omega) (fun v236 ev236 => ?_)
                        refine pv_iload (M := mX12_fewestStrokes) dX12_fewestStrokes_125 127 rfl rfl ?_
                        refine iv_iast (M := mX12_fewestStrokes) (X := v236.toInt) dX12_fewestStrokes_127 (tl155 hT) rfl (by omega) (by omega) I49 (fun _ => rfl) (by decide) (by decide) 128 rfl (fun m237 e240 I238 => ?_)
                        have K239 := K50.set e240 rfl
                        have w241 : (m237 123 40).toInt = (m47 123 40).toInt := by rw [e240, up2_ne (by omega)]
                        have w242 : (m237 123 41).toInt = (m47 123 41).toInt := by rw [e240, up2_ne (by omega)]
                        refine iv_inc (M := mX12_fewestStrokes) (C := 1) dX12_fewestStrokes_128 131 rfl rfl (by decide) rfl rfl (by decide) (by omega) (by omega) (fun v243 ev243 => ?_)
                        show PV _ _ _ _ _ _ _ 131 [.ref 123, .int x0, .int y1, .int v243, .int 0, pv_U] [] _
                        refine pv_goto (M := mX12_fewestStrokes) (tgt := 12) dX12_fewestStrokes_131 (by decide) ?_
                        refine pv_fg (lo2 := [.ref 123, .int x0, .int y1, .int v243, pv_U, pv_U]) ⟨Or.inr rfl, ⟨Or.inr rfl, ⟨Or.inr rfl, ⟨Or.inr rfl, ⟨Or.inl rfl, ⟨Or.inl rfl, trivial⟩⟩⟩⟩⟩⟩ ?_
                        exact ih53 v243 m237 n48 (by first | omega | decide) (by first | omega | decide) I238 K239 (by omega)
                      · have c234 := iv_eq (X := v231.toInt) (Y := v233.toInt) c234 rfl rfl
                        refine pv_iconst (M := mX12_fewestStrokes) (v := 0) dX12_fewestStrokes_64 65 rfl (by decide) ?_
                        refine pv_istore (M := mX12_fewestStrokes) (lo2 := [.ref 123, .int x0, .int y1, .int y46, .int 0, .int 0]) dX12_fewestStrokes_65 67 rfl (by decide) rfl rfl ?_
                        have lp251 : ∀ (fuel250 : Nat) (y244 : Int32) (y245 : Int32), (0 ≤ y244.toInt) → (y244.toInt ≤ 1999999998) → (0 ≤ y245.toInt) → (y245.toInt ≤ 40) → ((40 - y245.toInt) : Int).toNat < fuel250 → PV none g mX12_fewestStrokes (sqI T BB r m 0 1999999998 (fun v => True)) 2 0 0 67 [.ref 123, .int x0, .int y1, .int y46, .int y244, .int y245] [] (mk T m47 n48 r) := by
                          intro fuel250
                          induction fuel250 with
                          | zero => intro y244 y245 b253 b254 b255 b256 z257; omega
                          | succ fuel250 ih252 =>
                            intro y244 y245 b253 b254 b255 b256 z257
                            refine pv_iload (M := mX12_fewestStrokes) dX12_fewestStrokes_67 69 rfl rfl ?_
                            refine pv_iload_n (M := mX12_fewestStrokes) 3 dX12_fewestStrokes_69 70 rfl rfl rfl ?_
                            refine pv_icmp_ge (M := mX12_fewestStrokes) (tgt := 115) dX12_fewestStrokes_70 73 rfl (by decide) (fun c258 => ?_) (fun c258 => ?_)
                            · have c258 := iv_le (X := y46.toInt) (Y := y245.toInt) c258 rfl rfl
                              refine pv_aload_n (M := mX12_fewestStrokes) 0 dX12_fewestStrokes_115 116 rfl rfl rfl ?_
                              refine mv_get (M := mX12_fewestStrokes) (v := .ref 155) dX12_fewestStrokes_116 FX12 48 wd1221 (by decide) (tl123 hT) rfl rfl 119 rfl ?_
                              refine pv_bipush (M := mX12_fewestStrokes) (v := 17) dX12_fewestStrokes_119 121 rfl (by decide) ?_
                              refine pv_iload_n (M := mX12_fewestStrokes) 3 dX12_fewestStrokes_121 122 rfl rfl rfl ?_
                              refine iv_imul (M := mX12_fewestStrokes) (X := 17) (Y := y46.toInt) dX12_fewestStrokes_122 123 rfl (by decide) rfl (by omega) (by omega) (fun v259 ev259 => ?_)
                              refine pv_iload_n (M := mX12_fewestStrokes) 2 dX12_fewestStrokes_123 124 rfl rfl rfl ?_
                              refine iv_iadd (M := mX12_fewestStrokes) (X := v259.toInt) (Y := y1.toInt) dX12_fewestStrokes_124 125 rfl rfl rfl (by omega) (by omega) (fun v260 ev260 => ?_)
                              refine pv_iload (M := mX12_fewestStrokes) dX12_fewestStrokes_125 127 rfl rfl ?_
                              refine iv_iast (M := mX12_fewestStrokes) (X := v260.toInt) dX12_fewestStrokes_127 (tl155 hT) rfl (by omega) (by omega) I49 (fun _ => rfl) (show (0 : Int) ≤ y244.toInt by omega) (show y244.toInt ≤ (1999999998 : Int) by omega) 128 rfl (fun m261 e264 I262 => ?_)
                              have K263 := K50.set e264 rfl
                              have w265 : (m261 123 40).toInt = (m47 123 40).toInt := by rw [e264, up2_ne (by omega)]
                              have w266 : (m261 123 41).toInt = (m47 123 41).toInt := by rw [e264, up2_ne (by omega)]
                              refine iv_inc (M := mX12_fewestStrokes) (C := 1) dX12_fewestStrokes_128 131 rfl rfl (by decide) rfl rfl (by decide) (by omega) (by omega) (fun v267 ev267 => ?_)
                              show PV _ _ _ _ _ _ _ 131 [.ref 123, .int x0, .int y1, .int v267, .int y244, .int y245] [] _
                              refine pv_goto (M := mX12_fewestStrokes) (tgt := 12) dX12_fewestStrokes_131 (by decide) ?_
                              refine pv_fg (lo2 := [.ref 123, .int x0, .int y1, .int v267, pv_U, pv_U]) ⟨Or.inr rfl, ⟨Or.inr rfl, ⟨Or.inr rfl, ⟨Or.inr rfl, ⟨Or.inl rfl, ⟨Or.inl rfl, trivial⟩⟩⟩⟩⟩⟩ ?_
                              exact ih53 v267 m261 n48 (by first | omega | decide) (by first | omega | decide) I262 K263 (by omega)
                            · have c258 := iv_nle (X := y46.toInt) (Y := y245.toInt) c258 rfl rfl
                              refine pv_iload (M := mX12_fewestStrokes) dX12_fewestStrokes_73 75 rfl rfl ?_
                              refine pv_aload_n (M := mX12_fewestStrokes) 0 dX12_fewestStrokes_75 76 rfl rfl rfl ?_
                              refine mv_get (M := mX12_fewestStrokes) (v := .ref 155) dX12_fewestStrokes_76 FX12 48 wd1221 (by decide) (tl123 hT) rfl rfl 79 rfl ?_
                              refine pv_bipush (M := mX12_fewestStrokes) (v := 17) dX12_fewestStrokes_79 81 rfl (by decide) ?_
                              refine pv_iload (M := mX12_fewestStrokes) dX12_fewestStrokes_81 83 rfl rfl ?_
                              refine iv_imul (M := mX12_fewestStrokes) (X := 17) (Y := y245.toInt) dX12_fewestStrokes_83 84 rfl (by decide) rfl (by omega) (by omega) (fun v268 ev268 => ?_)
                              refine pv_iload_n (M := mX12_fewestStrokes) 2 dX12_fewestStrokes_84 85 rfl rfl rfl ?_
                              refine iv_iadd (M := mX12_fewestStrokes) (X := v268.toInt) (Y := y1.toInt) dX12_fewestStrokes_85 86 rfl rfl rfl (by omega) (by omega) (fun v269 ev269 => ?_)
                              refine pv_iconst (M := mX12_fewestStrokes) (v := 1) dX12_fewestStrokes_86 87 rfl (by decide) ?_
                              refine iv_isub (M := mX12_fewestStrokes) (X := v269.toInt) (Y := 1) dX12_fewestStrokes_87 88 rfl rfl (by decide) (by omega) (by omega) (fun v270 ev270 => ?_)
                              refine iv_iald (M := mX12_fewestStrokes) (X := v270.toInt) dX12_fewestStrokes_88 (tl155 hT) rfl (by omega) (by omega) I49 (fun _ => rfl) 89 rfl (fun v271 ev271 pv271 qv271 => ?_)
                              have pv271 : 0 ≤ v271.toInt := pv271
                              have qv271 : v271.toInt ≤ 1999999998 := qv271
                              refine pv_iload_n (M := mX12_fewestStrokes) 3 dX12_fewestStrokes_89 90 rfl rfl rfl ?_
                              refine pv_iconst (M := mX12_fewestStrokes) (v := 1) dX12_fewestStrokes_90 91 rfl (by decide) ?_
                              refine iv_isub (M := mX12_fewestStrokes) (X := y46.toInt) (Y := 1) dX12_fewestStrokes_91 92 rfl rfl (by decide) (by omega) (by omega) (fun v272 ev272 => ?_)
                              refine pv_iload (M := mX12_fewestStrokes) dX12_fewestStrokes_92 94 rfl rfl ?_
                              refine iv_isub (M := mX12_fewestStrokes) (X := v272.toInt) (Y := y245.toInt) dX12_fewestStrokes_94 95 rfl rfl rfl (by omega) (by omega) (fun v273 ev273 => ?_)
                              refine pv_iload_n (M := mX12_fewestStrokes) 1 dX12_fewestStrokes_95 96 rfl rfl rfl ?_
                              refine iv_iadd (M := mX12_fewestStrokes) (X := v273.toInt) (Y := x0.toInt) dX12_fewestStrokes_96 97 rfl rfl rfl (by omega) (by omega) (fun v274 ev274 => ?_)
                              refine pv_iconst (M := mX12_fewestStrokes) (v := 1) dX12_fewestStrokes_97 98 rfl (by decide) ?_
                              refine iv_isub (M := mX12_fewestStrokes) (X := v274.toInt) (Y := 1) dX12_fewestStrokes_98 99 rfl rfl (by decide) (by omega) (by omega) (fun v275 ev275 => ?_)
                              refine pv_iload_n (M := mX12_fewestStrokes) 1 dX12_fewestStrokes_99 100 rfl rfl rfl ?_
                              refine iv_idivb (M := mX12_fewestStrokes) (X := v275.toInt) (Y := x0.toInt) dX12_fewestStrokes_100 101 rfl rfl rfl (by omega) (by omega) (fun v276 ev276 fv276 => ?_)
                              refine pv_calls (M := mX12_fewestStrokes) (as := [.int v271, .int v276]) (st := [.int y244]) (kc2 := 0) (ks2 := 0) dX12_fewestStrokes_101 wd1588 YX12_sum wd1589 (s_X12_sum g hT I49 v271 (by omega) (by omega) v276 (by omega) (by omega)) rfl rfl (Nat.le_of_ble_eq_true rfl) (by decide) rfl rfl 104 rfl (fun rv h1 q277 => ?_)
                              obtain ⟨v278, rfl, rfl, pv278, qv278, rv278⟩ := q277
                              show PV _ _ _ _ _ _ _ 104 [.ref 123, .int x0, .int y1, .int y46, .int y244, .int y245] [.int v278, .int y244] _
                              refine pv_calls (M := mX12_fewestStrokes) (as := [.int y244, .int v278]) (st := []) (kc2 := 0) (ks2 := 0) dX12_fewestStrokes_104 wd1611 YX12_least wd1612 (s_X12_least g hT I49 y244 (by omega) (by omega) v278 (by omega) (by omega)) rfl rfl (Nat.le_of_ble_eq_true rfl) (by decide) rfl rfl 107 rfl (fun rv h1 q279 => ?_)
                              obtain ⟨v280, rfl, rfl, pv280, qv280, rv280⟩ := q279
                              show PV _ _ _ _ _ _ _ 107 [.ref 123, .int x0, .int y1, .int y46, .int y244, .int y245] [.int v280] _
                              refine pv_istore (M := mX12_fewestStrokes) (lo2 := [.ref 123, .int x0, .int y1, .int y46, .int v280, .int y245]) dX12_fewestStrokes_107 109 rfl (by decide) rfl rfl ?_
                              refine iv_inc (M := mX12_fewestStrokes) (C := 1) dX12_fewestStrokes_109 112 rfl rfl (by decide) rfl rfl (by decide) (by omega) (by omega) (fun v281 ev281 => ?_)
                              show PV _ _ _ _ _ _ _ 112 [.ref 123, .int x0, .int y1, .int y46, .int v280, .int v281] [] _
                              refine pv_goto (M := mX12_fewestStrokes) (tgt := 67) dX12_fewestStrokes_112 (by decide) ?_
                              exact ih252 v280 v281 (by first | omega | decide) (by first | omega | decide) (by first | omega | decide) (by first | omega | decide) (by omega)
                        have z282 : (0 : Int32).toInt = 0 := by decide
                        have z283 : (0 : Int32).toInt = 0 := by decide
                        exact lp251 (((40 - 0) : Int).toNat + 1) 0 0 (by first | omega | decide) (by first | omega | decide) (by first | omega | decide) (by first | omega | decide) (by omega)
        have z284 : (0 : Int32).toInt = 0 := by decide
        exact lp52 (((41 - 0) : Int).toNat + 1) 0 m2 n3 (by first | omega | decide) (by first | omega | decide) I4 K5 (by omega)
  have z285 : (0 : Int32).toInt = 0 := by decide
  exact lp7 (((17 - 0) : Int).toNat + 1) 0 m n (by first | omega | decide) (by first | omega | decide) I Kp (by omega)

set_option maxHeartbeats 1000000 in
set_option maxRecDepth 20000 in
theorem s_X12_strokes (g : pv_G) {T : List mv_T} {m : Nat → Nat → Int32} {n : Nat → Nat → Int64} {r : Nat → Value} (hT : TX T) (I : IV BB m) (x0 : Int32) (x1 : Int32) (x2 : Int32) : PM g mX12_strokes yX12_strokes (sqI T BB r m (-2) 1999999998 (fun v => True)) 3 0 0 [.ref 123, .int x0, .int x1, .int x2] (mk T m n r) := by
  have Kp : kp m m := kp.rf
  refine PM.of 1 (lo := [.ref 123, .int x0, .int x1, .int x2, pv_U]) rfl (by decide) rfl rfl (Nat.le_of_ble_eq_true rfl) ?_
  refine pv_aload_n (M := mX12_strokes) 0 dX12_strokes_0 1 rfl rfl rfl ?_
  refine pv_iload_n (M := mX12_strokes) 1 dX12_strokes_1 2 rfl rfl rfl ?_
  refine pv_iload_n (M := mX12_strokes) 2 dX12_strokes_2 3 rfl rfl rfl ?_
  refine pv_callv (M := mX12_strokes) (as := [.int x0, .int x1]) (st := []) (kc2 := 0) (ks2 := 0) dX12_strokes_3 wd1554 YX12_isAsked ⟨wd1556, wd86⟩ (mk_get (tl123 hT)) rfl rfl (s_X12_isAsked g hT I x0 x1) rfl rfl (Nat.le_of_ble_eq_true rfl) (by decide) rfl rfl 6 rfl (fun rv h1 q1 => ?_)
  obtain ⟨v2, rfl, rfl, pv2, qv2, rv2⟩ := q1
  show PV _ _ _ _ _ _ _ 6 [.ref 123, .int x0, .int x1, .int x2, pv_U] [.int v2] _
  refine pv_if_eq (M := mX12_strokes) (tgt := 19) dX12_strokes_6 9 rfl (by decide) (fun c3 => ?_) (fun c3 => ?_)
  · have c3 := iv_eq (X := v2.toInt) (Y := 0) c3 rfl (by decide)
    refine pv_iconst (M := mX12_strokes) (v := (-1)) dX12_strokes_19 20 rfl (by decide) ?_
    exact pv_iret (M := mX12_strokes) dX12_strokes_20 rfl rfl ⟨_, _, _, rfl, rfl, I, Kp, by decide, by decide, trivial⟩
  · have pc3 := rv2.resolve_left c3
    have c3 := iv_ne (X := v2.toInt) (Y := 0) c3 rfl (by decide)
    refine pv_iload_n (M := mX12_strokes) 3 dX12_strokes_9 10 rfl rfl rfl ?_
    refine pv_iconst (M := mX12_strokes) (v := 1) dX12_strokes_10 11 rfl (by decide) ?_
    refine pv_bipush (M := mX12_strokes) (v := 9) dX12_strokes_11 13 rfl (by decide) ?_
    have z5 : (1 : Int32).toInt = 1 := by decide
    have z6 : (9 : Int32).toInt = 9 := by decide
    refine pv_calls (M := mX12_strokes) (as := [.int x2, .int 1, .int 9]) (st := []) (kc2 := 0) (ks2 := 0) dX12_strokes_13 wd1370 YX12_in wd1371 (s_X12_in g hT I x2 1 9) rfl rfl (Nat.le_of_ble_eq_true rfl) (by decide) rfl rfl 16 rfl (fun rv h1 q4 => ?_)
    obtain ⟨v7, rfl, rfl, pv7, qv7, rv7⟩ := q4
    show PV _ _ _ _ _ _ _ 16 [.ref 123, .int x0, .int x1, .int x2, pv_U] [.int v7] _
    refine pv_if_ne (M := mX12_strokes) (tgt := 21) dX12_strokes_16 19 rfl (by decide) (fun c8 => ?_) (fun c8 => ?_)
    · have pc8 := rv7.resolve_left c8
      have c8 := iv_ne (X := v7.toInt) (Y := 0) c8 rfl (by decide)
      refine pv_aload_n (M := mX12_strokes) 0 dX12_strokes_21 22 rfl rfl rfl ?_
      refine pv_iload_n (M := mX12_strokes) 1 dX12_strokes_22 23 rfl rfl rfl ?_
      refine pv_iconst (M := mX12_strokes) (v := 0) dX12_strokes_23 24 rfl (by decide) ?_
      refine pv_callv (M := mX12_strokes) (as := [.int x0, .int 0]) (st := []) (kc2 := 0) (ks2 := 0) dX12_strokes_24 wd1563 YX12_laysBlank ⟨wd1565, wd88⟩ (mk_get (tl123 hT)) rfl rfl (s_X12_laysBlank g hT I x0 (by omega) (by omega) 0 (by decide) (by decide)) rfl rfl (Nat.le_of_ble_eq_true rfl) (by decide) rfl rfl 27 rfl (fun rv h1 q9 => ?_)
      obtain ⟨m10, n11, rfl, rfl, I12, K13⟩ := q9
      have K13 := Kp.trans K13
      show PV _ _ _ _ _ _ _ 27 [.ref 123, .int x0, .int x1, .int x2, pv_U] [] _
      refine pv_aload_n (M := mX12_strokes) 0 dX12_strokes_27 28 rfl rfl rfl ?_
      refine pv_iload_n (M := mX12_strokes) 2 dX12_strokes_28 29 rfl rfl rfl ?_
      refine pv_callv (M := mX12_strokes) (as := [.int x1]) (st := []) (kc2 := 0) (ks2 := 0) dX12_strokes_29 wd1567 YX12_laysDeed ⟨wd1569, wd89⟩ (mk_get (tl123 hT)) rfl rfl (s_X12_laysDeed g hT I12 x1 (by omega) (by omega)) rfl rfl (Nat.le_of_ble_eq_true rfl) (by decide) rfl rfl 32 rfl (fun rv h1 q14 => ?_)
      obtain ⟨m15, n16, rfl, rfl, I17, K18⟩ := q14
      have K18 := K13.trans K18
      show PV _ _ _ _ _ _ _ 32 [.ref 123, .int x0, .int x1, .int x2, pv_U] [] _
      refine pv_aload_n (M := mX12_strokes) 0 dX12_strokes_32 33 rfl rfl rfl ?_
      refine pv_iload_n (M := mX12_strokes) 3 dX12_strokes_33 34 rfl rfl rfl ?_
      refine pv_callv (M := mX12_strokes) (as := [.int x2]) (st := []) (kc2 := 0) (ks2 := 0) dX12_strokes_34 wd1607 YX12_fewestStrokes ⟨wd1609, wd95⟩ (mk_get (tl123 hT)) rfl rfl (s_X12_fewestStrokes g hT I17 x2 (by omega) (by omega)) rfl rfl (Nat.le_of_ble_eq_true rfl) (by decide) rfl rfl 37 rfl (fun rv h1 q19 => ?_)
      obtain ⟨m20, n21, v24, rfl, rfl, I22, K23, pv24, qv24, rv24⟩ := q19
      have K23 := K18.trans K23
      show PV _ _ _ _ _ _ _ 37 [.ref 123, .int x0, .int x1, .int x2, pv_U] [.int v24] _
      refine pv_istore (M := mX12_strokes) (lo2 := [.ref 123, .int x0, .int x1, .int x2, .int v24]) dX12_strokes_37 39 rfl (by decide) rfl rfl ?_
      refine pv_iload (M := mX12_strokes) dX12_strokes_39 41 rfl rfl ?_
      refine pv_ldcw (M := mX12_strokes) (v := 1000000000) dX12_strokes_41 44 rfl wd1583 ?_
      refine pv_icmp_lt (M := mX12_strokes) (tgt := 52) dX12_strokes_44 47 rfl (by decide) (fun c25 => ?_) (fun c25 => ?_)
      · have c25 := iv_lt (X := v24.toInt) (Y := 1000000000) c25 rfl (by decide)
        refine pv_iload (M := mX12_strokes) dX12_strokes_52 54 rfl rfl ?_
        exact pv_iret (M := mX12_strokes) dX12_strokes_54 rfl rfl ⟨_, _, _, rfl, rfl, I22, K23, by omega, by omega, trivial⟩
      · have c25 := iv_nlt (X := v24.toInt) (Y := 1000000000) c25 rfl (by decide)
        refine pv_bipush (M := mX12_strokes) (v := (-2)) dX12_strokes_47 49 rfl (by decide) ?_
        refine pv_goto (M := mX12_strokes) (tgt := 54) dX12_strokes_49 (by decide) ?_
        exact pv_iret (M := mX12_strokes) dX12_strokes_54 rfl rfl ⟨_, _, _, rfl, rfl, I22, K23, by decide, by decide, trivial⟩
    · have c8 := iv_eq (X := v7.toInt) (Y := 0) c8 rfl (by decide)
      refine pv_iconst (M := mX12_strokes) (v := (-1)) dX12_strokes_19 20 rfl (by decide) ?_
      exact pv_iret (M := mX12_strokes) dX12_strokes_20 rfl rfl ⟨_, _, _, rfl, rfl, I, Kp, by decide, by decide, trivial⟩

set_option maxHeartbeats 1000000 in
set_option maxRecDepth 20000 in
theorem s_X12_ways (g : pv_G) {T : List mv_T} {m : Nat → Nat → Int32} {n : Nat → Nat → Int64} {r : Nat → Value} (hT : TX T) (I : IV BB m) (x0 : Int32) (x1 : Int32) : PM g mX12_ways yX12_ways (sqJ T BB r m) 3 0 0 [.ref 123, .int x0, .int x1] (mk T m n r) := by
  have Kp : kp m m := kp.rf
  refine PM.of 2 (lo := [.ref 123, .int x0, .int x1, pv_U, pv_U]) rfl (by decide) rfl rfl (Nat.le_of_ble_eq_true rfl) ?_
  refine pv_aload_n (M := mX12_ways) 0 dX12_ways_0 1 rfl rfl rfl ?_
  refine pv_iload_n (M := mX12_ways) 1 dX12_ways_1 2 rfl rfl rfl ?_
  refine pv_iload_n (M := mX12_ways) 2 dX12_ways_2 3 rfl rfl rfl ?_
  refine pv_callv (M := mX12_ways) (as := [.int x0, .int x1]) (st := []) (kc2 := 0) (ks2 := 0) dX12_ways_3 wd1554 YX12_isAsked ⟨wd1556, wd86⟩ (mk_get (tl123 hT)) rfl rfl (s_X12_isAsked g hT I x0 x1) rfl rfl (Nat.le_of_ble_eq_true rfl) (by decide) rfl rfl 6 rfl (fun rv h1 q1 => ?_)
  obtain ⟨v2, rfl, rfl, pv2, qv2, rv2⟩ := q1
  show PV _ _ _ _ _ _ _ 6 [.ref 123, .int x0, .int x1, pv_U, pv_U] [.int v2] _
  refine pv_if_ne (M := mX12_ways) (tgt := 13) dX12_ways_6 9 rfl (by decide) (fun c3 => ?_) (fun c3 => ?_)
  · have pc3 := rv2.resolve_left c3
    have c3 := iv_ne (X := v2.toInt) (Y := 0) c3 rfl (by decide)
    refine pv_aload_n (M := mX12_ways) 0 dX12_ways_13 14 rfl rfl rfl ?_
    refine pv_iload_n (M := mX12_ways) 1 dX12_ways_14 15 rfl rfl rfl ?_
    refine pv_iconst (M := mX12_ways) (v := 0) dX12_ways_15 16 rfl (by decide) ?_
    refine pv_callv (M := mX12_ways) (as := [.int x0, .int 0]) (st := []) (kc2 := 0) (ks2 := 0) dX12_ways_16 wd1563 YX12_laysBlank ⟨wd1565, wd88⟩ (mk_get (tl123 hT)) rfl rfl (s_X12_laysBlank g hT I x0 (by omega) (by omega) 0 (by decide) (by decide)) rfl rfl (Nat.le_of_ble_eq_true rfl) (by decide) rfl rfl 19 rfl (fun rv h1 q4 => ?_)
    obtain ⟨m5, n6, rfl, rfl, I7, K8⟩ := q4
    have K8 := Kp.trans K8
    show PV _ _ _ _ _ _ _ 19 [.ref 123, .int x0, .int x1, pv_U, pv_U] [] _
    refine pv_aload_n (M := mX12_ways) 0 dX12_ways_19 20 rfl rfl rfl ?_
    refine pv_iload_n (M := mX12_ways) 2 dX12_ways_20 21 rfl rfl rfl ?_
    refine pv_callv (M := mX12_ways) (as := [.int x1]) (st := []) (kc2 := 0) (ks2 := 0) dX12_ways_21 wd1567 YX12_laysDeed ⟨wd1569, wd89⟩ (mk_get (tl123 hT)) rfl rfl (s_X12_laysDeed g hT I7 x1 (by omega) (by omega)) rfl rfl (Nat.le_of_ble_eq_true rfl) (by decide) rfl rfl 24 rfl (fun rv h1 q9 => ?_)
    obtain ⟨m10, n11, rfl, rfl, I12, K13⟩ := q9
    have K13 := K8.trans K13
    show PV _ _ _ _ _ _ _ 24 [.ref 123, .int x0, .int x1, pv_U, pv_U] [] _
    refine pv_iconst (M := mX12_ways) (v := 0) dX12_ways_24 25 rfl (by decide) ?_
    refine pv_istore_n (M := mX12_ways) 3 (lo2 := [.ref 123, .int x0, .int x1, .int 0, pv_U]) dX12_ways_25 26 rfl rfl (by decide) rfl rfl ?_
    have lp20 : ∀ (fuel19 : Nat) (y14 : Int32) (m15 : Nat → Nat → Int32) (n16 : Nat → Nat → Int64), (0 ≤ y14.toInt) → (y14.toInt ≤ 17) → IV BB m15 → kp m m15 → ((17 - y14.toInt) : Int).toNat < fuel19 → PV none g mX12_ways (sqJ T BB r m) 3 0 0 26 [.ref 123, .int x0, .int x1, .int y14, pv_U] [] (mk T m15 n16 r) := by
      intro fuel19
      induction fuel19 with
      | zero => intro y14 m15 n16 b22 b23 I17 K18 z24; omega
      | succ fuel19 ih21 =>
        intro y14 m15 n16 b22 b23 I17 K18 z24
        refine pv_iload_n (M := mX12_ways) 3 dX12_ways_26 27 rfl rfl rfl ?_
        refine pv_aload_n (M := mX12_ways) 0 dX12_ways_27 28 rfl rfl rfl ?_
        refine iv_get (M := mX12_ways) dX12_ways_28 FX12 41 wd1214 (by decide) (tl123 hT) rfl I17 rfl 31 rfl (fun v25 ev25 pv25 qv25 => ?_)
        have pv25 : 0 ≤ v25.toInt := pv25
        have qv25 : v25.toInt ≤ 16 := qv25
        refine pv_icmp_gt (M := mX12_ways) (tgt := 55) dX12_ways_31 34 rfl (by decide) (fun c26 => ?_) (fun c26 => ?_)
        · have c26 := iv_lt (X := v25.toInt) (Y := y14.toInt) c26 rfl rfl
          refine pv_iconst (M := mX12_ways) (v := 0) dX12_ways_55 56 rfl (by decide) ?_
          refine pv_istore_n (M := mX12_ways) 3 (lo2 := [.ref 123, .int x0, .int x1, .int 0, pv_U]) dX12_ways_56 57 rfl rfl (by decide) rfl rfl ?_
          have lp33 : ∀ (fuel32 : Nat) (y27 : Int32) (m28 : Nat → Nat → Int32) (n29 : Nat → Nat → Int64), (0 ≤ y27.toInt) → (y27.toInt ≤ 40) → IV BB m28 → kp m m28 → ((40 - y27.toInt) : Int).toNat < fuel32 → PV none g mX12_ways (sqJ T BB r m) 3 0 0 57 [.ref 123, .int x0, .int x1, .int y27, pv_U] [] (mk T m28 n29 r) := by
            intro fuel32
            induction fuel32 with
            | zero => intro y27 m28 n29 b35 b36 I30 K31 z37; omega
            | succ fuel32 ih34 =>
              intro y27 m28 n29 b35 b36 I30 K31 z37
              refine pv_iload_n (M := mX12_ways) 3 dX12_ways_57 58 rfl rfl rfl ?_
              refine pv_aload_n (M := mX12_ways) 0 dX12_ways_58 59 rfl rfl rfl ?_
              refine iv_get (M := mX12_ways) dX12_ways_59 FX12 40 wd1213 (by decide) (tl123 hT) rfl I30 rfl 62 rfl (fun v38 ev38 pv38 qv38 => ?_)
              have pv38 : 0 ≤ v38.toInt := pv38
              have qv38 : v38.toInt ≤ 40 := qv38
              refine pv_icmp_ge (M := mX12_ways) (tgt := 130) dX12_ways_62 65 rfl (by decide) (fun c39 => ?_) (fun c39 => ?_)
              · have c39 := iv_le (X := v38.toInt) (Y := y27.toInt) c39 rfl rfl
                refine pv_aload_n (M := mX12_ways) 0 dX12_ways_130 131 rfl rfl rfl ?_
                refine mv_get (M := mX12_ways) (v := .ref 151) dX12_ways_131 FX12 44 wd1217 (by decide) (tl123 hT) rfl rfl 134 rfl ?_
                refine pv_aload_n (M := mX12_ways) 0 dX12_ways_134 135 rfl rfl rfl ?_
                refine iv_get (M := mX12_ways) dX12_ways_135 FX12 41 wd1214 (by decide) (tl123 hT) rfl I30 rfl 138 rfl (fun v40 ev40 pv40 qv40 => ?_)
                have pv40 : 0 ≤ v40.toInt := pv40
                have qv40 : v40.toInt ≤ 16 := qv40
                refine iv_lald (M := mX12_ways) (X := v40.toInt) dX12_ways_138 (tl151 hT) rfl (by omega) (by omega) 139 rfl (fun v41 ev41 => ?_)
                exact pv_lret (M := mX12_ways) dX12_ways_139 rfl ⟨_, _, _, rfl, rfl, I30, K31⟩
              · have c39 := iv_nle (X := v38.toInt) (Y := y27.toInt) c39 rfl rfl
                refine pv_aload_n (M := mX12_ways) 0 dX12_ways_65 66 rfl rfl rfl ?_
                refine iv_get (M := mX12_ways) dX12_ways_66 FX12 41 wd1214 (by decide) (tl123 hT) rfl I30 rfl 69 rfl (fun v42 ev42 pv42 qv42 => ?_)
                have pv42 : 0 ≤ v42.toInt := pv42
                have qv42 : v42.toInt ≤ 16 := qv42
                refine pv_istore (M := mX12_ways) (lo2 := [.ref 123, .int x0, .int x1, .int y27, .int v42]) dX12_ways_69 71 rfl (by decide) rfl rfl ?_
                have lp49 : ∀ (fuel48 : Nat) (y43 : Int32) (m44 : Nat → Nat → Int32) (n45 : Nat → Nat → Int64), (0 ≤ y43.toInt) → (y43.toInt ≤ 16) → IV BB m44 → kp m m44 → ((y43.toInt - (0)) : Int).toNat < fuel48 → PV none g mX12_ways (sqJ T BB r m) 3 0 0 71 [.ref 123, .int x0, .int x1, .int y27, .int y43] [] (mk T m44 n45 r) := by
                  intro fuel48
                  induction fuel48 with
                  | zero => intro y43 m44 n45 b51 b52 I46 K47 z53; omega
                  | succ fuel48 ih50 =>
                    intro y43 m44 n45 b51 b52 I46 K47 z53
                    refine pv_iload (M := mX12_ways) dX12_ways_71 73 rfl rfl ?_
                    refine pv_if_le (M := mX12_ways) (tgt := 124) dX12_ways_73 76 rfl (by decide) (fun c54 => ?_) (fun c54 => ?_)
                    · have c54 := iv_le (X := y43.toInt) (Y := 0) c54 rfl (by decide)
                      refine iv_inc (M := mX12_ways) (C := 1) dX12_ways_124 127 rfl rfl (by decide) rfl rfl (by decide) (by omega) (by omega) (fun v55 ev55 => ?_)
                      show PV _ _ _ _ _ _ _ 127 [.ref 123, .int x0, .int x1, .int v55, .int y43] [] _
                      refine pv_goto (M := mX12_ways) (tgt := 57) dX12_ways_127 (by decide) ?_
                      refine pv_fg (lo2 := [.ref 123, .int x0, .int x1, .int v55, pv_U]) ⟨Or.inr rfl, ⟨Or.inr rfl, ⟨Or.inr rfl, ⟨Or.inr rfl, ⟨Or.inl rfl, trivial⟩⟩⟩⟩⟩ ?_
                      exact ih34 v55 m44 n45 (by first | omega | decide) (by first | omega | decide) I46 K47 (by omega)
                    · have c54 := iv_nle (X := y43.toInt) (Y := 0) c54 rfl (by decide)
                      refine pv_aload_n (M := mX12_ways) 0 dX12_ways_76 77 rfl rfl rfl ?_
                      refine mv_get (M := mX12_ways) (v := .ref 149) dX12_ways_77 FX12 42 wd1215 (by decide) (tl123 hT) rfl rfl 80 rfl ?_
                      refine pv_iload_n (M := mX12_ways) 3 dX12_ways_80 81 rfl rfl rfl ?_
                      refine iv_iald (M := mX12_ways) (X := y27.toInt) dX12_ways_81 (tl149 hT) rfl (by omega) (by omega) I46 (fun _ => rfl) 82 rfl (fun v56 ev56 pv56 qv56 => ?_)
                      have pv56 : 0 ≤ v56.toInt := pv56
                      have qv56 : v56.toInt ≤ 25 := qv56
                      refine pv_aload_n (M := mX12_ways) 0 dX12_ways_82 83 rfl rfl rfl ?_
                      refine mv_get (M := mX12_ways) (v := .ref 150) dX12_ways_83 FX12 43 wd1216 (by decide) (tl123 hT) rfl rfl 86 rfl ?_
                      refine pv_iload (M := mX12_ways) dX12_ways_86 88 rfl rfl ?_
                      refine pv_iconst (M := mX12_ways) (v := 1) dX12_ways_88 89 rfl (by decide) ?_
                      refine iv_isub (M := mX12_ways) (X := y43.toInt) (Y := 1) dX12_ways_89 90 rfl rfl (by decide) (by omega) (by omega) (fun v57 ev57 => ?_)
                      refine iv_iald (M := mX12_ways) (X := v57.toInt) dX12_ways_90 (tl150 hT) rfl (by omega) (by omega) I46 (fun _ => rfl) 91 rfl (fun v58 ev58 pv58 qv58 => ?_)
                      have pv58 : 0 ≤ v58.toInt := pv58
                      have qv58 : v58.toInt ≤ 25 := qv58
                      refine pv_icmp_ne (M := mX12_ways) (tgt := 118) dX12_ways_91 94 rfl (by decide) (fun c59 => ?_) (fun c59 => ?_)
                      · have c59 := iv_ne (X := v56.toInt) (Y := v58.toInt) c59 rfl rfl
                        refine iv_inc (M := mX12_ways) (C := (-1)) dX12_ways_118 121 rfl rfl (by decide) rfl rfl (by decide) (by omega) (by omega) (fun v60 ev60 => ?_)
                        show PV _ _ _ _ _ _ _ 121 [.ref 123, .int x0, .int x1, .int y27, .int v60] [] _
                        refine pv_goto (M := mX12_ways) (tgt := 71) dX12_ways_121 (by decide) ?_
                        exact ih50 v60 m44 n45 (by first | omega | decide) (by first | omega | decide) I46 K47 (by omega)
                      · have c59 := iv_eq (X := v56.toInt) (Y := v58.toInt) c59 rfl rfl
                        refine pv_aload_n (M := mX12_ways) 0 dX12_ways_94 95 rfl rfl rfl ?_
                        refine mv_get (M := mX12_ways) (v := .ref 151) dX12_ways_95 FX12 44 wd1217 (by decide) (tl123 hT) rfl rfl 98 rfl ?_
                        refine pv_iload (M := mX12_ways) dX12_ways_98 100 rfl rfl ?_
                        refine pv_aload_n (M := mX12_ways) 0 dX12_ways_100 101 rfl rfl rfl ?_
                        refine mv_get (M := mX12_ways) (v := .ref 151) dX12_ways_101 FX12 44 wd1217 (by decide) (tl123 hT) rfl rfl 104 rfl ?_
                        refine pv_iload (M := mX12_ways) dX12_ways_104 106 rfl rfl ?_
                        refine iv_lald (M := mX12_ways) (X := y43.toInt) dX12_ways_106 (tl151 hT) rfl (by omega) (by omega) 107 rfl (fun v61 ev61 => ?_)
                        refine pv_aload_n (M := mX12_ways) 0 dX12_ways_107 108 rfl rfl rfl ?_
                        refine mv_get (M := mX12_ways) (v := .ref 151) dX12_ways_108 FX12 44 wd1217 (by decide) (tl123 hT) rfl rfl 111 rfl ?_
                        refine pv_iload (M := mX12_ways) dX12_ways_111 113 rfl rfl ?_
                        refine pv_iconst (M := mX12_ways) (v := 1) dX12_ways_113 114 rfl (by decide) ?_
                        refine iv_isub (M := mX12_ways) (X := y43.toInt) (Y := 1) dX12_ways_114 115 rfl rfl (by decide) (by omega) (by omega) (fun v62 ev62 => ?_)
                        refine iv_lald (M := mX12_ways) (X := v62.toInt) dX12_ways_115 (tl151 hT) rfl (by omega) (by omega) 116 rfl (fun v63 ev63 => ?_)
                        refine pv_ladd (M := mX12_ways) (v := v61 + v63) dX12_ways_116 117 rfl rfl ?_
                        refine iv_last (M := mX12_ways) (X := y43.toInt) dX12_ways_117 (tl151 hT) rfl (by omega) (by omega) 118 rfl (fun n65 en65 => ?_)
                        refine iv_inc (M := mX12_ways) (C := (-1)) dX12_ways_118 121 rfl rfl (by decide) rfl rfl (by decide) (by omega) (by omega) (fun v66 ev66 => ?_)
                        show PV _ _ _ _ _ _ _ 121 [.ref 123, .int x0, .int x1, .int y27, .int v66] [] _
                        refine pv_goto (M := mX12_ways) (tgt := 71) dX12_ways_121 (by decide) ?_
                        exact ih50 v66 m44 n65 (by first | omega | decide) (by first | omega | decide) I46 K47 (by omega)
                exact lp49 (((v42.toInt - (0)) : Int).toNat + 1) v42 m28 n29 (by first | omega | decide) (by first | omega | decide) I30 K31 (by omega)
          have z67 : (0 : Int32).toInt = 0 := by decide
          exact lp33 (((40 - 0) : Int).toNat + 1) 0 m15 n16 (by first | omega | decide) (by first | omega | decide) I17 K18 (by omega)
        · have c26 := iv_nlt (X := v25.toInt) (Y := y14.toInt) c26 rfl rfl
          refine pv_aload_n (M := mX12_ways) 0 dX12_ways_34 35 rfl rfl rfl ?_
          refine mv_get (M := mX12_ways) (v := .ref 151) dX12_ways_35 FX12 44 wd1217 (by decide) (tl123 hT) rfl rfl 38 rfl ?_
          refine pv_iload_n (M := mX12_ways) 3 dX12_ways_38 39 rfl rfl rfl ?_
          refine pv_iload_n (M := mX12_ways) 3 dX12_ways_39 40 rfl rfl rfl ?_
          refine pv_if_ne (M := mX12_ways) (tgt := 47) dX12_ways_40 43 rfl (by decide) (fun c68 => ?_) (fun c68 => ?_)
          · have c68 := iv_ne (X := y14.toInt) (Y := 0) c68 rfl (by decide)
            refine pv_lconst (M := mX12_ways) (v := 0) dX12_ways_47 48 rfl (by decide) ?_
            refine iv_last (M := mX12_ways) (X := y14.toInt) dX12_ways_48 (tl151 hT) rfl (by omega) (by omega) 49 rfl (fun n69 en69 => ?_)
            refine iv_inc (M := mX12_ways) (C := 1) dX12_ways_49 52 rfl rfl (by decide) rfl rfl (by decide) (by omega) (by omega) (fun v70 ev70 => ?_)
            show PV _ _ _ _ _ _ _ 52 [.ref 123, .int x0, .int x1, .int v70, pv_U] [] _
            refine pv_goto (M := mX12_ways) (tgt := 26) dX12_ways_52 (by decide) ?_
            exact ih21 v70 m15 n69 (by first | omega | decide) (by first | omega | decide) I17 K18 (by omega)
          · have c68 := iv_eq (X := y14.toInt) (Y := 0) c68 rfl (by decide)
            refine pv_lconst (M := mX12_ways) (v := 1) dX12_ways_43 44 rfl (by decide) ?_
            refine pv_goto (M := mX12_ways) (tgt := 48) dX12_ways_44 (by decide) ?_
            refine iv_last (M := mX12_ways) (X := y14.toInt) dX12_ways_48 (tl151 hT) rfl (by omega) (by omega) 49 rfl (fun n71 en71 => ?_)
            refine iv_inc (M := mX12_ways) (C := 1) dX12_ways_49 52 rfl rfl (by decide) rfl rfl (by decide) (by omega) (by omega) (fun v72 ev72 => ?_)
            show PV _ _ _ _ _ _ _ 52 [.ref 123, .int x0, .int x1, .int v72, pv_U] [] _
            refine pv_goto (M := mX12_ways) (tgt := 26) dX12_ways_52 (by decide) ?_
            exact ih21 v72 m15 n71 (by first | omega | decide) (by first | omega | decide) I17 K18 (by omega)
    have z73 : (0 : Int32).toInt = 0 := by decide
    exact lp20 (((17 - 0) : Int).toNat + 1) 0 m10 n11 (by first | omega | decide) (by first | omega | decide) I12 K13 (by omega)
  · have c3 := iv_eq (X := v2.toInt) (Y := 0) c3 rfl (by decide)
    refine pv_ldc2 (M := mX12_ways) (v := (-1)) dX12_ways_9 12 rfl wd1562 ?_
    exact pv_lret (M := mX12_ways) dX12_ways_12 rfl ⟨_, _, _, rfl, rfl, I, Kp⟩

set_option maxHeartbeats 1000000 in
set_option maxRecDepth 20000 in
theorem s_X12_howOften (g : pv_G) {T : List mv_T} {m : Nat → Nat → Int32} {n : Nat → Nat → Int64} {r : Nat → Value} (hT : TX T) (I : IV BB m) (x0 : Int32) (hl0 : 0 ≤ x0.toInt) (hh0 : x0.toInt ≤ 7) (x1 : Int32) : PM g mX12_howOften yX12_howOften (sqP (mk T m n r) 0 40 (fun v => True)) 1 0 0 [.ref 123, .int x0, .int x1] (mk T m n r) := by
  have Kp : kp m m := kp.rf
  refine PM.of 2 (lo := [.ref 123, .int x0, .int x1, pv_U, pv_U]) rfl (by decide) rfl rfl (Nat.le_of_ble_eq_true rfl) ?_
  refine pv_iconst (M := mX12_howOften) (v := 0) dX12_howOften_0 1 rfl (by decide) ?_
  refine pv_istore_n (M := mX12_howOften) 3 (lo2 := [.ref 123, .int x0, .int x1, .int 0, pv_U]) dX12_howOften_1 2 rfl rfl (by decide) rfl rfl ?_
  refine pv_iconst (M := mX12_howOften) (v := 0) dX12_howOften_2 3 rfl (by decide) ?_
  refine pv_istore (M := mX12_howOften) (lo2 := [.ref 123, .int x0, .int x1, .int 0, .int 0]) dX12_howOften_3 5 rfl (by decide) rfl rfl ?_
  have lp8 : ∀ (fuel7 : Nat) (y1 : Int32) (y2 : Int32), (0 ≤ y1.toInt) → (y1.toInt ≤ 40) → (0 ≤ y2.toInt) → (y2.toInt ≤ 40) → (y1.toInt ≤ y2.toInt) → ((40 - y2.toInt) : Int).toNat < fuel7 → PV none g mX12_howOften (sqP (mk T m n r) 0 40 (fun v => True)) 1 0 0 5 [.ref 123, .int x0, .int x1, .int y1, .int y2] [] (mk T m n r) := by
    intro fuel7
    induction fuel7 with
    | zero => intro y1 y2 b10 b11 b12 b13 b14 z15; omega
    | succ fuel7 ih9 =>
      intro y1 y2 b10 b11 b12 b13 b14 z15
      refine pv_iload (M := mX12_howOften) dX12_howOften_5 7 rfl rfl ?_
      refine pv_aload_n (M := mX12_howOften) 0 dX12_howOften_7 8 rfl rfl rfl ?_
      refine mv_get (M := mX12_howOften) (v := .ref 124) dX12_howOften_8 FX12 5 wd1178 (by decide) (tl123 hT) rfl rfl 11 rfl ?_
      refine pv_iload_n (M := mX12_howOften) 1 dX12_howOften_11 12 rfl rfl rfl ?_
      refine iv_iald (M := mX12_howOften) (X := x0.toInt) dX12_howOften_12 (tl124 hT) rfl (by omega) (by omega) I (fun _ => rfl) 13 rfl (fun v16 ev16 pv16 qv16 => ?_)
      have pv16 : 0 ≤ v16.toInt := pv16
      have qv16 : v16.toInt ≤ 40 := qv16
      refine pv_icmp_ge (M := mX12_howOften) (tgt := 61) dX12_howOften_13 16 rfl (by decide) (fun c17 => ?_) (fun c17 => ?_)
      · have c17 := iv_le (X := v16.toInt) (Y := y2.toInt) c17 rfl rfl
        refine pv_iload_n (M := mX12_howOften) 3 dX12_howOften_61 62 rfl rfl rfl ?_
        exact pv_iret (M := mX12_howOften) dX12_howOften_62 rfl rfl ⟨_, rfl, rfl, by omega, by omega, trivial⟩
      · have c17 := iv_nle (X := v16.toInt) (Y := y2.toInt) c17 rfl rfl
        refine pv_iload_n (M := mX12_howOften) 3 dX12_howOften_16 17 rfl rfl rfl ?_
        refine pv_aload_n (M := mX12_howOften) 0 dX12_howOften_17 18 rfl rfl rfl ?_
        refine mv_get (M := mX12_howOften) (v := .ref 128) dX12_howOften_18 FX12 9 wd1182 (by decide) (tl123 hT) rfl rfl 21 rfl ?_
        refine pv_bipush (M := mX12_howOften) (v := 40) dX12_howOften_21 23 rfl (by decide) ?_
        refine pv_iload_n (M := mX12_howOften) 1 dX12_howOften_23 24 rfl rfl rfl ?_
        refine iv_imul (M := mX12_howOften) (X := 40) (Y := x0.toInt) dX12_howOften_24 25 rfl (by decide) rfl (by omega) (by omega) (fun v18 ev18 => ?_)
        refine pv_iload (M := mX12_howOften) dX12_howOften_25 27 rfl rfl ?_
        refine iv_iadd (M := mX12_howOften) (X := v18.toInt) (Y := y2.toInt) dX12_howOften_27 28 rfl rfl rfl (by omega) (by omega) (fun v19 ev19 => ?_)
        refine iv_zald (M := mX12_howOften) (X := v19.toInt) dX12_howOften_28 (tl128 hT) rfl (by omega) (by omega) I (fun _ => rfl) 29 rfl (fun v20 ev20 pv20 qv20 => ?_)
        have pv20 : 0 ≤ v20.toInt := pv20
        have qv20 : v20.toInt ≤ 1 := qv20
        refine pv_if_ne (M := mX12_howOften) (tgt := 52) dX12_howOften_29 32 rfl (by decide) (fun c21 => ?_) (fun c21 => ?_)
        · have c21 := iv_ne (X := v20.toInt) (Y := 0) c21 rfl (by decide)
          refine pv_iconst (M := mX12_howOften) (v := 0) dX12_howOften_52 53 rfl (by decide) ?_
          refine iv_iadd (M := mX12_howOften) (X := y1.toInt) (Y := 0) dX12_howOften_53 54 rfl rfl (by decide) (by omega) (by omega) (fun v22 ev22 => ?_)
          refine pv_istore_n (M := mX12_howOften) 3 (lo2 := [.ref 123, .int x0, .int x1, .int v22, .int y2]) dX12_howOften_54 55 rfl rfl (by decide) rfl rfl ?_
          refine iv_inc (M := mX12_howOften) (C := 1) dX12_howOften_55 58 rfl rfl (by decide) rfl rfl (by decide) (by omega) (by omega) (fun v23 ev23 => ?_)
          show PV _ _ _ _ _ _ _ 58 [.ref 123, .int x0, .int x1, .int v22, .int v23] [] _
          refine pv_goto (M := mX12_howOften) (tgt := 5) dX12_howOften_58 (by decide) ?_
          exact ih9 v22 v23 (by first | omega | decide) (by first | omega | decide) (by first | omega | decide) (by first | omega | decide) (by first | omega | decide) (by omega)
        · have c21 := iv_eq (X := v20.toInt) (Y := 0) c21 rfl (by decide)
          refine pv_aload_n (M := mX12_howOften) 0 dX12_howOften_32 33 rfl rfl rfl ?_
          refine mv_get (M := mX12_howOften) (v := .ref 125) dX12_howOften_33 FX12 6 wd1179 (by decide) (tl123 hT) rfl rfl 36 rfl ?_
          refine pv_bipush (M := mX12_howOften) (v := 40) dX12_howOften_36 38 rfl (by decide) ?_
          refine pv_iload_n (M := mX12_howOften) 1 dX12_howOften_38 39 rfl rfl rfl ?_
          refine iv_imul (M := mX12_howOften) (X := 40) (Y := x0.toInt) dX12_howOften_39 40 rfl (by decide) rfl (by omega) (by omega) (fun v24 ev24 => ?_)
          refine pv_iload (M := mX12_howOften) dX12_howOften_40 42 rfl rfl ?_
          refine iv_iadd (M := mX12_howOften) (X := v24.toInt) (Y := y2.toInt) dX12_howOften_42 43 rfl rfl rfl (by omega) (by omega) (fun v25 ev25 => ?_)
          refine iv_iald (M := mX12_howOften) (X := v25.toInt) dX12_howOften_43 (tl125 hT) rfl (by omega) (by omega) I (fun _ => rfl) 44 rfl (fun v26 ev26 pv26 qv26 => ?_)
          have pv26 : 0 ≤ v26.toInt := pv26
          have qv26 : v26.toInt ≤ 25 := qv26
          refine pv_iload_n (M := mX12_howOften) 2 dX12_howOften_44 45 rfl rfl rfl ?_
          refine pv_icmp_ne (M := mX12_howOften) (tgt := 52) dX12_howOften_45 48 rfl (by decide) (fun c27 => ?_) (fun c27 => ?_)
          · have c27 := iv_ne (X := v26.toInt) (Y := x1.toInt) c27 rfl rfl
            refine pv_iconst (M := mX12_howOften) (v := 0) dX12_howOften_52 53 rfl (by decide) ?_
            refine iv_iadd (M := mX12_howOften) (X := y1.toInt) (Y := 0) dX12_howOften_53 54 rfl rfl (by decide) (by omega) (by omega) (fun v28 ev28 => ?_)
            refine pv_istore_n (M := mX12_howOften) 3 (lo2 := [.ref 123, .int x0, .int x1, .int v28, .int y2]) dX12_howOften_54 55 rfl rfl (by decide) rfl rfl ?_
            refine iv_inc (M := mX12_howOften) (C := 1) dX12_howOften_55 58 rfl rfl (by decide) rfl rfl (by decide) (by omega) (by omega) (fun v29 ev29 => ?_)
            show PV _ _ _ _ _ _ _ 58 [.ref 123, .int x0, .int x1, .int v28, .int v29] [] _
            refine pv_goto (M := mX12_howOften) (tgt := 5) dX12_howOften_58 (by decide) ?_
            exact ih9 v28 v29 (by first | omega | decide) (by first | omega | decide) (by first | omega | decide) (by first | omega | decide) (by first | omega | decide) (by omega)
          · have c27 := iv_eq (X := v26.toInt) (Y := x1.toInt) c27 rfl rfl
            refine pv_iconst (M := mX12_howOften) (v := 1) dX12_howOften_48 49 rfl (by decide) ?_
            refine pv_goto (M := mX12_howOften) (tgt := 53) dX12_howOften_49 (by decide) ?_
            refine iv_iadd (M := mX12_howOften) (X := y1.toInt) (Y := 1) dX12_howOften_53 54 rfl rfl (by decide) (by omega) (by omega) (fun v30 ev30 => ?_)
            refine pv_istore_n (M := mX12_howOften) 3 (lo2 := [.ref 123, .int x0, .int x1, .int v30, .int y2]) dX12_howOften_54 55 rfl rfl (by decide) rfl rfl ?_
            refine iv_inc (M := mX12_howOften) (C := 1) dX12_howOften_55 58 rfl rfl (by decide) rfl rfl (by decide) (by omega) (by omega) (fun v31 ev31 => ?_)
            show PV _ _ _ _ _ _ _ 58 [.ref 123, .int x0, .int x1, .int v30, .int v31] [] _
            refine pv_goto (M := mX12_howOften) (tgt := 5) dX12_howOften_58 (by decide) ?_
            exact ih9 v30 v31 (by first | omega | decide) (by first | omega | decide) (by first | omega | decide) (by first | omega | decide) (by first | omega | decide) (by omega)
  have z32 : (0 : Int32).toInt = 0 := by decide
  have z33 : (0 : Int32).toInt = 0 := by decide
  exact lp8 (((40 - 0) : Int).toNat + 1) 0 0 (by first | omega | decide) (by first | omega | decide) (by first | omega | decide) (by first | omega | decide) (by first | omega | decide) (by omega)

set_option maxHeartbeats 1000000 in
set_option maxRecDepth 20000 in
theorem s_X12_isStruckAt (g : pv_G) {T : List mv_T} {m : Nat → Nat → Int32} {n : Nat → Nat → Int64} {r : Nat → Value} (hT : TX T) (I : IV BB m) (x0 : Int32) (hl0 : 0 ≤ x0.toInt) (hh0 : x0.toInt ≤ 7) (x1 : Int32) (hl1 : -1 ≤ x1.toInt) (hh1 : x1.toInt ≤ 40) : PM g mX12_isStruckAt yX12_isStruckAt (sqP (mk T m n r) 0 1 (fun v => True)) 1 0 0 [.ref 123, .int x0, .int x1] (mk T m n r) := by
  have Kp : kp m m := kp.rf
  refine PM.of 0 (lo := [.ref 123, .int x0, .int x1]) rfl (by decide) rfl rfl (Nat.le_of_ble_eq_true rfl) ?_
  refine pv_iload_n (M := mX12_isStruckAt) 2 dX12_isStruckAt_0 1 rfl rfl rfl ?_
  refine pv_if_lt (M := mX12_isStruckAt) (tgt := 28) dX12_isStruckAt_1 4 rfl (by decide) (fun c1 => ?_) (fun c1 => ?_)
  · have c1 := iv_lt (X := x1.toInt) (Y := 0) c1 rfl (by decide)
    refine pv_iconst (M := mX12_isStruckAt) (v := 1) dX12_isStruckAt_28 29 rfl (by decide) ?_
    refine pv_goto (M := mX12_isStruckAt) (tgt := 33) dX12_isStruckAt_29 (by decide) ?_
    exact pv_iret (M := mX12_isStruckAt) dX12_isStruckAt_33 rfl rfl ⟨_, rfl, rfl, by decide, by decide, trivial⟩
  · have c1 := iv_nlt (X := x1.toInt) (Y := 0) c1 rfl (by decide)
    refine pv_iload_n (M := mX12_isStruckAt) 2 dX12_isStruckAt_4 5 rfl rfl rfl ?_
    refine pv_aload_n (M := mX12_isStruckAt) 0 dX12_isStruckAt_5 6 rfl rfl rfl ?_
    refine mv_get (M := mX12_isStruckAt) (v := .ref 124) dX12_isStruckAt_6 FX12 5 wd1178 (by decide) (tl123 hT) rfl rfl 9 rfl ?_
    refine pv_iload_n (M := mX12_isStruckAt) 1 dX12_isStruckAt_9 10 rfl rfl rfl ?_
    refine iv_iald (M := mX12_isStruckAt) (X := x0.toInt) dX12_isStruckAt_10 (tl124 hT) rfl (by omega) (by omega) I (fun _ => rfl) 11 rfl (fun v2 ev2 pv2 qv2 => ?_)
    have pv2 : 0 ≤ v2.toInt := pv2
    have qv2 : v2.toInt ≤ 40 := qv2
    refine pv_icmp_ge (M := mX12_isStruckAt) (tgt := 28) dX12_isStruckAt_11 14 rfl (by decide) (fun c3 => ?_) (fun c3 => ?_)
    · have c3 := iv_le (X := v2.toInt) (Y := x1.toInt) c3 rfl rfl
      refine pv_iconst (M := mX12_isStruckAt) (v := 1) dX12_isStruckAt_28 29 rfl (by decide) ?_
      refine pv_goto (M := mX12_isStruckAt) (tgt := 33) dX12_isStruckAt_29 (by decide) ?_
      exact pv_iret (M := mX12_isStruckAt) dX12_isStruckAt_33 rfl rfl ⟨_, rfl, rfl, by decide, by decide, trivial⟩
    · have c3 := iv_nle (X := v2.toInt) (Y := x1.toInt) c3 rfl rfl
      refine pv_aload_n (M := mX12_isStruckAt) 0 dX12_isStruckAt_14 15 rfl rfl rfl ?_
      refine mv_get (M := mX12_isStruckAt) (v := .ref 128) dX12_isStruckAt_15 FX12 9 wd1182 (by decide) (tl123 hT) rfl rfl 18 rfl ?_
      refine pv_bipush (M := mX12_isStruckAt) (v := 40) dX12_isStruckAt_18 20 rfl (by decide) ?_
      refine pv_iload_n (M := mX12_isStruckAt) 1 dX12_isStruckAt_20 21 rfl rfl rfl ?_
      refine iv_imul (M := mX12_isStruckAt) (X := 40) (Y := x0.toInt) dX12_isStruckAt_21 22 rfl (by decide) rfl (by omega) (by omega) (fun v4 ev4 => ?_)
      refine pv_iload_n (M := mX12_isStruckAt) 2 dX12_isStruckAt_22 23 rfl rfl rfl ?_
      refine iv_iadd (M := mX12_isStruckAt) (X := v4.toInt) (Y := x1.toInt) dX12_isStruckAt_23 24 rfl rfl rfl (by omega) (by omega) (fun v5 ev5 => ?_)
      refine iv_zald (M := mX12_isStruckAt) (X := v5.toInt) dX12_isStruckAt_24 (tl128 hT) rfl (by omega) (by omega) I (fun _ => rfl) 25 rfl (fun v6 ev6 pv6 qv6 => ?_)
      have pv6 : 0 ≤ v6.toInt := pv6
      have qv6 : v6.toInt ≤ 1 := qv6
      refine pv_if_eq (M := mX12_isStruckAt) (tgt := 32) dX12_isStruckAt_25 28 rfl (by decide) (fun c7 => ?_) (fun c7 => ?_)
      · have c7 := iv_eq (X := v6.toInt) (Y := 0) c7 rfl (by decide)
        refine pv_iconst (M := mX12_isStruckAt) (v := 0) dX12_isStruckAt_32 33 rfl (by decide) ?_
        exact pv_iret (M := mX12_isStruckAt) dX12_isStruckAt_33 rfl rfl ⟨_, rfl, rfl, by decide, by decide, trivial⟩
      · have c7 := iv_ne (X := v6.toInt) (Y := 0) c7 rfl (by decide)
        refine pv_iconst (M := mX12_isStruckAt) (v := 1) dX12_isStruckAt_28 29 rfl (by decide) ?_
        refine pv_goto (M := mX12_isStruckAt) (tgt := 33) dX12_isStruckAt_29 (by decide) ?_
        exact pv_iret (M := mX12_isStruckAt) dX12_isStruckAt_33 rfl rfl ⟨_, rfl, rfl, by decide, by decide, trivial⟩

set_option maxHeartbeats 1000000 in
set_option maxRecDepth 20000 in
theorem s_X12_valueBy (g : pv_G) {T : List mv_T} {m : Nat → Nat → Int32} {n : Nat → Nat → Int64} {r : Nat → Value} (hT : TX T) (I : IV BB m) (x0 : Int32) (hl0 : 0 ≤ x0.toInt) (hh0 : x0.toInt ≤ 7) (x1 : Int32) (hl1 : 0 ≤ x1.toInt) (hh1 : x1.toInt ≤ 8) (x2 : Int32) (hl2 : 0 ≤ x2.toInt) (hh2 : x2.toInt ≤ 255) : PM g mX12_valueBy yX12_valueBy (sqP (mk T m n r) (-2147483648) 2147483647 (fun v => True)) 2 0 0 [.ref 123, .int x0, .int x1, .int x2] (mk T m n r) := by
  have Kp : kp m m := kp.rf
  refine PM.of 0 (lo := [.ref 123, .int x0, .int x1, .int x2]) rfl (by decide) rfl rfl (Nat.le_of_ble_eq_true rfl) ?_
  refine pv_iload_n (M := mX12_valueBy) 2 dX12_valueBy_0 1 rfl rfl rfl ?_
  refine pv_bipush (M := mX12_valueBy) (v := 8) dX12_valueBy_1 3 rfl (by decide) ?_
  refine pv_icmp_ne (M := mX12_valueBy) (tgt := 21) dX12_valueBy_3 6 rfl (by decide) (fun c1 => ?_) (fun c1 => ?_)
  · have c1 := iv_ne (X := x1.toInt) (Y := 8) c1 rfl (by decide)
    refine pv_iload_n (M := mX12_valueBy) 2 dX12_valueBy_21 22 rfl rfl rfl ?_
    refine pv_aload_n (M := mX12_valueBy) 0 dX12_valueBy_22 23 rfl rfl rfl ?_
    refine iv_get (M := mX12_valueBy) dX12_valueBy_23 FX12 0 wd1173 (by decide) (tl123 hT) rfl I rfl 26 rfl (fun v2 ev2 pv2 qv2 => ?_)
    have pv2 : 0 ≤ v2.toInt := pv2
    have qv2 : v2.toInt ≤ 8 := qv2
    refine pv_icmp_ge (M := mX12_valueBy) (tgt := 52) dX12_valueBy_26 29 rfl (by decide) (fun c3 => ?_) (fun c3 => ?_)
    · have c3 := iv_le (X := v2.toInt) (Y := x1.toInt) c3 rfl rfl
      refine pv_ldcw (M := mX12_valueBy) (v := (-1000000000)) dX12_valueBy_52 55 rfl wd1728 ?_
      exact pv_iret (M := mX12_valueBy) dX12_valueBy_55 rfl rfl ⟨_, rfl, rfl, by decide, by decide, trivial⟩
    · have c3 := iv_nle (X := v2.toInt) (Y := x1.toInt) c3 rfl rfl
      refine pv_iload_n (M := mX12_valueBy) 3 dX12_valueBy_29 30 rfl rfl rfl ?_
      refine pv_iload_n (M := mX12_valueBy) 2 dX12_valueBy_30 31 rfl rfl rfl ?_
      refine pv_ishr (M := mX12_valueBy) (v := (x2 >>> (x1 &&& 31) : Int32)) dX12_valueBy_31 32 rfl rfl ?_
      obtain ⟨v4, ev4⟩ : ∃ z : Int32, z = x2 >>> (x1 &&& 31) := ⟨_, rfl⟩
      rw [← ev4]
      refine pv_iconst (M := mX12_valueBy) (v := 1) dX12_valueBy_32 33 rfl (by decide) ?_
      refine iv_iandm (M := mX12_valueBy) dX12_valueBy_33 34 rfl 1 (by decide) (by decide) (fun v5 ev5 pv5 qv5 => ?_)
      have qv5 : v5.toInt < 2 := qv5
      refine pv_iconst (M := mX12_valueBy) (v := 1) dX12_valueBy_34 35 rfl (by decide) ?_
      refine pv_icmp_eq (M := mX12_valueBy) (tgt := 52) dX12_valueBy_35 38 rfl (by decide) (fun c6 => ?_) (fun c6 => ?_)
      · have c6 := iv_eq (X := v5.toInt) (Y := 1) c6 rfl (by decide)
        refine pv_ldcw (M := mX12_valueBy) (v := (-1000000000)) dX12_valueBy_52 55 rfl wd1728 ?_
        exact pv_iret (M := mX12_valueBy) dX12_valueBy_55 rfl rfl ⟨_, rfl, rfl, by decide, by decide, trivial⟩
      · have c6 := iv_ne (X := v5.toInt) (Y := 1) c6 rfl (by decide)
        refine pv_aload_n (M := mX12_valueBy) 0 dX12_valueBy_38 39 rfl rfl rfl ?_
        refine mv_get (M := mX12_valueBy) (v := .ref 165) dX12_valueBy_39 FX12 59 wd1232 (by decide) (tl123 hT) rfl rfl 42 rfl ?_
        refine pv_bipush (M := mX12_valueBy) (v := 8) dX12_valueBy_42 44 rfl (by decide) ?_
        refine pv_iload_n (M := mX12_valueBy) 1 dX12_valueBy_44 45 rfl rfl rfl ?_
        refine iv_imul (M := mX12_valueBy) (X := 8) (Y := x0.toInt) dX12_valueBy_45 46 rfl (by decide) rfl (by omega) (by omega) (fun v7 ev7 => ?_)
        refine pv_iload_n (M := mX12_valueBy) 2 dX12_valueBy_46 47 rfl rfl rfl ?_
        refine iv_iadd (M := mX12_valueBy) (X := v7.toInt) (Y := x1.toInt) dX12_valueBy_47 48 rfl rfl rfl (by omega) (by omega) (fun v8 ev8 => ?_)
        refine iv_zald (M := mX12_valueBy) (X := v8.toInt) dX12_valueBy_48 (tl165 hT) rfl (by omega) (by omega) I (fun _ => rfl) 49 rfl (fun v9 ev9 pv9 qv9 => ?_)
        have pv9 : 0 ≤ v9.toInt := pv9
        have qv9 : v9.toInt ≤ 1 := qv9
        refine pv_if_ne (M := mX12_valueBy) (tgt := 56) dX12_valueBy_49 52 rfl (by decide) (fun c10 => ?_) (fun c10 => ?_)
        · have c10 := iv_ne (X := v9.toInt) (Y := 0) c10 rfl (by decide)
          refine pv_sipush (M := mX12_valueBy) (v := 1000) dX12_valueBy_56 59 rfl (by decide) ?_
          refine pv_aload_n (M := mX12_valueBy) 0 dX12_valueBy_59 60 rfl rfl rfl ?_
          refine pv_iload_n (M := mX12_valueBy) 2 dX12_valueBy_60 61 rfl rfl rfl ?_
          refine pv_callv (M := mX12_valueBy) (as := [.int x1]) (st := [.int 1000]) (kc2 := 0) (ks2 := 0) dX12_valueBy_61 wd1393 YX12_leftMany ⟨wd1395, wd56⟩ (mk_get (tl123 hT)) rfl rfl (s_X12_leftMany g hT I x1 (by omega) (by omega)) rfl rfl (Nat.le_of_ble_eq_true rfl) (by decide) rfl rfl 64 rfl (fun rv h1 q11 => ?_)
          obtain ⟨v12, rfl, rfl, pv12, qv12, rv12⟩ := q11
          show PV _ _ _ _ _ _ _ 64 [.ref 123, .int x0, .int x1, .int x2] [.int v12, .int 1000] _
          refine pv_aload_n (M := mX12_valueBy) 0 dX12_valueBy_64 65 rfl rfl rfl ?_
          refine mv_get (M := mX12_valueBy) (v := .ref 126) dX12_valueBy_65 FX12 7 wd1180 (by decide) (tl123 hT) rfl rfl 68 rfl ?_
          refine pv_iload_n (M := mX12_valueBy) 1 dX12_valueBy_68 69 rfl rfl rfl ?_
          refine iv_iald (M := mX12_valueBy) (X := x0.toInt) dX12_valueBy_69 (tl126 hT) rfl (by omega) (by omega) I (fun _ => rfl) 70 rfl (fun v13 ev13 pv13 qv13 => ?_)
          have pv13 : 0 ≤ v13.toInt := pv13
          have qv13 : v13.toInt ≤ 16 := qv13
          refine iv_isub (M := mX12_valueBy) (X := v12.toInt) (Y := v13.toInt) dX12_valueBy_70 71 rfl rfl rfl (by omega) (by omega) (fun v14 ev14 => ?_)
          refine pv_isub (M := mX12_valueBy) (v := (1000 - v14 : Int32)) dX12_valueBy_71 72 rfl rfl ?_
          obtain ⟨v15, ev15⟩ : ∃ z : Int32, z = 1000 - v14 := ⟨_, rfl⟩
          rw [← ev15]
          refine pv_aload_n (M := mX12_valueBy) 0 dX12_valueBy_72 73 rfl rfl rfl ?_
          refine mv_get (M := mX12_valueBy) (v := .ref 166) dX12_valueBy_73 FX12 60 wd1233 (by decide) (tl123 hT) rfl rfl 76 rfl ?_
          refine pv_sipush (M := mX12_valueBy) (v := 256) dX12_valueBy_76 79 rfl (by decide) ?_
          refine pv_iload_n (M := mX12_valueBy) 1 dX12_valueBy_79 80 rfl rfl rfl ?_
          refine pv_iconst (M := mX12_valueBy) (v := 1) dX12_valueBy_80 81 rfl (by decide) ?_
          refine iv_iadd (M := mX12_valueBy) (X := x0.toInt) (Y := 1) dX12_valueBy_81 82 rfl rfl (by decide) (by omega) (by omega) (fun v16 ev16 => ?_)
          refine iv_imul (M := mX12_valueBy) (X := 256) (Y := v16.toInt) dX12_valueBy_82 83 rfl (by decide) rfl (by omega) (by omega) (fun v17 ev17 => ?_)
          refine pv_iload_n (M := mX12_valueBy) 3 dX12_valueBy_83 84 rfl rfl rfl ?_
          refine pv_iconst (M := mX12_valueBy) (v := 1) dX12_valueBy_84 85 rfl (by decide) ?_
          refine pv_iload_n (M := mX12_valueBy) 2 dX12_valueBy_85 86 rfl rfl rfl ?_
          refine pv_ishl (M := mX12_valueBy) (v := (1 <<< (x1 &&& 31) : Int32)) dX12_valueBy_86 87 rfl rfl ?_
          obtain ⟨v18, ev18⟩ : ∃ z : Int32, z = 1 <<< (x1 &&& 31) := ⟨_, rfl⟩
          rw [← ev18]
          have pv18 : 0 ≤ v18.toInt ∧ v18.toInt < 256 := by rw [ev18]; exact iv_sh1 (by omega) (by omega)
          refine pv_ior (M := mX12_valueBy) (v := (x2 ||| v18 : Int32)) dX12_valueBy_87 88 rfl rfl ?_
          obtain ⟨v19, ev19⟩ : ∃ z : Int32, z = x2 ||| v18 := ⟨_, rfl⟩
          rw [← ev19]
          have pv19 : 0 ≤ v19.toInt ∧ v19.toInt < 256 := by rw [ev19]; exact iv_or8 (by omega) (by omega) (by omega) (by omega)
          refine iv_iadd (M := mX12_valueBy) (X := v17.toInt) (Y := v19.toInt) dX12_valueBy_88 89 rfl rfl rfl (by omega) (by omega) (fun v20 ev20 => ?_)
          refine iv_iald (M := mX12_valueBy) (X := v20.toInt) dX12_valueBy_89 (tl166 hT) rfl (by omega) (by omega) I (fun _ => rfl) 90 rfl (fun v21 ev21 pv21 qv21 => ?_)
          have pv21 : -2147483648 ≤ v21.toInt := pv21
          have qv21 : v21.toInt ≤ 2147483647 := qv21
          refine pv_iadd (M := mX12_valueBy) (v := (v15 + v21 : Int32)) dX12_valueBy_90 91 rfl rfl ?_
          obtain ⟨v22, ev22⟩ : ∃ z : Int32, z = v15 + v21 := ⟨_, rfl⟩
          rw [← ev22]
          exact pv_iret (M := mX12_valueBy) dX12_valueBy_91 rfl rfl ⟨_, rfl, rfl, (iv_rng v22).1, (iv_rng v22).2, trivial⟩
        · have c10 := iv_eq (X := v9.toInt) (Y := 0) c10 rfl (by decide)
          refine pv_ldcw (M := mX12_valueBy) (v := (-1000000000)) dX12_valueBy_52 55 rfl wd1728 ?_
          exact pv_iret (M := mX12_valueBy) dX12_valueBy_55 rfl rfl ⟨_, rfl, rfl, by decide, by decide, trivial⟩
  · have c1 := iv_eq (X := x1.toInt) (Y := 8) c1 rfl (by decide)
    refine pv_aload_n (M := mX12_valueBy) 0 dX12_valueBy_6 7 rfl rfl rfl ?_
    refine mv_get (M := mX12_valueBy) (v := .ref 166) dX12_valueBy_7 FX12 60 wd1233 (by decide) (tl123 hT) rfl rfl 10 rfl ?_
    refine pv_sipush (M := mX12_valueBy) (v := 256) dX12_valueBy_10 13 rfl (by decide) ?_
    refine pv_iload_n (M := mX12_valueBy) 1 dX12_valueBy_13 14 rfl rfl rfl ?_
    refine pv_iconst (M := mX12_valueBy) (v := 1) dX12_valueBy_14 15 rfl (by decide) ?_
    refine iv_iadd (M := mX12_valueBy) (X := x0.toInt) (Y := 1) dX12_valueBy_15 16 rfl rfl (by decide) (by omega) (by omega) (fun v23 ev23 => ?_)
    refine iv_imul (M := mX12_valueBy) (X := 256) (Y := v23.toInt) dX12_valueBy_16 17 rfl (by decide) rfl (by omega) (by omega) (fun v24 ev24 => ?_)
    refine pv_iload_n (M := mX12_valueBy) 3 dX12_valueBy_17 18 rfl rfl rfl ?_
    refine iv_iadd (M := mX12_valueBy) (X := v24.toInt) (Y := x2.toInt) dX12_valueBy_18 19 rfl rfl rfl (by omega) (by omega) (fun v25 ev25 => ?_)
    refine iv_iald (M := mX12_valueBy) (X := v25.toInt) dX12_valueBy_19 (tl166 hT) rfl (by omega) (by omega) I (fun _ => rfl) 20 rfl (fun v26 ev26 pv26 qv26 => ?_)
    have pv26 : -2147483648 ≤ v26.toInt := pv26
    have qv26 : v26.toInt ≤ 2147483647 := qv26
    exact pv_iret (M := mX12_valueBy) dX12_valueBy_20 rfl rfl ⟨_, rfl, rfl, (iv_rng v26).1, (iv_rng v26).2, trivial⟩

set_option maxHeartbeats 1000000 in
set_option maxRecDepth 20000 in
theorem s_X12_longBy (g : pv_G) {T : List mv_T} {m : Nat → Nat → Int32} {n : Nat → Nat → Int64} {r : Nat → Value} (hT : TX T) (I : IV BB m) (x0 : Int32) (hl0 : 0 ≤ x0.toInt) (hh0 : x0.toInt ≤ 8) (x1 : Int32) (hl1 : 0 ≤ x1.toInt) (hh1 : x1.toInt ≤ 7) (x2 : Int32) (hl2 : 0 ≤ x2.toInt) (hh2 : x2.toInt ≤ 255) : PM g mX12_longBy yX12_longBy (sqP (mk T m n r) (-2147483648) 2147483647 (fun v => True)) 1 0 0 [.ref 123, .int x0, .int x1, .int x2] (mk T m n r) := by
  have Kp : kp m m := kp.rf
  refine PM.of 0 (lo := [.ref 123, .int x0, .int x1, .int x2]) rfl (by decide) rfl rfl (Nat.le_of_ble_eq_true rfl) ?_
  refine pv_aload_n (M := mX12_longBy) 0 dX12_longBy_0 1 rfl rfl rfl ?_
  refine mv_get (M := mX12_longBy) (v := .ref 167) dX12_longBy_1 FX12 62 wd1235 (by decide) (tl123 hT) rfl rfl 4 rfl ?_
  refine pv_bipush (M := mX12_longBy) (v := 8) dX12_longBy_4 6 rfl (by decide) ?_
  refine pv_iload_n (M := mX12_longBy) 1 dX12_longBy_6 7 rfl rfl rfl ?_
  refine iv_imul (M := mX12_longBy) (X := 8) (Y := x0.toInt) dX12_longBy_7 8 rfl (by decide) rfl (by omega) (by omega) (fun v1 ev1 => ?_)
  refine pv_iload_n (M := mX12_longBy) 2 dX12_longBy_8 9 rfl rfl rfl ?_
  refine iv_iadd (M := mX12_longBy) (X := v1.toInt) (Y := x1.toInt) dX12_longBy_9 10 rfl rfl rfl (by omega) (by omega) (fun v2 ev2 => ?_)
  refine iv_zald (M := mX12_longBy) (X := v2.toInt) dX12_longBy_10 (tl167 hT) rfl (by omega) (by omega) I (fun _ => rfl) 11 rfl (fun v3 ev3 pv3 qv3 => ?_)
  have pv3 : 0 ≤ v3.toInt := pv3
  have qv3 : v3.toInt ≤ 1 := qv3
  refine pv_if_eq (M := mX12_longBy) (tgt := 43) dX12_longBy_11 14 rfl (by decide) (fun c4 => ?_) (fun c4 => ?_)
  · have c4 := iv_eq (X := v3.toInt) (Y := 0) c4 rfl (by decide)
    refine pv_iconst (M := mX12_longBy) (v := 0) dX12_longBy_43 44 rfl (by decide) ?_
    exact pv_iret (M := mX12_longBy) dX12_longBy_44 rfl rfl ⟨_, rfl, rfl, by decide, by decide, trivial⟩
  · have c4 := iv_ne (X := v3.toInt) (Y := 0) c4 rfl (by decide)
    refine pv_iload_n (M := mX12_longBy) 3 dX12_longBy_14 15 rfl rfl rfl ?_
    refine pv_iload_n (M := mX12_longBy) 2 dX12_longBy_15 16 rfl rfl rfl ?_
    refine pv_ishr (M := mX12_longBy) (v := (x2 >>> (x1 &&& 31) : Int32)) dX12_longBy_16 17 rfl rfl ?_
    obtain ⟨v5, ev5⟩ : ∃ z : Int32, z = x2 >>> (x1 &&& 31) := ⟨_, rfl⟩
    rw [← ev5]
    refine pv_iconst (M := mX12_longBy) (v := 1) dX12_longBy_17 18 rfl (by decide) ?_
    refine iv_iandm (M := mX12_longBy) dX12_longBy_18 19 rfl 1 (by decide) (by decide) (fun v6 ev6 pv6 qv6 => ?_)
    have qv6 : v6.toInt < 2 := qv6
    refine pv_if_ne (M := mX12_longBy) (tgt := 43) dX12_longBy_19 22 rfl (by decide) (fun c7 => ?_) (fun c7 => ?_)
    · have c7 := iv_ne (X := v6.toInt) (Y := 0) c7 rfl (by decide)
      refine pv_iconst (M := mX12_longBy) (v := 0) dX12_longBy_43 44 rfl (by decide) ?_
      exact pv_iret (M := mX12_longBy) dX12_longBy_44 rfl rfl ⟨_, rfl, rfl, by decide, by decide, trivial⟩
    · have c7 := iv_eq (X := v6.toInt) (Y := 0) c7 rfl (by decide)
      refine pv_iconst (M := mX12_longBy) (v := 1) dX12_longBy_22 23 rfl (by decide) ?_
      refine pv_aload_n (M := mX12_longBy) 0 dX12_longBy_23 24 rfl rfl rfl ?_
      refine mv_get (M := mX12_longBy) (v := .ref 168) dX12_longBy_24 FX12 63 wd1236 (by decide) (tl123 hT) rfl rfl 27 rfl ?_
      refine pv_sipush (M := mX12_longBy) (v := 256) dX12_longBy_27 30 rfl (by decide) ?_
      refine pv_iload_n (M := mX12_longBy) 2 dX12_longBy_30 31 rfl rfl rfl ?_
      refine iv_imul (M := mX12_longBy) (X := 256) (Y := x1.toInt) dX12_longBy_31 32 rfl (by decide) rfl (by omega) (by omega) (fun v8 ev8 => ?_)
      refine pv_iload_n (M := mX12_longBy) 3 dX12_longBy_32 33 rfl rfl rfl ?_
      refine pv_iconst (M := mX12_longBy) (v := 1) dX12_longBy_33 34 rfl (by decide) ?_
      refine pv_iload_n (M := mX12_longBy) 2 dX12_longBy_34 35 rfl rfl rfl ?_
      refine pv_ishl (M := mX12_longBy) (v := (1 <<< (x1 &&& 31) : Int32)) dX12_longBy_35 36 rfl rfl ?_
      obtain ⟨v9, ev9⟩ : ∃ z : Int32, z = 1 <<< (x1 &&& 31) := ⟨_, rfl⟩
      rw [← ev9]
      have pv9 : 0 ≤ v9.toInt ∧ v9.toInt < 256 := by rw [ev9]; exact iv_sh1 (by omega) (by omega)
      refine pv_ior (M := mX12_longBy) (v := (x2 ||| v9 : Int32)) dX12_longBy_36 37 rfl rfl ?_
      obtain ⟨v10, ev10⟩ : ∃ z : Int32, z = x2 ||| v9 := ⟨_, rfl⟩
      rw [← ev10]
      have pv10 : 0 ≤ v10.toInt ∧ v10.toInt < 256 := by rw [ev10]; exact iv_or8 (by omega) (by omega) (by omega) (by omega)
      refine iv_iadd (M := mX12_longBy) (X := v8.toInt) (Y := v10.toInt) dX12_longBy_37 38 rfl rfl rfl (by omega) (by omega) (fun v11 ev11 => ?_)
      refine iv_iald (M := mX12_longBy) (X := v11.toInt) dX12_longBy_38 (tl168 hT) rfl (by omega) (by omega) I (fun _ => rfl) 39 rfl (fun v12 ev12 pv12 qv12 => ?_)
      have pv12 : -2147483648 ≤ v12.toInt := pv12
      have qv12 : v12.toInt ≤ 2147483647 := qv12
      refine pv_iadd (M := mX12_longBy) (v := (1 + v12 : Int32)) dX12_longBy_39 40 rfl rfl ?_
      obtain ⟨v13, ev13⟩ : ∃ z : Int32, z = 1 + v12 := ⟨_, rfl⟩
      rw [← ev13]
      refine pv_goto (M := mX12_longBy) (tgt := 44) dX12_longBy_40 (by decide) ?_
      exact pv_iret (M := mX12_longBy) dX12_longBy_44 rfl rfl ⟨_, rfl, rfl, (iv_rng v13).1, (iv_rng v13).2, trivial⟩

set_option maxHeartbeats 1000000 in
set_option maxRecDepth 20000 in
theorem s_X12_manyOf (g : pv_G) {T : List mv_T} {m : Nat → Nat → Int32} {n : Nat → Nat → Int64} {r : Nat → Value} (hT : TX T) (I : IV BB m) (x0 : Int32) : PM g mX12_manyOf yX12_manyOf (sqP (mk T m n r) (-2147483648) 2147483647 (fun v => True)) 1 0 0 [.ref 123, .int x0] (mk T m n r) := by
  have Kp : kp m m := kp.rf
  refine PM.of 0 (lo := [.ref 123, .int x0]) rfl (by decide) rfl rfl (Nat.le_of_ble_eq_true rfl) ?_
  refine pv_iload_n (M := mX12_manyOf) 1 dX12_manyOf_0 1 rfl rfl rfl ?_
  refine pv_sipush (M := mX12_manyOf) (v := 999) dX12_manyOf_1 4 rfl (by decide) ?_
  refine pv_iadd (M := mX12_manyOf) (v := (x0 + 999 : Int32)) dX12_manyOf_4 5 rfl rfl ?_
  obtain ⟨v1, ev1⟩ : ∃ z : Int32, z = x0 + 999 := ⟨_, rfl⟩
  rw [← ev1]
  refine pv_sipush (M := mX12_manyOf) (v := 1000) dX12_manyOf_5 8 rfl (by decide) ?_
  refine pv_idiv (M := mX12_manyOf) (v := (v1 / 1000 : Int32)) dX12_manyOf_8 9 rfl (by decide) rfl ?_
  obtain ⟨v2, ev2⟩ : ∃ z : Int32, z = v1 / 1000 := ⟨_, rfl⟩
  rw [← ev2]
  exact pv_iret (M := mX12_manyOf) dX12_manyOf_9 rfl rfl ⟨_, rfl, rfl, (iv_rng v2).1, (iv_rng v2).2, trivial⟩

set_option maxHeartbeats 1000000 in
set_option maxRecDepth 20000 in
theorem s_X12_lostOf (g : pv_G) {T : List mv_T} {m : Nat → Nat → Int32} {n : Nat → Nat → Int64} {r : Nat → Value} (hT : TX T) (I : IV BB m) (x0 : Int32) : PM g mX12_lostOf yX12_lostOf (sqP (mk T m n r) (-2147483648) 2147483647 (fun v => True)) 2 0 0 [.ref 123, .int x0] (mk T m n r) := by
  have Kp : kp m m := kp.rf
  refine PM.of 0 (lo := [.ref 123, .int x0]) rfl (by decide) rfl rfl (Nat.le_of_ble_eq_true rfl) ?_
  refine pv_sipush (M := mX12_lostOf) (v := 1000) dX12_lostOf_0 3 rfl (by decide) ?_
  refine pv_aload_n (M := mX12_lostOf) 0 dX12_lostOf_3 4 rfl rfl rfl ?_
  refine pv_iload_n (M := mX12_lostOf) 1 dX12_lostOf_4 5 rfl rfl rfl ?_
  refine pv_callv (M := mX12_lostOf) (as := [.int x0]) (st := [.int 1000]) (kc2 := 0) (ks2 := 0) dX12_lostOf_5 wd1729 YX12_manyOf ⟨wd1731, wd114⟩ (mk_get (tl123 hT)) rfl rfl (s_X12_manyOf g hT I x0) rfl rfl (Nat.le_of_ble_eq_true rfl) (by decide) rfl rfl 8 rfl (fun rv h1 q1 => ?_)
  obtain ⟨v2, rfl, rfl, pv2, qv2, rv2⟩ := q1
  show PV _ _ _ _ _ _ _ 8 [.ref 123, .int x0] [.int v2, .int 1000] _
  refine pv_imul (M := mX12_lostOf) (v := (1000 * v2 : Int32)) dX12_lostOf_8 9 rfl rfl ?_
  obtain ⟨v3, ev3⟩ : ∃ z : Int32, z = 1000 * v2 := ⟨_, rfl⟩
  rw [← ev3]
  refine pv_iload_n (M := mX12_lostOf) 1 dX12_lostOf_9 10 rfl rfl rfl ?_
  refine pv_isub (M := mX12_lostOf) (v := (v3 - x0 : Int32)) dX12_lostOf_10 11 rfl rfl ?_
  obtain ⟨v4, ev4⟩ : ∃ z : Int32, z = v3 - x0 := ⟨_, rfl⟩
  rw [← ev4]
  exact pv_iret (M := mX12_lostOf) dX12_lostOf_11 rfl rfl ⟨_, rfl, rfl, (iv_rng v4).1, (iv_rng v4).2, trivial⟩

set_option maxHeartbeats 1000000 in
set_option maxRecDepth 20000 in
theorem s_X12_laysEnd (g : pv_G) {T : List mv_T} {m : Nat → Nat → Int32} {n : Nat → Nat → Int64} {r : Nat → Value} (hT : TX T) (I : IV BB m) (x0 : Int32) (hl0 : 0 ≤ x0.toInt) (hh0 : x0.toInt ≤ 255) : PM g mX12_laysEnd yX12_laysEnd (sqV T BB r m) 3 0 0 [.ref 123, .int x0] (mk T m n r) := by
  have Kp : kp m m := kp.rf
  refine PM.of 4 (lo := [.ref 123, .int x0, pv_U, pv_U, pv_U, pv_U]) rfl (by decide) rfl rfl (Nat.le_of_ble_eq_true rfl) ?_
  refine pv_aload_n (M := mX12_laysEnd) 0 dX12_laysEnd_0 1 rfl rfl rfl ?_
  refine pv_callv (M := mX12_laysEnd) (as := []) (st := []) (kc2 := 0) (ks2 := 0) dX12_laysEnd_1 wd1720 YX12_laysComes ⟨wd1722, wd112⟩ (mk_get (tl123 hT)) rfl rfl (s_X12_laysComes g hT I) rfl rfl (Nat.le_of_ble_eq_true rfl) (by decide) rfl rfl 4 rfl (fun rv h1 q1 => ?_)
  obtain ⟨m2, n3, rfl, rfl, I4, K5⟩ := q1
  have K5 := Kp.trans K5
  show PV _ _ _ _ _ _ _ 4 [.ref 123, .int x0, pv_U, pv_U, pv_U, pv_U] [] _
  refine pv_iconst (M := mX12_laysEnd) (v := 0) dX12_laysEnd_4 5 rfl (by decide) ?_
  refine pv_istore_n (M := mX12_laysEnd) 2 (lo2 := [.ref 123, .int x0, .int 0, pv_U, pv_U, pv_U]) dX12_laysEnd_5 6 rfl rfl (by decide) rfl rfl ?_
  have lp12 : ∀ (fuel11 : Nat) (y6 : Int32) (m7 : Nat → Nat → Int32) (n8 : Nat → Nat → Int64), (0 ≤ y6.toInt) → (y6.toInt ≤ 256) → IV BB m7 → kp m m7 → ((256 - y6.toInt) : Int).toNat < fuel11 → PV none g mX12_laysEnd (sqV T BB r m) 3 0 0 6 [.ref 123, .int x0, .int y6, pv_U, pv_U, pv_U] [] (mk T m7 n8 r) := by
    intro fuel11
    induction fuel11 with
    | zero => intro y6 m7 n8 b14 b15 I9 K10 z16; omega
    | succ fuel11 ih13 =>
      intro y6 m7 n8 b14 b15 I9 K10 z16
      refine pv_iload_n (M := mX12_laysEnd) 2 dX12_laysEnd_6 7 rfl rfl rfl ?_
      refine pv_sipush (M := mX12_laysEnd) (v := 256) dX12_laysEnd_7 10 rfl (by decide) ?_
      refine pv_icmp_ge (M := mX12_laysEnd) (tgt := 30) dX12_laysEnd_10 13 rfl (by decide) (fun c17 => ?_) (fun c17 => ?_)
      · have c17 := iv_le (X := 256) (Y := y6.toInt) c17 (by decide) rfl
        refine pv_bipush (M := mX12_laysEnd) (v := 7) dX12_laysEnd_30 32 rfl (by decide) ?_
        refine pv_istore_n (M := mX12_laysEnd) 2 (lo2 := [.ref 123, .int x0, .int 7, pv_U, pv_U, pv_U]) dX12_laysEnd_32 33 rfl rfl (by decide) rfl rfl ?_
        have lp24 : ∀ (fuel23 : Nat) (y18 : Int32) (m19 : Nat → Nat → Int32) (n20 : Nat → Nat → Int64), (-1 ≤ y18.toInt) → (y18.toInt ≤ 7) → IV BB m19 → kp m m19 → ((y18.toInt - (-1)) : Int).toNat < fuel23 → PV none g mX12_laysEnd (sqV T BB r m) 3 0 0 33 [.ref 123, .int x0, .int y18, pv_U, pv_U, pv_U] [] (mk T m19 n20 r) := by
          intro fuel23
          induction fuel23 with
          | zero => intro y18 m19 n20 b26 b27 I21 K22 z28; omega
          | succ fuel23 ih25 =>
            intro y18 m19 n20 b26 b27 I21 K22 z28
            refine pv_iload_n (M := mX12_laysEnd) 2 dX12_laysEnd_33 34 rfl rfl rfl ?_
            refine pv_if_lt (M := mX12_laysEnd) (tgt := 137) dX12_laysEnd_34 37 rfl (by decide) (fun c29 => ?_) (fun c29 => ?_)
            · have c29 := iv_lt (X := y18.toInt) (Y := 0) c29 rfl (by decide)
              exact pv_vret (M := mX12_laysEnd) dX12_laysEnd_137 rfl ⟨_, _, rfl, rfl, I21, K22⟩
            · have c29 := iv_nlt (X := y18.toInt) (Y := 0) c29 rfl (by decide)
              refine pv_iconst (M := mX12_laysEnd) (v := 0) dX12_laysEnd_37 38 rfl (by decide) ?_
              refine pv_istore_n (M := mX12_laysEnd) 3 (lo2 := [.ref 123, .int x0, .int y18, .int 0, pv_U, pv_U]) dX12_laysEnd_38 39 rfl rfl (by decide) rfl rfl ?_
              have lp36 : ∀ (fuel35 : Nat) (y30 : Int32) (m31 : Nat → Nat → Int32) (n32 : Nat → Nat → Int64), (0 ≤ y30.toInt) → (y30.toInt ≤ 256) → IV BB m31 → kp m m31 → ((256 - y30.toInt) : Int).toNat < fuel35 → PV none g mX12_laysEnd (sqV T BB r m) 3 0 0 39 [.ref 123, .int x0, .int y18, .int y30, pv_U, pv_U] [] (mk T m31 n32 r) := by
                intro fuel35
                induction fuel35 with
                | zero => intro y30 m31 n32 b38 b39 I33 K34 z40; omega
                | succ fuel35 ih37 =>
                  intro y30 m31 n32 b38 b39 I33 K34 z40
                  refine pv_iload_n (M := mX12_laysEnd) 3 dX12_laysEnd_39 40 rfl rfl rfl ?_
                  refine pv_sipush (M := mX12_laysEnd) (v := 256) dX12_laysEnd_40 43 rfl (by decide) ?_
                  refine pv_icmp_ge (M := mX12_laysEnd) (tgt := 131) dX12_laysEnd_43 46 rfl (by decide) (fun c41 => ?_) (fun c41 => ?_)
                  · have c41 := iv_le (X := 256) (Y := y30.toInt) c41 (by decide) rfl
                    refine iv_inc (M := mX12_laysEnd) (C := (-1)) dX12_laysEnd_131 134 rfl rfl (by decide) rfl rfl (by decide) (by omega) (by omega) (fun v42 ev42 => ?_)
                    show PV _ _ _ _ _ _ _ 134 [.ref 123, .int x0, .int v42, .int y30, pv_U, pv_U] [] _
                    refine pv_goto (M := mX12_laysEnd) (tgt := 33) dX12_laysEnd_134 (by decide) ?_
                    refine pv_fg (lo2 := [.ref 123, .int x0, .int v42, pv_U, pv_U, pv_U]) ⟨Or.inr rfl, ⟨Or.inr rfl, ⟨Or.inr rfl, ⟨Or.inl rfl, ⟨Or.inl rfl, ⟨Or.inl rfl, trivial⟩⟩⟩⟩⟩⟩ ?_
                    exact ih25 v42 m31 n32 (by first | omega | decide) (by first | omega | decide) I33 K34 (by omega)
                  · have c41 := iv_nle (X := 256) (Y := y30.toInt) c41 (by decide) rfl
                    refine pv_aload_n (M := mX12_laysEnd) 0 dX12_laysEnd_46 47 rfl rfl rfl ?_
                    refine pv_iload_n (M := mX12_laysEnd) 2 dX12_laysEnd_47 48 rfl rfl rfl ?_
                    refine pv_bipush (M := mX12_laysEnd) (v := 8) dX12_laysEnd_48 50 rfl (by decide) ?_
                    refine pv_iload_n (M := mX12_laysEnd) 3 dX12_laysEnd_50 51 rfl rfl rfl ?_
                    refine pv_callv (M := mX12_laysEnd) (as := [.int y18, .int 8, .int y30]) (st := []) (kc2 := 0) (ks2 := 0) dX12_laysEnd_51 wd1724 YX12_valueBy ⟨wd1726, wd113⟩ (mk_get (tl123 hT)) rfl rfl (s_X12_valueBy g hT I33 y18 (by omega) (by omega) 8 (by decide) (by decide) y30 (by omega) (by omega)) rfl rfl (Nat.le_of_ble_eq_true rfl) (by decide) rfl rfl 54 rfl (fun rv h1 q43 => ?_)
                    obtain ⟨v44, rfl, rfl, pv44, qv44, rv44⟩ := q43
                    show PV _ _ _ _ _ _ _ 54 [.ref 123, .int x0, .int y18, .int y30, pv_U, pv_U] [.int v44] _
                    refine pv_istore (M := mX12_laysEnd) (lo2 := [.ref 123, .int x0, .int y18, .int y30, .int v44, pv_U]) dX12_laysEnd_54 56 rfl (by decide) rfl rfl ?_
                    refine pv_iconst (M := mX12_laysEnd) (v := 0) dX12_laysEnd_56 57 rfl (by decide) ?_
                    refine pv_istore (M := mX12_laysEnd) (lo2 := [.ref 123, .int x0, .int y18, .int y30, .int v44, .int 0]) dX12_laysEnd_57 59 rfl (by decide) rfl rfl ?_
                    have lp52 : ∀ (fuel51 : Nat) (y45 : Int32) (y46 : Int32), (0 ≤ y46.toInt) → (y46.toInt ≤ 8) → ((8 - y46.toInt) : Int).toNat < fuel51 → PV none g mX12_laysEnd (sqV T BB r m) 3 0 0 59 [.ref 123, .int x0, .int y18, .int y30, .int y45, .int y46] [] (mk T m31 n32 r) := by
                      intro fuel51
                      induction fuel51 with
                      | zero => intro y45 y46 b54 b55 z56; omega
                      | succ fuel51 ih53 =>
                        intro y45 y46 b54 b55 z56
                        refine pv_iload (M := mX12_laysEnd) dX12_laysEnd_59 61 rfl rfl ?_
                        refine pv_aload_n (M := mX12_laysEnd) 0 dX12_laysEnd_61 62 rfl rfl rfl ?_
                        refine iv_get (M := mX12_laysEnd) dX12_laysEnd_62 FX12 0 wd1173 (by decide) (tl123 hT) rfl I33 rfl 65 rfl (fun v57 ev57 pv57 qv57 => ?_)
                        have pv57 : 0 ≤ v57.toInt := pv57
                        have qv57 : v57.toInt ≤ 8 := qv57
                        refine pv_icmp_ge (M := mX12_laysEnd) (tgt := 111) dX12_laysEnd_65 68 rfl (by decide) (fun c58 => ?_) (fun c58 => ?_)
                        · have c58 := iv_le (X := v57.toInt) (Y := y46.toInt) c58 rfl rfl
                          refine pv_aload_n (M := mX12_laysEnd) 0 dX12_laysEnd_111 112 rfl rfl rfl ?_
                          refine mv_get (M := mX12_laysEnd) (v := .ref 166) dX12_laysEnd_112 FX12 60 wd1233 (by decide) (tl123 hT) rfl rfl 115 rfl ?_
                          refine pv_sipush (M := mX12_laysEnd) (v := 256) dX12_laysEnd_115 118 rfl (by decide) ?_
                          refine pv_iload_n (M := mX12_laysEnd) 2 dX12_laysEnd_118 119 rfl rfl rfl ?_
                          refine iv_imul (M := mX12_laysEnd) (X := 256) (Y := y18.toInt) dX12_laysEnd_119 120 rfl (by decide) rfl (by omega) (by omega) (fun v59 ev59 => ?_)
                          refine pv_iload_n (M := mX12_laysEnd) 3 dX12_laysEnd_120 121 rfl rfl rfl ?_
                          refine iv_iadd (M := mX12_laysEnd) (X := v59.toInt) (Y := y30.toInt) dX12_laysEnd_121 122 rfl rfl rfl (by omega) (by omega) (fun v60 ev60 => ?_)
                          refine pv_iload (M := mX12_laysEnd) dX12_laysEnd_122 124 rfl rfl ?_
                          refine iv_iast (M := mX12_laysEnd) (X := v60.toInt) dX12_laysEnd_124 (tl166 hT) rfl (by omega) (by omega) I33 (fun _ => rfl) (iv_rng y45).1 (iv_rng y45).2 125 rfl (fun m61 e64 I62 => ?_)
                          have K63 := K34.set e64 rfl
                          refine iv_inc (M := mX12_laysEnd) (C := 1) dX12_laysEnd_125 128 rfl rfl (by decide) rfl rfl (by decide) (by omega) (by omega) (fun v65 ev65 => ?_)
                          show PV _ _ _ _ _ _ _ 128 [.ref 123, .int x0, .int y18, .int v65, .int y45, .int y46] [] _
                          refine pv_goto (M := mX12_laysEnd) (tgt := 39) dX12_laysEnd_128 (by decide) ?_
                          refine pv_fg (lo2 := [.ref 123, .int x0, .int y18, .int v65, pv_U, pv_U]) ⟨Or.inr rfl, ⟨Or.inr rfl, ⟨Or.inr rfl, ⟨Or.inr rfl, ⟨Or.inl rfl, ⟨Or.inl rfl, trivial⟩⟩⟩⟩⟩⟩ ?_
                          exact ih37 v65 m61 n32 (by first | omega | decide) (by first | omega | decide) I62 K63 (by omega)
                        · have c58 := iv_nle (X := v57.toInt) (Y := y46.toInt) c58 rfl rfl
                          refine pv_iload_n (M := mX12_laysEnd) 1 dX12_laysEnd_68 69 rfl rfl rfl ?_
                          refine pv_iload_n (M := mX12_laysEnd) 2 dX12_laysEnd_69 70 rfl rfl rfl ?_
                          refine pv_ishr (M := mX12_laysEnd) (v := (x0 >>> (y18 &&& 31) : Int32)) dX12_laysEnd_70 71 rfl rfl ?_
                          obtain ⟨v66, ev66⟩ : ∃ z : Int32, z = x0 >>> (y18 &&& 31) := ⟨_, rfl⟩
                          rw [← ev66]
                          refine pv_iconst (M := mX12_laysEnd) (v := 1) dX12_laysEnd_71 72 rfl (by decide) ?_
                          refine iv_iandm (M := mX12_laysEnd) dX12_laysEnd_72 73 rfl 1 (by decide) (by decide) (fun v67 ev67 pv67 qv67 => ?_)
                          have qv67 : v67.toInt < 2 := qv67
                          refine pv_iconst (M := mX12_laysEnd) (v := 1) dX12_laysEnd_73 74 rfl (by decide) ?_
                          refine pv_icmp_ne (M := mX12_laysEnd) (tgt := 111) dX12_laysEnd_74 77 rfl (by decide) (fun c68 => ?_) (fun c68 => ?_)
                          · have c68 := iv_ne (X := v67.toInt) (Y := 1) c68 rfl (by decide)
                            refine pv_aload_n (M := mX12_laysEnd) 0 dX12_laysEnd_111 112 rfl rfl rfl ?_
                            refine mv_get (M := mX12_laysEnd) (v := .ref 166) dX12_laysEnd_112 FX12 60 wd1233 (by decide) (tl123 hT) rfl rfl 115 rfl ?_
                            refine pv_sipush (M := mX12_laysEnd) (v := 256) dX12_laysEnd_115 118 rfl (by decide) ?_
                            refine pv_iload_n (M := mX12_laysEnd) 2 dX12_laysEnd_118 119 rfl rfl rfl ?_
                            refine iv_imul (M := mX12_laysEnd) (X := 256) (Y := y18.toInt) dX12_laysEnd_119 120 rfl (by decide) rfl (by omega) (by omega) (fun v69 ev69 => ?_)
                            refine pv_iload_n (M := mX12_laysEnd) 3 dX12_laysEnd_120 121 rfl rfl rfl ?_
                            refine iv_iadd (M := mX12_laysEnd) (X := v69.toInt) (Y := y30.toInt) dX12_laysEnd_121 122 rfl rfl rfl (by omega) (by omega) (fun v70 ev70 => ?_)
                            refine pv_iload (M := mX12_laysEnd) dX12_laysEnd_122 124 rfl rfl ?_
                            refine iv_iast (M := mX12_laysEnd) (X := v70.toInt) dX12_laysEnd_124 (tl166 hT) rfl (by omega) (by omega) I33 (fun _ => rfl) (iv_rng y45).1 (iv_rng y45).2 125 rfl (fun m71 e74 I72 => ?_)
                            have K73 := K34.set e74 rfl
                            refine iv_inc (M := mX12_laysEnd) (C := 1) dX12_laysEnd_125 128 rfl rfl (by decide) rfl rfl (by decide) (by omega) (by omega) (fun v75 ev75 => ?_)
                            show PV _ _ _ _ _ _ _ 128 [.ref 123, .int x0, .int y18, .int v75, .int y45, .int y46] [] _
                            refine pv_goto (M := mX12_laysEnd) (tgt := 39) dX12_laysEnd_128 (by decide) ?_
                            refine pv_fg (lo2 := [.ref 123, .int x0, .int y18, .int v75, pv_U, pv_U]) ⟨Or.inr rfl, ⟨Or.inr rfl, ⟨Or.inr rfl, ⟨Or.inr rfl, ⟨Or.inl rfl, ⟨Or.inl rfl, trivial⟩⟩⟩⟩⟩⟩ ?_
                            exact ih37 v75 m71 n32 (by first | omega | decide) (by first | omega | decide) I72 K73 (by omega)
                          · have c68 := iv_eq (X := v67.toInt) (Y := 1) c68 rfl (by decide)
                            refine pv_aload_n (M := mX12_laysEnd) 0 dX12_laysEnd_77 78 rfl rfl rfl ?_
                            refine pv_iload_n (M := mX12_laysEnd) 2 dX12_laysEnd_78 79 rfl rfl rfl ?_
                            refine pv_iload (M := mX12_laysEnd) dX12_laysEnd_79 81 rfl rfl ?_
                            refine pv_iload_n (M := mX12_laysEnd) 3 dX12_laysEnd_81 82 rfl rfl rfl ?_
                            refine pv_callv (M := mX12_laysEnd) (as := [.int y18, .int y46, .int y30]) (st := []) (kc2 := 0) (ks2 := 0) dX12_laysEnd_82 wd1724 YX12_valueBy ⟨wd1726, wd113⟩ (mk_get (tl123 hT)) rfl rfl (s_X12_valueBy g hT I33 y18 (by omega) (by omega) y46 (by omega) (by omega) y30 (by omega) (by omega)) rfl rfl (Nat.le_of_ble_eq_true rfl) (by decide) rfl rfl 85 rfl (fun rv h1 q76 => ?_)
                            obtain ⟨v77, rfl, rfl, pv77, qv77, rv77⟩ := q76
                            show PV _ _ _ _ _ _ _ 85 [.ref 123, .int x0, .int y18, .int y30, .int y45, .int y46] [.int v77] _
                            refine pv_iload (M := mX12_laysEnd) dX12_laysEnd_85 87 rfl rfl ?_
                            refine pv_icmp_le (M := mX12_laysEnd) (tgt := 101) dX12_laysEnd_87 90 rfl (by decide) (fun c78 => ?_) (fun c78 => ?_)
                            · have c78 := iv_le (X := v77.toInt) (Y := y45.toInt) c78 rfl rfl
                              refine pv_iload (M := mX12_laysEnd) dX12_laysEnd_101 103 rfl rfl ?_
                              refine pv_istore (M := mX12_laysEnd) (lo2 := [.ref 123, .int x0, .int y18, .int y30, .int y45, .int y46]) dX12_laysEnd_103 105 rfl (by decide) rfl rfl ?_
                              refine iv_inc (M := mX12_laysEnd) (C := 1) dX12_laysEnd_105 108 rfl rfl (by decide) rfl rfl (by decide) (by omega) (by omega) (fun v79 ev79 => ?_)
                              show PV _ _ _ _ _ _ _ 108 [.ref 123, .int x0, .int y18, .int y30, .int y45, .int v79] [] _
                              refine pv_goto (M := mX12_laysEnd) (tgt := 59) dX12_laysEnd_108 (by decide) ?_
                              exact ih53 y45 v79 (by first | omega | decide) (by first | omega | decide) (by omega)
                            · have c78 := iv_nle (X := v77.toInt) (Y := y45.toInt) c78 rfl rfl
                              refine pv_aload_n (M := mX12_laysEnd) 0 dX12_laysEnd_90 91 rfl rfl rfl ?_
                              refine pv_iload_n (M := mX12_laysEnd) 2 dX12_laysEnd_91 92 rfl rfl rfl ?_
                              refine pv_iload (M := mX12_laysEnd) dX12_laysEnd_92 94 rfl rfl ?_
                              refine pv_iload_n (M := mX12_laysEnd) 3 dX12_laysEnd_94 95 rfl rfl rfl ?_
                              refine pv_callv (M := mX12_laysEnd) (as := [.int y18, .int y46, .int y30]) (st := []) (kc2 := 0) (ks2 := 0) dX12_laysEnd_95 wd1724 YX12_valueBy ⟨wd1726, wd113⟩ (mk_get (tl123 hT)) rfl rfl (s_X12_valueBy g hT I33 y18 (by omega) (by omega) y46 (by omega) (by omega) y30 (by omega) (by omega)) rfl rfl (Nat.le_of_ble_eq_true rfl) (by decide) rfl rfl 98 rfl (fun rv h1 q80 => ?_)
                              obtain ⟨v81, rfl, rfl, pv81, qv81, rv81⟩ := q80
                              show PV _ _ _ _ _ _ _ 98 [.ref 123, .int x0, .int y18, .int y30, .int y45, .int y46] [.int v81] _
                              refine pv_goto (M := mX12_laysEnd) (tgt := 103) dX12_laysEnd_98 (by decide) ?_
                              refine pv_istore (M := mX12_laysEnd) (lo2 := [.ref 123, .int x0, .int y18, .int y30, .int v81, .int y46]) dX12_laysEnd_103 105 rfl (by decide) rfl rfl ?_
                              refine iv_inc (M := mX12_laysEnd) (C := 1) dX12_laysEnd_105 108 rfl rfl (by decide) rfl rfl (by decide) (by omega) (by omega) (fun v82 ev82 => ?_)
                              show PV _ _ _ _ _ _ _ 108 [.ref 123, .int x0, .int y18, .int y30, .int v81, .int v82] [] _
                              refine pv_goto (M := mX12_laysEnd) (tgt := 59) dX12_laysEnd_108 (by decide) ?_
                              exact ih53 v81 v82 (by first | omega | decide) (by first | omega | decide) (by omega)
                    have z83 : (0 : Int32).toInt = 0 := by decide
                    exact lp52 (((8 - 0) : Int).toNat + 1) v44 0 (by first | omega | decide) (by first | omega | decide) (by omega)
              have z84 : (0 : Int32).toInt = 0 := by decide
              exact lp36 (((256 - 0) : Int).toNat + 1) 0 m19 n20 (by first | omega | decide) (by first | omega | decide) I21 K22 (by omega)
        have z85 : (7 : Int32).toInt = 7 := by decide
        exact lp24 (((7 - (-1)) : Int).toNat + 1) 7 m7 n8 (by first | omega | decide) (by first | omega | decide) I9 K10 (by omega)
      · have c17 := iv_nle (X := 256) (Y := y6.toInt) c17 (by decide) rfl
        refine pv_aload_n (M := mX12_laysEnd) 0 dX12_laysEnd_13 14 rfl rfl rfl ?_
        refine mv_get (M := mX12_laysEnd) (v := .ref 166) dX12_laysEnd_14 FX12 60 wd1233 (by decide) (tl123 hT) rfl rfl 17 rfl ?_
        refine pv_sipush (M := mX12_laysEnd) (v := 2048) dX12_laysEnd_17 20 rfl (by decide) ?_
        refine pv_iload_n (M := mX12_laysEnd) 2 dX12_laysEnd_20 21 rfl rfl rfl ?_
        refine iv_iadd (M := mX12_laysEnd) (X := 2048) (Y := y6.toInt) dX12_laysEnd_21 22 rfl (by decide) rfl (by omega) (by omega) (fun v86 ev86 => ?_)
        refine pv_iconst (M := mX12_laysEnd) (v := 0) dX12_laysEnd_22 23 rfl (by decide) ?_
        refine iv_iast (M := mX12_laysEnd) (X := v86.toInt) dX12_laysEnd_23 (tl166 hT) rfl (by omega) (by omega) I9 (fun _ => rfl) (by decide) (by decide) 24 rfl (fun m87 e90 I88 => ?_)
        have K89 := K10.set e90 rfl
        refine iv_inc (M := mX12_laysEnd) (C := 1) dX12_laysEnd_24 27 rfl rfl (by decide) rfl rfl (by decide) (by omega) (by omega) (fun v91 ev91 => ?_)
        show PV _ _ _ _ _ _ _ 27 [.ref 123, .int x0, .int v91, pv_U, pv_U, pv_U] [] _
        refine pv_goto (M := mX12_laysEnd) (tgt := 6) dX12_laysEnd_27 (by decide) ?_
        exact ih13 v91 m87 n8 (by first | omega | decide) (by first | omega | decide) I88 K89 (by omega)
  have z92 : (0 : Int32).toInt = 0 := by decide
  exact lp12 (((256 - 0) : Int).toNat + 1) 0 m2 n3 (by first | omega | decide) (by first | omega | decide) I4 K5 (by omega)

set_option maxHeartbeats 1000000 in
set_option maxRecDepth 20000 in
theorem s_X12_laysLong (g : pv_G) {T : List mv_T} {m : Nat → Nat → Int32} {n : Nat → Nat → Int64} {r : Nat → Value} (hT : TX T) (I : IV BB m) : PM g mX12_laysLong yX12_laysLong (sqV T BB r m) 2 0 0 [.ref 123] (mk T m n r) := by
  have Kp : kp m m := kp.rf
  refine PM.of 4 (lo := [.ref 123, pv_U, pv_U, pv_U, pv_U]) rfl (by decide) rfl rfl (Nat.le_of_ble_eq_true rfl) ?_
  refine pv_sipush (M := mX12_laysLong) (v := 255) dX12_laysLong_0 3 rfl (by decide) ?_
  refine pv_istore_n (M := mX12_laysLong) 1 (lo2 := [.ref 123, .int 255, pv_U, pv_U, pv_U]) dX12_laysLong_3 4 rfl rfl (by decide) rfl rfl ?_
  have lp7 : ∀ (fuel6 : Nat) (y1 : Int32) (m2 : Nat → Nat → Int32) (n3 : Nat → Nat → Int64), (-1 ≤ y1.toInt) → (y1.toInt ≤ 255) → IV BB m2 → kp m m2 → ((y1.toInt - (-1)) : Int).toNat < fuel6 → PV none g mX12_laysLong (sqV T BB r m) 2 0 0 4 [.ref 123, .int y1, pv_U, pv_U, pv_U] [] (mk T m2 n3 r) := by
    intro fuel6
    induction fuel6 with
    | zero => intro y1 m2 n3 b9 b10 I4 K5 z11; omega
    | succ fuel6 ih8 =>
      intro y1 m2 n3 b9 b10 I4 K5 z11
      refine pv_iload_n (M := mX12_laysLong) 1 dX12_laysLong_4 5 rfl rfl rfl ?_
      refine pv_if_lt (M := mX12_laysLong) (tgt := 84) dX12_laysLong_5 8 rfl (by decide) (fun c12 => ?_) (fun c12 => ?_)
      · have c12 := iv_lt (X := y1.toInt) (Y := 0) c12 rfl (by decide)
        exact pv_vret (M := mX12_laysLong) dX12_laysLong_84 rfl ⟨_, _, rfl, rfl, I4, K5⟩
      · have c12 := iv_nlt (X := y1.toInt) (Y := 0) c12 rfl (by decide)
        refine pv_iconst (M := mX12_laysLong) (v := 0) dX12_laysLong_8 9 rfl (by decide) ?_
        refine pv_istore_n (M := mX12_laysLong) 2 (lo2 := [.ref 123, .int y1, .int 0, pv_U, pv_U]) dX12_laysLong_9 10 rfl rfl (by decide) rfl rfl ?_
        have lp19 : ∀ (fuel18 : Nat) (y13 : Int32) (m14 : Nat → Nat → Int32) (n15 : Nat → Nat → Int64), (0 ≤ y13.toInt) → (y13.toInt ≤ 9) → IV BB m14 → kp m m14 → ((9 - y13.toInt) : Int).toNat < fuel18 → PV none g mX12_laysLong (sqV T BB r m) 2 0 0 10 [.ref 123, .int y1, .int y13, pv_U, pv_U] [] (mk T m14 n15 r) := by
          intro fuel18
          induction fuel18 with
          | zero => intro y13 m14 n15 b21 b22 I16 K17 z23; omega
          | succ fuel18 ih20 =>
            intro y13 m14 n15 b21 b22 I16 K17 z23
            refine pv_iload_n (M := mX12_laysLong) 2 dX12_laysLong_10 11 rfl rfl rfl ?_
            refine pv_bipush (M := mX12_laysLong) (v := 9) dX12_laysLong_11 13 rfl (by decide) ?_
            refine pv_icmp_ge (M := mX12_laysLong) (tgt := 78) dX12_laysLong_13 16 rfl (by decide) (fun c24 => ?_) (fun c24 => ?_)
            · have c24 := iv_le (X := 9) (Y := y13.toInt) c24 (by decide) rfl
              refine iv_inc (M := mX12_laysLong) (C := (-1)) dX12_laysLong_78 81 rfl rfl (by decide) rfl rfl (by decide) (by omega) (by omega) (fun v25 ev25 => ?_)
              show PV _ _ _ _ _ _ _ 81 [.ref 123, .int v25, .int y13, pv_U, pv_U] [] _
              refine pv_goto (M := mX12_laysLong) (tgt := 4) dX12_laysLong_81 (by decide) ?_
              refine pv_fg (lo2 := [.ref 123, .int v25, pv_U, pv_U, pv_U]) ⟨Or.inr rfl, ⟨Or.inr rfl, ⟨Or.inl rfl, ⟨Or.inl rfl, ⟨Or.inl rfl, trivial⟩⟩⟩⟩⟩ ?_
              exact ih8 v25 m14 n15 (by first | omega | decide) (by first | omega | decide) I16 K17 (by omega)
            · have c24 := iv_nle (X := 9) (Y := y13.toInt) c24 (by decide) rfl
              refine pv_iconst (M := mX12_laysLong) (v := 0) dX12_laysLong_16 17 rfl (by decide) ?_
              refine pv_istore_n (M := mX12_laysLong) 3 (lo2 := [.ref 123, .int y1, .int y13, .int 0, pv_U]) dX12_laysLong_17 18 rfl rfl (by decide) rfl rfl ?_
              refine pv_iconst (M := mX12_laysLong) (v := 0) dX12_laysLong_18 19 rfl (by decide) ?_
              refine pv_istore (M := mX12_laysLong) (lo2 := [.ref 123, .int y1, .int y13, .int 0, .int 0]) dX12_laysLong_19 21 rfl (by decide) rfl rfl ?_
              have lp33 : ∀ (fuel32 : Nat) (y26 : Int32) (y27 : Int32), (0 ≤ y27.toInt) → (y27.toInt ≤ 8) → ((8 - y27.toInt) : Int).toNat < fuel32 → PV none g mX12_laysLong (sqV T BB r m) 2 0 0 21 [.ref 123, .int y1, .int y13, .int y26, .int y27] [] (mk T m14 n15 r) := by
                intro fuel32
                induction fuel32 with
                | zero => intro y26 y27 b35 b36 z37; omega
                | succ fuel32 ih34 =>
                  intro y26 y27 b35 b36 z37
                  refine pv_iload (M := mX12_laysLong) dX12_laysLong_21 23 rfl rfl ?_
                  refine pv_bipush (M := mX12_laysLong) (v := 8) dX12_laysLong_23 25 rfl (by decide) ?_
                  refine pv_icmp_ge (M := mX12_laysLong) (tgt := 59) dX12_laysLong_25 28 rfl (by decide) (fun c38 => ?_) (fun c38 => ?_)
                  · have c38 := iv_le (X := 8) (Y := y27.toInt) c38 (by decide) rfl
                    refine pv_aload_n (M := mX12_laysLong) 0 dX12_laysLong_59 60 rfl rfl rfl ?_
                    refine mv_get (M := mX12_laysLong) (v := .ref 168) dX12_laysLong_60 FX12 63 wd1236 (by decide) (tl123 hT) rfl rfl 63 rfl ?_
                    refine pv_sipush (M := mX12_laysLong) (v := 256) dX12_laysLong_63 66 rfl (by decide) ?_
                    refine pv_iload_n (M := mX12_laysLong) 2 dX12_laysLong_66 67 rfl rfl rfl ?_
                    refine iv_imul (M := mX12_laysLong) (X := 256) (Y := y13.toInt) dX12_laysLong_67 68 rfl (by decide) rfl (by omega) (by omega) (fun v39 ev39 => ?_)
                    refine pv_iload_n (M := mX12_laysLong) 1 dX12_laysLong_68 69 rfl rfl rfl ?_
                    refine iv_iadd (M := mX12_laysLong) (X := v39.toInt) (Y := y1.toInt) dX12_laysLong_69 70 rfl rfl rfl (by omega) (by omega) (fun v40 ev40 => ?_)
                    refine pv_iload_n (M := mX12_laysLong) 3 dX12_laysLong_70 71 rfl rfl rfl ?_
                    refine iv_iast (M := mX12_laysLong) (X := v40.toInt) dX12_laysLong_71 (tl168 hT) rfl (by omega) (by omega) I16 (fun _ => rfl) (iv_rng y26).1 (iv_rng y26).2 72 rfl (fun m41 e44 I42 => ?_)
                    have K43 := K17.set e44 rfl
                    refine iv_inc (M := mX12_laysLong) (C := 1) dX12_laysLong_72 75 rfl rfl (by decide) rfl rfl (by decide) (by omega) (by omega) (fun v45 ev45 => ?_)
                    show PV _ _ _ _ _ _ _ 75 [.ref 123, .int y1, .int v45, .int y26, .int y27] [] _
                    refine pv_goto (M := mX12_laysLong) (tgt := 10) dX12_laysLong_75 (by decide) ?_
                    refine pv_fg (lo2 := [.ref 123, .int y1, .int v45, pv_U, pv_U]) ⟨Or.inr rfl, ⟨Or.inr rfl, ⟨Or.inr rfl, ⟨Or.inl rfl, ⟨Or.inl rfl, trivial⟩⟩⟩⟩⟩ ?_
                    exact ih20 v45 m41 n15 (by first | omega | decide) (by first | omega | decide) I42 K43 (by omega)
                  · have c38 := iv_nle (X := 8) (Y := y27.toInt) c38 (by decide) rfl
                    refine pv_aload_n (M := mX12_laysLong) 0 dX12_laysLong_28 29 rfl rfl rfl ?_
                    refine pv_iload_n (M := mX12_laysLong) 2 dX12_laysLong_29 30 rfl rfl rfl ?_
                    refine pv_iload (M := mX12_laysLong) dX12_laysLong_30 32 rfl rfl ?_
                    refine pv_iload_n (M := mX12_laysLong) 1 dX12_laysLong_32 33 rfl rfl rfl ?_
                    refine pv_callv (M := mX12_laysLong) (as := [.int y13, .int y27, .int y1]) (st := []) (kc2 := 0) (ks2 := 0) dX12_laysLong_33 wd1769 YX12_longBy ⟨wd1771, wd121⟩ (mk_get (tl123 hT)) rfl rfl (s_X12_longBy g hT I16 y13 (by omega) (by omega) y27 (by omega) (by omega) y1 (by omega) (by omega)) rfl rfl (Nat.le_of_ble_eq_true rfl) (by decide) rfl rfl 36 rfl (fun rv h1 q46 => ?_)
                    obtain ⟨v47, rfl, rfl, pv47, qv47, rv47⟩ := q46
                    show PV _ _ _ _ _ _ _ 36 [.ref 123, .int y1, .int y13, .int y26, .int y27] [.int v47] _
                    refine pv_iload_n (M := mX12_laysLong) 3 dX12_laysLong_36 37 rfl rfl rfl ?_
                    refine pv_icmp_le (M := mX12_laysLong) (tgt := 51) dX12_laysLong_37 40 rfl (by decide) (fun c48 => ?_) (fun c48 => ?_)
                    · have c48 := iv_le (X := v47.toInt) (Y := y26.toInt) c48 rfl rfl
                      refine pv_iload_n (M := mX12_laysLong) 3 dX12_laysLong_51 52 rfl rfl rfl ?_
                      refine pv_istore_n (M := mX12_laysLong) 3 (lo2 := [.ref 123, .int y1, .int y13, .int y26, .int y27]) dX12_laysLong_52 53 rfl rfl (by decide) rfl rfl ?_
                      refine iv_inc (M := mX12_laysLong) (C := 1) dX12_laysLong_53 56 rfl rfl (by decide) rfl rfl (by decide) (by omega) (by omega) (fun v49 ev49 => ?_)
                      show PV _ _ _ _ _ _ _ 56 [.ref 123, .int y1, .int y13, .int y26, .int v49] [] _
                      refine pv_goto (M := mX12_laysLong) (tgt := 21) dX12_laysLong_56 (by decide) ?_
                      exact ih34 y26 v49 (by first | omega | decide) (by first | omega | decide) (by omega)
                    · have c48 := iv_nle (X := v47.toInt) (Y := y26.toInt) c48 rfl rfl
                      refine pv_aload_n (M := mX12_laysLong) 0 dX12_laysLong_40 41 rfl rfl rfl ?_
                      refine pv_iload_n (M := mX12_laysLong) 2 dX12_laysLong_41 42 rfl rfl rfl ?_
                      refine pv_iload (M := mX12_laysLong) dX12_laysLong_42 44 rfl rfl ?_
                      refine pv_iload_n (M := mX12_laysLong) 1 dX12_laysLong_44 45 rfl rfl rfl ?_
                      refine pv_callv (M := mX12_laysLong) (as := [.int y13, .int y27, .int y1]) (st := []) (kc2 := 0) (ks2 := 0) dX12_laysLong_45 wd1769 YX12_longBy ⟨wd1771, wd121⟩ (mk_get (tl123 hT)) rfl rfl (s_X12_longBy g hT I16 y13 (by omega) (by omega) y27 (by omega) (by omega) y1 (by omega) (by omega)) rfl rfl (Nat.le_of_ble_eq_true rfl) (by decide) rfl rfl 48 rfl (fun rv h1 q50 => ?_)
                      obtain ⟨v51, rfl, rfl, pv51, qv51, rv51⟩ := q50
                      show PV _ _ _ _ _ _ _ 48 [.ref 123, .int y1, .int y13, .int y26, .int y27] [.int v51] _
                      refine pv_goto (M := mX12_laysLong) (tgt := 52) dX12_laysLong_48 (by decide) ?_
                      refine pv_istore_n (M := mX12_laysLong) 3 (lo2 := [.ref 123, .int y1, .int y13, .int v51, .int y27]) dX12_laysLong_52 53 rfl rfl (by decide) rfl rfl ?_
                      refine iv_inc (M := mX12_laysLong) (C := 1) dX12_laysLong_53 56 rfl rfl (by decide) rfl rfl (by decide) (by omega) (by omega) (fun v52 ev52 => ?_)
                      show PV _ _ _ _ _ _ _ 56 [.ref 123, .int y1, .int y13, .int v51, .int v52] [] _
                      refine pv_goto (M := mX12_laysLong) (tgt := 21) dX12_laysLong_56 (by decide) ?_
                      exact ih34 v51 v52 (by first | omega | decide) (by first | omega | decide) (by omega)
              have z53 : (0 : Int32).toInt = 0 := by decide
              have z54 : (0 : Int32).toInt = 0 := by decide
              exact lp33 (((8 - 0) : Int).toNat + 1) 0 0 (by first | omega | decide) (by first | omega | decide) (by omega)
        have z55 : (0 : Int32).toInt = 0 := by decide
        exact lp19 (((9 - 0) : Int).toNat + 1) 0 m2 n3 (by first | omega | decide) (by first | omega | decide) I4 K5 (by omega)
  have z56 : (255 : Int32).toInt = 255 := by decide
  exact lp7 (((255 - (-1)) : Int).toNat + 1) 255 m n (by first | omega | decide) (by first | omega | decide) I Kp (by omega)

set_option maxHeartbeats 1000000 in
set_option maxRecDepth 20000 in
theorem s_X12_laysFollows (g : pv_G) {T : List mv_T} {m : Nat → Nat → Int32} {n : Nat → Nat → Int64} {r : Nat → Value} (hT : TX T) (I : IV BB m) (x0 : Int32) (hl0 : 0 ≤ x0.toInt) (hh0 : x0.toInt ≤ 7) : PM g mX12_laysFollows yX12_laysFollows (sqV T BB r m) 2 0 0 [.ref 123, .int x0] (mk T m n r) := by
  have Kp : kp m m := kp.rf
  refine PM.of 2 (lo := [.ref 123, .int x0, pv_U, pv_U]) rfl (by decide) rfl rfl (Nat.le_of_ble_eq_true rfl) ?_
  refine pv_iconst (M := mX12_laysFollows) (v := 0) dX12_laysFollows_0 1 rfl (by decide) ?_
  refine pv_istore_n (M := mX12_laysFollows) 2 (lo2 := [.ref 123, .int x0, .int 0, pv_U]) dX12_laysFollows_1 2 rfl rfl (by decide) rfl rfl ?_
  have lp7 : ∀ (fuel6 : Nat) (y1 : Int32) (m2 : Nat → Nat → Int32) (n3 : Nat → Nat → Int64), (0 ≤ y1.toInt) → (y1.toInt ≤ 9) → IV BB m2 → kp m m2 → ((9 - y1.toInt) : Int).toNat < fuel6 → PV none g mX12_laysFollows (sqV T BB r m) 2 0 0 2 [.ref 123, .int x0, .int y1, pv_U] [] (mk T m2 n3 r) := by
    intro fuel6
    induction fuel6 with
    | zero => intro y1 m2 n3 b9 b10 I4 K5 z11; omega
    | succ fuel6 ih8 =>
      intro y1 m2 n3 b9 b10 I4 K5 z11
      refine pv_iload_n (M := mX12_laysFollows) 2 dX12_laysFollows_2 3 rfl rfl rfl ?_
      refine pv_bipush (M := mX12_laysFollows) (v := 9) dX12_laysFollows_3 5 rfl (by decide) ?_
      refine pv_icmp_ge (M := mX12_laysFollows) (tgt := 120) dX12_laysFollows_5 8 rfl (by decide) (fun c12 => ?_) (fun c12 => ?_)
      · have c12 := iv_le (X := 9) (Y := y1.toInt) c12 (by decide) rfl
        exact pv_vret (M := mX12_laysFollows) dX12_laysFollows_120 rfl ⟨_, _, rfl, rfl, I4, K5⟩
      · have c12 := iv_nle (X := 9) (Y := y1.toInt) c12 (by decide) rfl
        refine pv_iload_n (M := mX12_laysFollows) 2 dX12_laysFollows_8 9 rfl rfl rfl ?_
        refine pv_bipush (M := mX12_laysFollows) (v := 8) dX12_laysFollows_9 11 rfl (by decide) ?_
        refine pv_icmp_ne (M := mX12_laysFollows) (tgt := 23) dX12_laysFollows_11 14 rfl (by decide) (fun c13 => ?_) (fun c13 => ?_)
        · have c13 := iv_ne (X := y1.toInt) (Y := 8) c13 rfl (by decide)
          refine pv_aload_n (M := mX12_laysFollows) 0 dX12_laysFollows_23 24 rfl rfl rfl ?_
          refine pv_iload_n (M := mX12_laysFollows) 2 dX12_laysFollows_24 25 rfl rfl rfl ?_
          refine pv_callv (M := mX12_laysFollows) (as := [.int y1]) (st := []) (kc2 := 0) (ks2 := 0) dX12_laysFollows_25 wd1558 YX12_isDeed ⟨wd1560, wd87⟩ (mk_get (tl123 hT)) rfl rfl (s_X12_isDeed g hT I4 y1) rfl rfl (Nat.le_of_ble_eq_true rfl) (by decide) rfl rfl 28 rfl (fun rv h1 q14 => ?_)
          obtain ⟨v15, rfl, rfl, pv15, qv15, rv15⟩ := q14
          show PV _ _ _ _ _ _ _ 28 [.ref 123, .int x0, .int y1, pv_U] [.int v15] _
          refine pv_if_eq (M := mX12_laysFollows) (tgt := 36) dX12_laysFollows_28 31 rfl (by decide) (fun c16 => ?_) (fun c16 => ?_)
          · have c16 := iv_eq (X := v15.toInt) (Y := 0) c16 rfl (by decide)
            refine pv_iconst (M := mX12_laysFollows) (v := 0) dX12_laysFollows_36 37 rfl (by decide) ?_
            refine pv_istore_n (M := mX12_laysFollows) 3 (lo2 := [.ref 123, .int x0, .int y1, .int 0]) dX12_laysFollows_37 38 rfl rfl (by decide) rfl rfl ?_
            have lp23 : ∀ (fuel22 : Nat) (y17 : Int32) (m18 : Nat → Nat → Int32) (n19 : Nat → Nat → Int64), (0 ≤ y17.toInt) → (y17.toInt ≤ 8) → IV BB m18 → kp m m18 → ((8 - y17.toInt) : Int).toNat < fuel22 → PV none g mX12_laysFollows (sqV T BB r m) 2 0 0 38 [.ref 123, .int x0, .int y1, .int y17] [] (mk T m18 n19 r) := by
              intro fuel22
              induction fuel22 with
              | zero => intro y17 m18 n19 b25 b26 I20 K21 z27; omega
              | succ fuel22 ih24 =>
                intro y17 m18 n19 b25 b26 I20 K21 z27
                refine pv_iload_n (M := mX12_laysFollows) 3 dX12_laysFollows_38 39 rfl rfl rfl ?_
                refine pv_bipush (M := mX12_laysFollows) (v := 8) dX12_laysFollows_39 41 rfl (by decide) ?_
                refine pv_icmp_ge (M := mX12_laysFollows) (tgt := 114) dX12_laysFollows_41 44 rfl (by decide) (fun c28 => ?_) (fun c28 => ?_)
                · have c28 := iv_le (X := 8) (Y := y17.toInt) c28 (by decide) rfl
                  refine iv_inc (M := mX12_laysFollows) (C := 1) dX12_laysFollows_114 117 rfl rfl (by decide) rfl rfl (by decide) (by omega) (by omega) (fun v29 ev29 => ?_)
                  show PV _ _ _ _ _ _ _ 117 [.ref 123, .int x0, .int v29, .int y17] [] _
                  refine pv_goto (M := mX12_laysFollows) (tgt := 2) dX12_laysFollows_117 (by decide) ?_
                  refine pv_fg (lo2 := [.ref 123, .int x0, .int v29, pv_U]) ⟨Or.inr rfl, ⟨Or.inr rfl, ⟨Or.inr rfl, ⟨Or.inl rfl, trivial⟩⟩⟩⟩ ?_
                  exact ih8 v29 m18 n19 (by first | omega | decide) (by first | omega | decide) I20 K21 (by omega)
                · have c28 := iv_nle (X := 8) (Y := y17.toInt) c28 (by decide) rfl
                  refine pv_aload_n (M := mX12_laysFollows) 0 dX12_laysFollows_44 45 rfl rfl rfl ?_
                  refine pv_iload_n (M := mX12_laysFollows) 3 dX12_laysFollows_45 46 rfl rfl rfl ?_
                  refine pv_callv (M := mX12_laysFollows) (as := [.int y17]) (st := []) (kc2 := 0) (ks2 := 0) dX12_laysFollows_46 wd1558 YX12_isDeed ⟨wd1560, wd87⟩ (mk_get (tl123 hT)) rfl rfl (s_X12_isDeed g hT I20 y17) rfl rfl (Nat.le_of_ble_eq_true rfl) (by decide) rfl rfl 49 rfl (fun rv h1 q30 => ?_)
                  obtain ⟨v31, rfl, rfl, pv31, qv31, rv31⟩ := q30
                  show PV _ _ _ _ _ _ _ 49 [.ref 123, .int x0, .int y1, .int y17] [.int v31] _
                  refine pv_if_eq (M := mX12_laysFollows) (tgt := 57) dX12_laysFollows_49 52 rfl (by decide) (fun c32 => ?_) (fun c32 => ?_)
                  · have c32 := iv_eq (X := v31.toInt) (Y := 0) c32 rfl (by decide)
                    refine pv_aload_n (M := mX12_laysFollows) 0 dX12_laysFollows_57 58 rfl rfl rfl ?_
                    refine mv_get (M := mX12_laysFollows) (v := .ref 167) dX12_laysFollows_58 FX12 62 wd1235 (by decide) (tl123 hT) rfl rfl 61 rfl ?_
                    refine pv_bipush (M := mX12_laysFollows) (v := 8) dX12_laysFollows_61 63 rfl (by decide) ?_
                    refine pv_iload_n (M := mX12_laysFollows) 2 dX12_laysFollows_63 64 rfl rfl rfl ?_
                    refine iv_imul (M := mX12_laysFollows) (X := 8) (Y := y1.toInt) dX12_laysFollows_64 65 rfl (by decide) rfl (by omega) (by omega) (fun v33 ev33 => ?_)
                    refine pv_iload_n (M := mX12_laysFollows) 3 dX12_laysFollows_65 66 rfl rfl rfl ?_
                    refine iv_iadd (M := mX12_laysFollows) (X := v33.toInt) (Y := y17.toInt) dX12_laysFollows_66 67 rfl rfl rfl (by omega) (by omega) (fun v34 ev34 => ?_)
                    refine pv_iload_n (M := mX12_laysFollows) 3 dX12_laysFollows_67 68 rfl rfl rfl ?_
                    refine pv_iload_n (M := mX12_laysFollows) 2 dX12_laysFollows_68 69 rfl rfl rfl ?_
                    refine pv_icmp_eq (M := mX12_laysFollows) (tgt := 106) dX12_laysFollows_69 72 rfl (by decide) (fun c35 => ?_) (fun c35 => ?_)
                    · have c35 := iv_eq (X := y17.toInt) (Y := y1.toInt) c35 rfl rfl
                      refine pv_iconst (M := mX12_laysFollows) (v := 0) dX12_laysFollows_106 107 rfl (by decide) ?_
                      refine iv_zast (M := mX12_laysFollows) (X := v34.toInt) dX12_laysFollows_107 (tl167 hT) rfl (by omega) (by omega) I20 (fun _ => rfl) (y := 0) (by decide) (by decide) (by decide) 108 rfl (fun m36 e39 I37 => ?_)
                      have K38 := K21.set e39 rfl
                      refine iv_inc (M := mX12_laysFollows) (C := 1) dX12_laysFollows_108 111 rfl rfl (by decide) rfl rfl (by decide) (by omega) (by omega) (fun v40 ev40 => ?_)
                      show PV _ _ _ _ _ _ _ 111 [.ref 123, .int x0, .int y1, .int v40] [] _
                      refine pv_goto (M := mX12_laysFollows) (tgt := 38) dX12_laysFollows_111 (by decide) ?_
                      exact ih24 v40 m36 n19 (by first | omega | decide) (by first | omega | decide) I37 K38 (by omega)
                    · have c35 := iv_ne (X := y17.toInt) (Y := y1.toInt) c35 rfl rfl
                      refine pv_aload_n (M := mX12_laysFollows) 0 dX12_laysFollows_72 73 rfl rfl rfl ?_
                      refine pv_iload_n (M := mX12_laysFollows) 3 dX12_laysFollows_73 74 rfl rfl rfl ?_
                      refine pv_callv (M := mX12_laysFollows) (as := [.int y17]) (st := [.int v34, .ref 167]) (kc2 := 0) (ks2 := 0) dX12_laysFollows_74 wd1558 YX12_isDeed ⟨wd1560, wd87⟩ (mk_get (tl123 hT)) rfl rfl (s_X12_isDeed g hT I20 y17) rfl rfl (Nat.le_of_ble_eq_true rfl) (by decide) rfl rfl 77 rfl (fun rv h1 q41 => ?_)
                      obtain ⟨v42, rfl, rfl, pv42, qv42, rv42⟩ := q41
                      show PV _ _ _ _ _ _ _ 77 [.ref 123, .int x0, .int y1, .int y17] [.int v42, .int v34, .ref 167] _
                      refine pv_if_eq (M := mX12_laysFollows) (tgt := 106) dX12_laysFollows_77 80 rfl (by decide) (fun c43 => ?_) (fun c43 => ?_)
                      · have c43 := iv_eq (X := v42.toInt) (Y := 0) c43 rfl (by decide)
                        refine pv_iconst (M := mX12_laysFollows) (v := 0) dX12_laysFollows_106 107 rfl (by decide) ?_
                        refine iv_zast (M := mX12_laysFollows) (X := v34.toInt) dX12_laysFollows_107 (tl167 hT) rfl (by omega) (by omega) I20 (fun _ => rfl) (y := 0) (by decide) (by decide) (by decide) 108 rfl (fun m44 e47 I45 => ?_)
                        have K46 := K21.set e47 rfl
                        refine iv_inc (M := mX12_laysFollows) (C := 1) dX12_laysFollows_108 111 rfl rfl (by decide) rfl rfl (by decide) (by omega) (by omega) (fun v48 ev48 => ?_)
                        show PV _ _ _ _ _ _ _ 111 [.ref 123, .int x0, .int y1, .int v48] [] _
                        refine pv_goto (M := mX12_laysFollows) (tgt := 38) dX12_laysFollows_111 (by decide) ?_
                        exact ih24 v48 m44 n19 (by first | omega | decide) (by first | omega | decide) I45 K46 (by omega)
                      · have pc43 := rv42.resolve_left c43
                        have c43 := iv_ne (X := v42.toInt) (Y := 0) c43 rfl (by decide)
                        refine pv_iload_n (M := mX12_laysFollows) 2 dX12_laysFollows_80 81 rfl rfl rfl ?_
                        refine pv_bipush (M := mX12_laysFollows) (v := 8) dX12_laysFollows_81 83 rfl (by decide) ?_
                        refine pv_icmp_eq (M := mX12_laysFollows) (tgt := 94) dX12_laysFollows_83 86 rfl (by decide) (fun c49 => ?_) (fun c49 => ?_)
                        · have c49 := iv_eq (X := y1.toInt) (Y := 8) c49 rfl (by decide)
                          refine pv_aload_n (M := mX12_laysFollows) 0 dX12_laysFollows_94 95 rfl rfl rfl ?_
                          refine pv_iconst (M := mX12_laysFollows) (v := (-1)) dX12_laysFollows_95 96 rfl (by decide) ?_
                          refine pv_callv (M := mX12_laysFollows) (as := [.int (-1)]) (st := [.int v34, .ref 167]) (kc2 := 0) (ks2 := 0) dX12_laysFollows_96 wd1696 YX12_comesWithout ⟨wd1698, wd108⟩ (mk_get (tl123 hT)) rfl rfl (s_X12_comesWithout g hT I20 (-1)) rfl rfl (Nat.le_of_ble_eq_true rfl) (by decide) rfl rfl 99 rfl (fun rv h1 q50 => ?_)
                          obtain ⟨v51, rfl, rfl, pv51, qv51, rv51⟩ := q50
                          show PV _ _ _ _ _ _ _ 99 [.ref 123, .int x0, .int y1, .int y17] [.int v51, .int v34, .ref 167] _
                          refine pv_if_eq (M := mX12_laysFollows) (tgt := 106) dX12_laysFollows_99 102 rfl (by decide) (fun c52 => ?_) (fun c52 => ?_)
                          · have c52 := iv_eq (X := v51.toInt) (Y := 0) c52 rfl (by decide)
                            refine pv_iconst (M := mX12_laysFollows) (v := 0) dX12_laysFollows_106 107 rfl (by decide) ?_
                            refine iv_zast (M := mX12_laysFollows) (X := v34.toInt) dX12_laysFollows_107 (tl167 hT) rfl (by omega) (by omega) I20 (fun _ => rfl) (y := 0) (by decide) (by decide) (by decide) 108 rfl (fun m53 e56 I54 => ?_)
                            have K55 := K21.set e56 rfl
                            refine iv_inc (M := mX12_laysFollows) (C := 1) dX12_laysFollows_108 111 rfl rfl (by decide) rfl rfl (by decide) (by omega) (by omega) (fun v57 ev57 => ?_)
                            show PV _ _ _ _ _ _ _ 111 [.ref 123, .int x0, .int y1, .int v57] [] _
                            refine pv_goto (M := mX12_laysFollows) (tgt := 38) dX12_laysFollows_111 (by decide) ?_
                            exact ih24 v57 m53 n19 (by first | omega | decide) (by first | omega | decide) I54 K55 (by omega)
                          · have c52 := iv_ne (X := v51.toInt) (Y := 0) c52 rfl (by decide)
                            refine pv_iconst (M := mX12_laysFollows) (v := 1) dX12_laysFollows_102 103 rfl (by decide) ?_
                            refine pv_goto (M := mX12_laysFollows) (tgt := 107) dX12_laysFollows_103 (by decide) ?_
                            refine iv_zast (M := mX12_laysFollows) (X := v34.toInt) dX12_laysFollows_107 (tl167 hT) rfl (by omega) (by omega) I20 (fun _ => rfl) (y := 1) (by decide) (by decide) (by decide) 108 rfl (fun m58 e61 I59 => ?_)
                            have K60 := K21.set e61 rfl
                            refine iv_inc (M := mX12_laysFollows) (C := 1) dX12_laysFollows_108 111 rfl rfl (by decide) rfl rfl (by decide) (by omega) (by omega) (fun v62 ev62 => ?_)
                            show PV _ _ _ _ _ _ _ 111 [.ref 123, .int x0, .int y1, .int v62] [] _
                            refine pv_goto (M := mX12_laysFollows) (tgt := 38) dX12_laysFollows_111 (by decide) ?_
                            exact ih24 v62 m58 n19 (by first | omega | decide) (by first | omega | decide) I59 K60 (by omega)
                        · have c49 := iv_ne (X := y1.toInt) (Y := 8) c49 rfl (by decide)
                          refine pv_aload_n (M := mX12_laysFollows) 0 dX12_laysFollows_86 87 rfl rfl rfl ?_
                          refine pv_iload_n (M := mX12_laysFollows) 2 dX12_laysFollows_87 88 rfl rfl rfl ?_
                          refine pv_callv (M := mX12_laysFollows) (as := [.int y1]) (st := [.int v34, .ref 167]) (kc2 := 0) (ks2 := 0) dX12_laysFollows_88 wd1558 YX12_isDeed ⟨wd1560, wd87⟩ (mk_get (tl123 hT)) rfl rfl (s_X12_isDeed g hT I20 y1) rfl rfl (Nat.le_of_ble_eq_true rfl) (by decide) rfl rfl 91 rfl (fun rv h1 q63 => ?_)
                          obtain ⟨v64, rfl, rfl, pv64, qv64, rv64⟩ := q63
                          show PV _ _ _ _ _ _ _ 91 [.ref 123, .int x0, .int y1, .int y17] [.int v64, .int v34, .ref 167] _
                          refine pv_if_eq (M := mX12_laysFollows) (tgt := 106) dX12_laysFollows_91 94 rfl (by decide) (fun c65 => ?_) (fun c65 => ?_)
                          · have c65 := iv_eq (X := v64.toInt) (Y := 0) c65 rfl (by decide)
                            refine pv_iconst (M := mX12_laysFollows) (v := 0) dX12_laysFollows_106 107 rfl (by decide) ?_
                            refine iv_zast (M := mX12_laysFollows) (X := v34.toInt) dX12_laysFollows_107 (tl167 hT) rfl (by omega) (by omega) I20 (fun _ => rfl) (y := 0) (by decide) (by decide) (by decide) 108 rfl (fun m66 e69 I67 => ?_)
                            have K68 := K21.set e69 rfl
                            refine iv_inc (M := mX12_laysFollows) (C := 1) dX12_laysFollows_108 111 rfl rfl (by decide) rfl rfl (by decide) (by omega) (by omega) (fun v70 ev70 => ?_)
                            show PV _ _ _ _ _ _ _ 111 [.ref 123, .int x0, .int y1, .int v70] [] _
                            refine pv_goto (M := mX12_laysFollows) (tgt := 38) dX12_laysFollows_111 (by decide) ?_
                            exact ih24 v70 m66 n19 (by first | omega | decide) (by first | omega | decide) I67 K68 (by omega)
                          · have pc65 := rv64.resolve_left c65
                            have c65 := iv_ne (X := v64.toInt) (Y := 0) c65 rfl (by decide)
                            refine pv_aload_n (M := mX12_laysFollows) 0 dX12_laysFollows_94 95 rfl rfl rfl ?_
                            refine pv_iconst (M := mX12_laysFollows) (v := (-1)) dX12_laysFollows_95 96 rfl (by decide) ?_
                            refine pv_callv (M := mX12_laysFollows) (as := [.int (-1)]) (st := [.int v34, .ref 167]) (kc2 := 0) (ks2 := 0) dX12_laysFollows_96 wd1696 YX12_comesWithout ⟨wd1698, wd108⟩ (mk_get (tl123 hT)) rfl rfl (s_X12_comesWithout g hT I20 (-1)) rfl rfl (Nat.le_of_ble_eq_true rfl) (by decide) rfl rfl 99 rfl (fun rv h1 q71 => ?_)
                            obtain ⟨v72, rfl, rfl, pv72, qv72, rv72⟩ := q71
                            show PV _ _ _ _ _ _ _ 99 [.ref 123, .int x0, .int y1, .int y17] [.int v72, .int v34, .ref 167] _
                            refine pv_if_eq (M := mX12_laysFollows) (tgt := 106) dX12_laysFollows_99 102 rfl (by decide) (fun c73 => ?_) (fun c73 => ?_)
                            · have c73 := iv_eq (X := v72.toInt) (Y := 0) c73 rfl (by decide)
                              refine pv_iconst (M := mX12_laysFollows) (v := 0) dX12_laysFollows_106 107 rfl (by decide) ?_
                              refine iv_zast (M := mX12_laysFollows) (X := v34.toInt) dX12_laysFollows_107 (tl167 hT) rfl (by omega) (by omega) I20 (fun _ => rfl) (y := 0) (by decide) (by decide) (by decide) 108 rfl (fun m74 e77 I75 => ?_)
                              have K76 := K21.set e77 rfl
                              refine iv_inc (M := mX12_laysFollows) (C := 1) dX12_laysFollows_108 111 rfl rfl (by decide) rfl rfl (by decide) (by omega) (by omega) (fun v78 ev78 => ?_)
                              show PV _ _ _ _ _ _ _ 111 [.ref 123, .int x0, .int y1, .int v78] [] _
                              refine pv_goto (M := mX12_laysFollows) (tgt := 38) dX12_laysFollows_111 (by decide) ?_
                              exact ih24 v78 m74 n19 (by first | omega | decide) (by first | omega | decide) I75 K76 (by omega)
                            · have c73 := iv_ne (X := v72.toInt) (Y := 0) c73 rfl (by decide)
                              refine pv_iconst (M := mX12_laysFollows) (v := 1) dX12_laysFollows_102 103 rfl (by decide) ?_
                              refine pv_goto (M := mX12_laysFollows) (tgt := 107) dX12_laysFollows_103 (by decide) ?_
                              refine iv_zast (M := mX12_laysFollows) (X := v34.toInt) dX12_laysFollows_107 (tl167 hT) rfl (by omega) (by omega) I20 (fun _ => rfl) (y := 1) (by decide) (by decide) (by decide) 108 rfl (fun m79 e82 I80 => ?_)
                              have K81 := K21.set e82 rfl
                              refine iv_inc (M := mX12_laysFollows) (C := 1) dX12_laysFollows_108 111 rfl rfl (by decide) rfl rfl (by decide) (by omega) (by omega) (fun v83 ev83 => ?_)
                              show PV _ _ _ _ _ _ _ 111 [.ref 123, .int x0, .int y1, .int v83] [] _
                              refine pv_goto (M := mX12_laysFollows) (tgt := 38) dX12_laysFollows_111 (by decide) ?_
                              exact ih24 v83 m79 n19 (by first | omega | decide) (by first | omega | decide) I80 K81 (by omega)
                  · have pc32 := rv31.resolve_left c32
                    have c32 := iv_ne (X := v31.toInt) (Y := 0) c32 rfl (by decide)
                    refine pv_aload_n (M := mX12_laysFollows) 0 dX12_laysFollows_52 53 rfl rfl rfl ?_
                    refine pv_iload_n (M := mX12_laysFollows) 3 dX12_laysFollows_53 54 rfl rfl rfl ?_
                    refine pv_callv (M := mX12_laysFollows) (as := [.int y17]) (st := []) (kc2 := 0) (ks2 := 0) dX12_laysFollows_54 wd1567 YX12_laysDeed ⟨wd1569, wd89⟩ (mk_get (tl123 hT)) rfl rfl (s_X12_laysDeed g hT I20 y17 (by omega) (by omega)) rfl rfl (Nat.le_of_ble_eq_true rfl) (by decide) rfl rfl 57 rfl (fun rv h1 q84 => ?_)
                    obtain ⟨m85, n86, rfl, rfl, I87, K88⟩ := q84
                    have K88 := K21.trans K88
                    show PV _ _ _ _ _ _ _ 57 [.ref 123, .int x0, .int y1, .int y17] [] _
                    refine pv_aload_n (M := mX12_laysFollows) 0 dX12_laysFollows_57 58 rfl rfl rfl ?_
                    refine mv_get (M := mX12_laysFollows) (v := .ref 167) dX12_laysFollows_58 FX12 62 wd1235 (by decide) (tl123 hT) rfl rfl 61 rfl ?_
                    refine pv_bipush (M := mX12_laysFollows) (v := 8) dX12_laysFollows_61 63 rfl (by decide) ?_
                    refine pv_iload_n (M := mX12_laysFollows) 2 dX12_laysFollows_63 64 rfl rfl rfl ?_
                    refine iv_imul (M := mX12_laysFollows) (X := 8) (Y := y1.toInt) dX12_laysFollows_64 65 rfl (by decide) rfl (by omega) (by omega) (fun v89 ev89 => ?_)
                    refine pv_iload_n (M := mX12_laysFollows) 3 dX12_laysFollows_65 66 rfl rfl rfl ?_
                    refine iv_iadd (M := mX12_laysFollows) (X := v89.toInt) (Y := y17.toInt) dX12_laysFollows_66 67 rfl rfl rfl (by omega) (by omega) (fun v90 ev90 => ?_)
                    refine pv_iload_n (M := mX12_laysFollows) 3 dX12_laysFollows_67 68 rfl rfl rfl ?_
                    refine pv_iload_n (M := mX12_laysFollows) 2 dX12_laysFollows_68 69 rfl rfl rfl ?_
                    refine pv_icmp_eq (M := mX12_laysFollows) (tgt := 106) dX12_laysFollows_69 72 rfl (by decide) (fun c91 => ?_) (fun c91 => ?_)
                    · have c91 := iv_eq (X := y17.toInt) (Y := y1.toInt) c91 rfl rfl
                      refine pv_iconst (M := mX12_laysFollows) (v := 0) dX12_laysFollows_106 107 rfl (by decide) ?_
                      refine iv_zast (M := mX12_laysFollows) (X := v90.toInt) dX12_laysFollows_107 (tl167 hT) rfl (by omega) (by omega) I87 (fun _ => rfl) (y := 0) (by decide) (by decide) (by decide) 108 rfl (fun m92 e95 I93 => ?_)
                      have K94 := K88.set e95 rfl
                      refine iv_inc (M := mX12_laysFollows) (C := 1) dX12_laysFollows_108 111 rfl rfl (by decide) rfl rfl (by decide) (by omega) (by omega) (fun v96 ev96 => ?_)
                      show PV _ _ _ _ _ _ _ 111 [.ref 123, .int x0, .int y1, .int v96] [] _
                      refine pv_goto (M := mX12_laysFollows) (tgt := 38) dX12_laysFollows_111 (by decide) ?_
                      exact ih24 v96 m92 n86 (by first | omega | decide) (by first | omega | decide) I93 K94 (by omega)
                    · have c91 := iv_ne (X := y17.toInt) (Y := y1.toInt) c91 rfl rfl
                      refine pv_aload_n (M := mX12_laysFollows) 0 dX12_laysFollows_72 73 rfl rfl rfl ?_
                      refine pv_iload_n (M := mX12_laysFollows) 3 dX12_laysFollows_73 74 rfl rfl rfl ?_
                      refine pv_callv (M := mX12_laysFollows) (as := [.int y17]) (st := [.int v90, .ref 167]) (kc2 := 0) (ks2 := 0) dX12_laysFollows_74 wd1558 YX12_isDeed ⟨wd1560, wd87⟩ (mk_get (tl123 hT)) rfl rfl (s_X12_isDeed g hT I87 y17) rfl rfl (Nat.le_of_ble_eq_true rfl) (by decide) rfl rfl 77 rfl (fun rv h1 q97 => ?_)
                      obtain ⟨v98, rfl, rfl, pv98, qv98, rv98⟩ := q97
                      show PV _ _ _ _ _ _ _ 77 [.ref 123, .int x0, .int y1, .int y17] [.int v98, .int v90, .ref 167] _
                      refine pv_if_eq (M := mX12_laysFollows) (tgt := 106) dX12_laysFollows_77 80 rfl (by decide) (fun c99 => ?_) (fun c99 => ?_)
                      · have c99 := iv_eq (X := v98.toInt) (Y := 0) c99 rfl (by decide)
                        refine pv_iconst (M := mX12_laysFollows) (v := 0) dX12_laysFollows_106 107 rfl (by decide) ?_
                        refine iv_zast (M := mX12_laysFollows) (X := v90.toInt) dX12_laysFollows_107 (tl167 hT) rfl (by omega) (by omega) I87 (fun _ => rfl) (y := 0) (by decide) (by decide) (by decide) 108 rfl (fun m100 e103 I101 => ?_)
                        have K102 := K88.set e103 rfl
                        refine iv_inc (M := mX12_laysFollows) (C := 1) dX12_laysFollows_108 111 rfl rfl (by decide) rfl rfl (by decide) (by omega) (by omega) (fun v104 ev104 => ?_)
                        show PV _ _ _ _ _ _ _ 111 [.ref 123, .int x0, .int y1, .int v104] [] _
                        refine pv_goto (M := mX12_laysFollows) (tgt := 38) dX12_laysFollows_111 (by decide) ?_
                        exact ih24 v104 m100 n86 (by first | omega | decide) (by first | omega | decide) I101 K102 (by omega)
                      · have pc99 := rv98.resolve_left c99
                        have c99 := iv_ne (X := v98.toInt) (Y := 0) c99 rfl (by decide)
                        refine pv_iload_n (M := mX12_laysFollows) 2 dX12_laysFollows_80 81 rfl rfl rfl ?_
                        refine pv_bipush (M := mX12_laysFollows) (v := 8) dX12_laysFollows_81 83 rfl (by decide) ?_
                        refine pv_icmp_eq (M := mX12_laysFollows) (tgt := 94) dX12_laysFollows_83 86 rfl (by decide) (fun c105 => ?_) (fun c105 => ?_)
                        · have c105 := iv_eq (X := y1.toInt) (Y := 8) c105 rfl (by decide)
                          refine pv_aload_n (M := mX12_laysFollows) 0 dX12_laysFollows_94 95 rfl rfl rfl ?_
                          refine pv_iconst (M := mX12_laysFollows) (v := (-1)) dX12_laysFollows_95 96 rfl (by decide) ?_
                          refine pv_callv (M := mX12_laysFollows) (as := [.int (-1)]) (st := [.int v90, .ref 167]) (kc2 := 0) (ks2 := 0) dX12_laysFollows_96 wd1696 YX12_comesWithout ⟨wd1698, wd108⟩ (mk_get (tl123 hT)) rfl rfl (s_X12_comesWithout g hT I87 (-1)) rfl rfl (Nat.le_of_ble_eq_true rfl) (by decide) rfl rfl 99 rfl (fun rv h1 q106 => ?_)
                          obtain ⟨v107, rfl, rfl, pv107, qv107, rv107⟩ := q106
                          show PV _ _ _ _ _ _ _ 99 [.ref 123, .int x0, .int y1, .int y17] [.int v107, .int v90, .ref 167] _
                          refine pv_if_eq (M := mX12_laysFollows) (tgt := 106) dX12_laysFollows_99 102 rfl (by decide) (fun c108 => ?_) (fun c108 => ?_)
                          · have c108 := iv_eq (X := v107.toInt) (Y := 0) c108 rfl (by decide)
                            refine pv_iconst (M := mX12_laysFollows) (v := 0) dX12_laysFollows_106 107 rfl (by decide) ?_
                            refine iv_zast (M := mX12_laysFollows) (X := v90.toInt) dX12_laysFollows_107 (tl167 hT) rfl (by omega) (by omega) I87 (fun _ => rfl) (y := 0) (by decide) (by decide) (by decide) 108 rfl (fun m109 e112 I110 => ?_)
                            have K111 := K88.set e112 rfl
                            refine iv_inc (M := mX12_laysFollows) (C := 1) dX12_laysFollows_108 111 rfl rfl (by decide) rfl rfl (by decide) (by omega) (by omega) (fun v113 ev113 => ?_)
                            show PV _ _ _ _ _ _ _ 111 [.ref 123, .int x0, .int y1, .int v113] [] _
                            refine pv_goto (M := mX12_laysFollows) (tgt := 38) dX12_laysFollows_111 (by decide) ?_
                            exact ih24 v113 m109 n86 (by first | omega | decide) (by first | omega | decide) I110 K111 (by omega)
                          · have c108 := iv_ne (X := v107.toInt) (Y := 0) c108 rfl (by decide)
                            refine pv_iconst (M := mX12_laysFollows) (v := 1) dX12_laysFollows_102 103 rfl (by decide) ?_
                            refine pv_goto (M := mX12_laysFollows) (tgt := 107) dX12_laysFollows_103 (by decide) ?_
                            refine iv_zast (M := mX12_laysFollows) (X := v90.toInt) dX12_laysFollows_107 (tl167 hT) rfl (by omega) (by omega) I87 (fun _ => rfl) (y := 1) (by decide) (by decide) (by decide) 108 rfl (fun m114 e117 I115 => ?_)
                            have K116 := K88.set e117 rfl
                            refine iv_inc (M := mX12_laysFollows) (C := 1) dX12_laysFollows_108 111 rfl rfl (by decide) rfl rfl (by decide) (by omega) (by omega) (fun v118 ev118 => ?_)
                            show PV _ _ _ _ _ _ _ 111 [.ref 123, .int x0, .int y1, .int v118] [] _
                            refine pv_goto (M := mX12_laysFollows) (tgt := 38) dX12_laysFollows_111 (by decide) ?_
                            exact ih24 v118 m114 n86 (by first | omega | decide) (by first | omega | decide) I115 K116 (by omega)
                        · have c105 := iv_ne (X := y1.toInt) (Y := 8) c105 rfl (by decide)
                          refine pv_aload_n (M := mX12_laysFollows) 0 dX12_laysFollows_86 87 rfl rfl rfl ?_
                          refine pv_iload_n (M := mX12_laysFollows) 2 dX12_laysFollows_87 88 rfl rfl rfl ?_
                          refine pv_callv (M := mX12_laysFollows) (as := [.int y1]) (st := [.int v90, .ref 167]) (kc2 := 0) (ks2 := 0) dX12_laysFollows_88 wd1558 YX12_isDeed ⟨wd1560, wd87⟩ (mk_get (tl123 hT)) rfl rfl (s_X12_isDeed g hT I87 y1) rfl rfl (Nat.le_of_ble_eq_true rfl) (by decide) rfl rfl 91 rfl (fun rv h1 q119 => ?_)
                          obtain ⟨v120, rfl, rfl, pv120, qv120, rv120⟩ := q119
                          show PV _ _ _ _ _ _ _ 91 [.ref 123, .int x0, .int y1, .int y17] [.int v120, .int v90, .ref 167] _
                          refine pv_if_eq (M := mX12_laysFollows) (tgt := 106) dX12_laysFollows_91 94 rfl (by decide) (fun c121 => ?_) (fun c121 => ?_)
                          · have c121 := iv_eq (X := v120.toInt) (Y := 0) c121 rfl (by decide)
                            refine pv_iconst (M := mX12_laysFollows) (v := 0) dX12_laysFollows_106 107 rfl (by decide) ?_
                            refine iv_zast (M := mX12_laysFollows) (X := v90.toInt) dX12_laysFollows_107 (tl167 hT) rfl (by omega) (by omega) I87 (fun _ => rfl) (y := 0) (by decide) (by decide) (by decide) 108 rfl (fun m122 e125 I123 => ?_)
                            have K124 := K88.set e125 rfl
                            refine iv_inc (M := mX12_laysFollows) (C := 1) dX12_laysFollows_108 111 rfl rfl (by decide) rfl rfl (by decide) (by omega) (by omega) (fun v126 ev126 => ?_)
                            show PV _ _ _ _ _ _ _ 111 [.ref 123, .int x0, .int y1, .int v126] [] _
                            refine pv_goto (M := mX12_laysFollows) (tgt := 38) dX12_laysFollows_111 (by decide) ?_
                            exact ih24 v126 m122 n86 (by first | omega | decide) (by first | omega | decide) I123 K124 (by omega)
                          · have pc121 := rv120.resolve_left c121
                            have c121 := iv_ne (X := v120.toInt) (Y := 0) c121 rfl (by decide)
                            refine pv_aload_n (M := mX12_laysFollows) 0 dX12_laysFollows_94 95 rfl rfl rfl ?_
                            refine pv_iconst (M := mX12_laysFollows) (v := (-1)) dX12_laysFollows_95 96 rfl (by decide) ?_
                            refine pv_callv (M := mX12_laysFollows) (as := [.int (-1)]) (st := [.int v90, .ref 167]) (kc2 := 0) (ks2 := 0) dX12_laysFollows_96 wd1696 YX12_comesWithout ⟨wd1698, wd108⟩ (mk_get (tl123 hT)) rfl rfl (s_X12_comesWithout g hT I87 (-1)) rfl rfl (Nat.le_of_ble_eq_true rfl) (by decide) rfl rfl 99 rfl (fun rv h1 q127 => ?_)
                            obtain ⟨v128, rfl, rfl, pv128, qv128, rv128⟩ := q127
                            show PV _ _ _ _ _ _ _ 99 [.ref 123, .int x0, .int y1, .int y17] [.int v128, .int v90, .ref 167] _
                            refine pv_if_eq (M := mX12_laysFollows) (tgt := 106) dX12_laysFollows_99 102 rfl (by decide) (fun c129 => ?_) (fun c129 => ?_)
                            · have c129 := iv_eq (X := v128.toInt) (Y := 0) c129 rfl (by decide)
                              refine pv_iconst (M := mX12_laysFollows) (v := 0) dX12_laysFollows_106 107 rfl (by decide) ?_
                              refine iv_zast (M := mX12_laysFollows) (X := v90.toInt) dX12_laysFollows_107 (tl167 hT) rfl (by omega) (by omega) I87 (fun _ => rfl) (y := 0) (by decide) (by decide) (by decide) 108 rfl (fun m130 e133 I131 => ?_)
                              have K132 := K88.set e133 rfl
                              refine iv_inc (M := mX12_laysFollows) (C := 1) dX12_laysFollows_108 111 rfl rfl (by decide) rfl rfl (by decide) (by omega) (by omega) (fun v134 ev134 => ?_)
                              show PV _ _ _ _ _ _ _ 111 [.ref 123, .int x0, .int y1, .int v134] [] _
                              refine pv_goto (M := mX12_laysFollows) (tgt := 38) dX12_laysFollows_111 (by decide) ?_
                              exact ih24 v134 m130 n86 (by first | omega | decide) (by first | omega | decide) I131 K132 (by omega)
                            · have c129 := iv_ne (X := v128.toInt) (Y := 0) c129 rfl (by decide)
                              refine pv_iconst (M := mX12_laysFollows) (v := 1) dX12_laysFollows_102 103 rfl (by decide) ?_
                              refine pv_goto (M := mX12_laysFollows) (tgt := 107) dX12_laysFollows_103 (by decide) ?_
                              refine iv_zast (M := mX12_laysFollows) (X := v90.toInt) dX12_laysFollows_107 (tl167 hT) rfl (by omega) (by omega) I87 (fun _ => rfl) (y := 1) (by decide) (by decide) (by decide) 108 rfl (fun m135 e138 I136 => ?_)
                              have K137 := K88.set e138 rfl
                              refine iv_inc (M := mX12_laysFollows) (C := 1) dX12_laysFollows_108 111 rfl rfl (by decide) rfl rfl (by decide) (by omega) (by omega) (fun v139 ev139 => ?_)
                              show PV _ _ _ _ _ _ _ 111 [.ref 123, .int x0, .int y1, .int v139] [] _
                              refine pv_goto (M := mX12_laysFollows) (tgt := 38) dX12_laysFollows_111 (by decide) ?_
                              exact ih24 v139 m135 n86 (by first | omega | decide) (by first | omega | decide) I136 K137 (by omega)
            have z140 : (0 : Int32).toInt = 0 := by decide
            exact lp23 (((8 - 0) : Int).toNat + 1) 0 m2 n3 (by first | omega | decide) (by first | omega | decide) I4 K5 (by omega)
          · have pc16 := rv15.resolve_left c16
            have c16 := iv_ne (X := v15.toInt) (Y := 0) c16 rfl (by decide)
            refine pv_aload_n (M := mX12_laysFollows) 0 dX12_laysFollows_31 32 rfl rfl rfl ?_
            refine pv_iload_n (M := mX12_laysFollows) 2 dX12_laysFollows_32 33 rfl rfl rfl ?_
            refine pv_callv (M := mX12_laysFollows) (as := [.int y1]) (st := []) (kc2 := 0) (ks2 := 0) dX12_laysFollows_33 wd1753 YX12_laysParent ⟨wd1755, wd118⟩ (mk_get (tl123 hT)) rfl rfl (s_X12_laysParent g hT I4 y1 (by omega) (by omega)) rfl rfl (Nat.le_of_ble_eq_true rfl) (by decide) rfl rfl 36 rfl (fun rv h1 q141 => ?_)
            obtain ⟨m142, n143, rfl, rfl, I144, K145⟩ := q141
            have K145 := K5.trans K145
            show PV _ _ _ _ _ _ _ 36 [.ref 123, .int x0, .int y1, pv_U] [] _
            refine pv_iconst (M := mX12_laysFollows) (v := 0) dX12_laysFollows_36 37 rfl (by decide) ?_
            refine pv_istore_n (M := mX12_laysFollows) 3 (lo2 := [.ref 123, .int x0, .int y1, .int 0]) dX12_laysFollows_37 38 rfl rfl (by decide) rfl rfl ?_
            have lp152 : ∀ (fuel151 : Nat) (y146 : Int32) (m147 : Nat → Nat → Int32) (n148 : Nat → Nat → Int64), (0 ≤ y146.toInt) → (y146.toInt ≤ 8) → IV BB m147 → kp m m147 → ((8 - y146.toInt) : Int).toNat < fuel151 → PV none g mX12_laysFollows (sqV T BB r m) 2 0 0 38 [.ref 123, .int x0, .int y1, .int y146] [] (mk T m147 n148 r) := by
              intro fuel151
              induction fuel151 with
              | zero => intro y146 m147 n148 b154 b155 I149 K150 z156; omega
              | succ fuel151 ih153 =>
                intro y146 m147 n148 b154 b155 I149 K150 z156
                refine pv_iload_n (M := mX12_laysFollows) 3 dX12_laysFollows_38 39 rfl rfl rfl ?_
                refine pv_bipush (M := mX12_laysFollows) (v := 8) dX12_laysFollows_39 41 rfl (by decide) ?_
                refine pv_icmp_ge (M := mX12_laysFollows) (tgt := 114) dX12_laysFollows_41 44 rfl (by decide) (fun c157 => ?_) (fun c157 => ?_)
                · have c157 := iv_le (X := 8) (Y := y146.toInt) c157 (by decide) rfl
                  refine iv_inc (M := mX12_laysFollows) (C := 1) dX12_laysFollows_114 117 rfl rfl (by decide) rfl rfl (by decide) (by omega) (by omega) (fun v158 ev158 => ?_)
                  show PV _ _ _ _ _ _ _ 117 [.ref 123, .int x0, .int v158, .int y146] [] _
                  refine pv_goto (M := mX12_laysFollows) (tgt := 2) dX12_laysFollows_117 (by decide) ?_
                  refine pv_fg (lo2 := [.ref 123, .int x0, .int v158, pv_U]) ⟨Or.inr rfl, ⟨Or.inr rfl, ⟨Or.inr rfl, ⟨Or.inl rfl, trivial⟩⟩⟩⟩ ?_
                  exact ih8 v158 m147 n148 (by first | omega | decide) (by first | omega | decide) I149 K150 (by omega)
                · have c157 := iv_nle (X := 8) (Y := y146.toInt) c157 (by decide) rfl
                  refine pv_aload_n (M := mX12_laysFollows) 0 dX12_laysFollows_44 45 rfl rfl rfl ?_
                  refine pv_iload_n (M := mX12_laysFollows) 3 dX12_laysFollows_45 46 rfl rfl rfl ?_
                  refine pv_callv (M := mX12_laysFollows) (as := [.int y146]) (st := []) (kc2 := 0) (ks2 := 0) dX12_laysFollows_46 wd1558 YX12_isDeed ⟨wd1560, wd87⟩ (mk_get (tl123 hT)) rfl rfl (s_X12_isDeed g hT I149 y146) rfl rfl (Nat.le_of_ble_eq_true rfl) (by decide) rfl rfl 49 rfl (fun rv h1 q159 => ?_)
                  obtain ⟨v160, rfl, rfl, pv160, qv160, rv160⟩ := q159
                  show PV _ _ _ _ _ _ _ 49 [.ref 123, .int x0, .int y1, .int y146] [.int v160] _
                  refine pv_if_eq (M := mX12_laysFollows) (tgt := 57) dX12_laysFollows_49 52 rfl (by decide) (fun c161 => ?_) (fun c161 => ?_)
                  · have c161 := iv_eq (X := v160.toInt) (Y := 0) c161 rfl (by decide)
                    refine pv_aload_n (M := mX12_laysFollows) 0 dX12_laysFollows_57 58 rfl rfl rfl ?_
                    refine mv_get (M := mX12_laysFollows) (v := .ref 167) dX12_laysFollows_58 FX12 62 wd1235 (by decide) (tl123 hT) rfl rfl 61 rfl ?_
                    refine pv_bipush (M := mX12_laysFollows) (v := 8) dX12_laysFollows_61 63 rfl (by decide) ?_
                    refine pv_iload_n (M := mX12_laysFollows) 2 dX12_laysFollows_63 64 rfl rfl rfl ?_
                    refine iv_imul (M := mX12_laysFollows) (X := 8) (Y := y1.toInt) dX12_laysFollows_64 65 rfl (by decide) rfl (by omega) (by omega) (fun v162 ev162 => ?_)
                    refine pv_iload_n (M := mX12_laysFollows) 3 dX12_laysFollows_65 66 rfl rfl rfl ?_
                    refine iv_iadd (M := mX12_laysFollows) (X := v162.toInt) (Y := y146.toInt) dX12_laysFollows_66 67 rfl rfl rfl (by omega) (by omega) (fun v163 ev163 => ?_)
                    refine pv_iload_n (M := mX12_laysFollows) 3 dX12_laysFollows_67 68 rfl rfl rfl ?_
                    refine pv_iload_n (M := mX12_laysFollows) 2 dX12_laysFollows_68 69 rfl rfl rfl ?_
                    refine pv_icmp_eq (M := mX12_laysFollows) (tgt := 106) dX12_laysFollows_69 72 rfl (by decide) (fun c164 => ?_) (fun c164 => ?_)
                    · have c164 := iv_eq (X := y146.toInt) (Y := y1.toInt) c164 rfl rfl
                      refine pv_iconst (M := mX12_laysFollows) (v := 0) dX12_laysFollows_106 107 rfl (by decide) ?_
                      refine iv_zast (M := mX12_laysFollows) (X := v163.toInt) dX12_laysFollows_107 (tl167 hT) rfl (by omega) (by omega) I149 (fun _ => rfl) (y := 0) (by decide) (by decide) (by decide) 108 rfl (fun m165 e168 I166 => ?_)
                      have K167 := K150.set e168 rfl
                      refine iv_inc (M := mX12_laysFollows) (C := 1) dX12_laysFollows_108 111 rfl rfl (by decide) rfl rfl (by decide) (by omega) (by omega) (fun v169 ev169 => ?_)
                      show PV _ _ _ _ _ _ _ 111 [.ref 123, .int x0, .int y1, .int v169] [] _
                      refine pv_goto (M := mX12_laysFollows) (tgt := 38) dX12_laysFollows_111 (by decide) ?_
                      exact ih153 v169 m165 n148 (by first | omega | decide) (by first | omega | decide) I166 K167 (by omega)
                    · have c164 := iv_ne (X := y146.toInt) (Y := y1.toInt) c164 rfl rfl
                      refine pv_aload_n (M := mX12_laysFollows) 0 dX12_laysFollows_72 73 rfl rfl rfl ?_
                      refine pv_iload_n (M := mX12_laysFollows) 3 dX12_laysFollows_73 74 rfl rfl rfl ?_
                      refine pv_callv (M := mX12_laysFollows) (as := [.int y146]) (st := [.int v163, .ref 167]) (kc2 := 0) (ks2 := 0) dX12_laysFollows_74 wd1558 YX12_isDeed ⟨wd1560, wd87⟩ (mk_get (tl123 hT)) rfl rfl (s_X12_isDeed g hT I149 y146) rfl rfl (Nat.le_of_ble_eq_true rfl) (by decide) rfl rfl 77 rfl (fun rv h1 q170 => ?_)
                      obtain ⟨v171, rfl, rfl, pv171, qv171, rv171⟩ := q170
                      show PV _ _ _ _ _ _ _ 77 [.ref 123, .int x0, .int y1, .int y146] [.int v171, .int v163, .ref 167] _
                      refine pv_if_eq (M := mX12_laysFollows) (tgt := 106) dX12_laysFollows_77 80 rfl (by decide) (fun c172 => ?_) (fun c172 => ?_)
                      · have c172 := iv_eq (X := v171.toInt) (Y := 0) c172 rfl (by decide)
                        refine pv_iconst (M := mX12_laysFollows) (v := 0) dX12_laysFollows_106 107 rfl (by decide) ?_
                        refine iv_zast (M := mX12_laysFollows) (X := v163.toInt) dX12_laysFollows_107 (tl167 hT) rfl (by omega) (by omega) I149 (fun _ => rfl) (y := 0) (by decide) (by decide) (by decide) 108 rfl (fun m173 e176 I174 => ?_)
                        have K175 := K150.set e176 rfl
                        refine iv_inc (M := mX12_laysFollows) (C := 1) dX12_laysFollows_108 111 rfl rfl (by decide) rfl rfl (by decide) (by omega) (by omega) (fun v177 ev177 => ?_)
                        show PV _ _ _ _ _ _ _ 111 [.ref 123, .int x0, .int y1, .int v177] [] _
                        refine pv_goto (M := mX12_laysFollows) (tgt := 38) dX12_laysFollows_111 (by decide) ?_
                        exact ih153 v177 m173 n148 (by first | omega | decide) (by first | omega | decide) I174 K175 (by omega)
                      · have pc172 := rv171.resolve_left c172
                        have c172 := iv_ne (X := v171.toInt) (Y := 0) c172 rfl (by decide)
                        refine pv_iload_n (M := mX12_laysFollows) 2 dX12_laysFollows_80 81 rfl rfl rfl ?_
                        refine pv_bipush (M := mX12_laysFollows) (v := 8) dX12_laysFollows_81 83 rfl (by decide) ?_
                        refine pv_icmp_eq (M := mX12_laysFollows) (tgt := 94) dX12_laysFollows_83 86 rfl (by decide) (fun c178 => ?_) (fun c178 => ?_)
                        · have c178 := iv_eq (X := y1.toInt) (Y := 8) c178 rfl (by decide)
                          refine pv_aload_n (M := mX12_laysFollows) 0 dX12_laysFollows_94 95 rfl rfl rfl ?_
                          refine pv_iconst (M := mX12_laysFollows) (v := (-1)) dX12_laysFollows_95 96 rfl (by decide) ?_
                          refine pv_callv (M := mX12_laysFollows) (as := [.int (-1)]) (st := [.int v163, .ref 167]) (kc2 := 0) (ks2 := 0) dX12_laysFollows_96 wd1696 YX12_comesWithout ⟨wd1698, wd108⟩ (mk_get (tl123 hT)) rfl rfl (s_X12_comesWithout g hT I149 (-1)) rfl rfl (Nat.le_of_ble_eq_true rfl) (by decide) rfl rfl 99 rfl (fun rv h1 q179 => ?_)
                          obtain ⟨v180, rfl, rfl, pv180, qv180, rv180⟩ := q179
                          show PV _ _ _ _ _ _ _ 99 [.ref 123, .int x0, .int y1, .int y146] [.int v180, .int v163, .ref 167] _
                          refine pv_if_eq (M := mX12_laysFollows) (tgt := 106) dX12_laysFollows_99 102 rfl (by decide) (fun c181 => ?_) (fun c181 => ?_)
                          · have c181 := iv_eq (X := v180.toInt) (Y := 0) c181 rfl (by decide)
                            refine pv_iconst (M := mX12_laysFollows) (v := 0) dX12_laysFollows_106 107 rfl (by decide) ?_
                            refine iv_zast (M := mX12_laysFollows) (X := v163.toInt) dX12_laysFollows_107 (tl167 hT) rfl (by omega) (by omega) I149 (fun _ => rfl) (y := 0) (by decide) (by decide) (by decide) 108 rfl (fun m182 e185 I183 => ?_)
                            have K184 := K150.set e185 rfl
                            refine iv_inc (M := mX12_laysFollows) (C := 1) dX12_laysFollows_108 111 rfl rfl (by decide) rfl rfl (by decide) (by omega) (by omega) (fun v186 ev186 => ?_)
                            show PV _ _ _ _ _ _ _ 111 [.ref 123, .int x0, .int y1, .int v186] [] _
                            refine pv_goto (M := mX12_laysFollows) (tgt := 38) dX12_laysFollows_111 (by decide) ?_
                            exact ih153 v186 m182 n148 (by first | omega | decide) (by first | omega | decide) I183 K184 (by omega)
                          · have c181 := iv_ne (X := v180.toInt) (Y := 0) c181 rfl (by decide)
                            refine pv_iconst (M := mX12_laysFollows) (v := 1) dX12_laysFollows_102 103 rfl (by decide) ?_
                            refine pv_goto (M := mX12_laysFollows) (tgt := 107) dX12_laysFollows_103 (by decide) ?_
                            refine iv_zast (M := mX12_laysFollows) (X := v163.toInt) dX12_laysFollows_107 (tl167 hT) rfl (by omega) (by omega) I149 (fun _ => rfl) (y := 1) (by decide) (by decide) (by decide) 108 rfl (fun m187 e190 I188 => ?_)
                            have K189 := K150.set e190 rfl
                            refine iv_inc (M := mX12_laysFollows) (C := 1) dX12_laysFollows_108 111 rfl rfl (by decide) rfl rfl (by decide) (by omega) (by omega) (fun v191 ev191 => ?_)
                            show PV _ _ _ _ _ _ _ 111 [.ref 123, .int x0, .int y1, .int v191] [] _
                            refine pv_goto (M := mX12_laysFollows) (tgt := 38) dX12_laysFollows_111 (by decide) ?_
                            exact ih153 v191 m187 n148 (by first | omega | decide) (by first | omega | decide) I188 K189 (by omega)
                        · have c178 := iv_ne (X := y1.toInt) (Y := 8) c178 rfl (by decide)
                          refine pv_aload_n (M := mX12_laysFollows) 0 dX12_laysFollows_86 87 rfl rfl rfl ?_
                          refine pv_iload_n (M := mX12_laysFollows) 2 dX12_laysFollows_87 88 rfl rfl rfl ?_
                          refine pv_callv (M := mX12_laysFollows) (as := [.int y1]) (st := [.int v163, .ref 167]) (kc2 := 0) (ks2 := 0) dX12_laysFollows_88 wd1558 YX12_isDeed ⟨wd1560, wd87⟩ (mk_get (tl123 hT)) rfl rfl (s_X12_isDeed g hT I149 y1) rfl rfl (Nat.le_of_ble_eq_true rfl) (by decide) rfl rfl 91 rfl (fun rv h1 q192 => ?_)
                          obtain ⟨v193, rfl, rfl, pv193, qv193, rv193⟩ := q192
                          show PV _ _ _ _ _ _ _ 91 [.ref 123, .int x0, .int y1, .int y146] [.int v193, .int v163, .ref 167] _
                          refine pv_if_eq (M := mX12_laysFollows) (tgt := 106) dX12_laysFollows_91 94 rfl (by decide) (fun c194 => ?_) (fun c194 => ?_)
                          · have c194 := iv_eq (X := v193.toInt) (Y := 0) c194 rfl (by decide)
                            refine pv_iconst (M := mX12_laysFollows) (v := 0) dX12_laysFollows_106 107 rfl (by decide) ?_
                            refine iv_zast (M := mX12_laysFollows) (X := v163.toInt) dX12_laysFollows_107 (tl167 hT) rfl (by omega) (by omega) I149 (fun _ => rfl) (y := 0) (by decide) (by decide) (by decide) 108 rfl (fun m195 e198 I196 => ?_)
                            have K197 := K150.set e198 rfl
                            refine iv_inc (M := mX12_laysFollows) (C := 1) dX12_laysFollows_108 111 rfl rfl (by decide) rfl rfl (by decide) (by omega) (by omega) (fun v199 ev199 => ?_)
                            show PV _ _ _ _ _ _ _ 111 [.ref 123, .int x0, .int y1, .int v199] [] _
                            refine pv_goto (M := mX12_laysFollows) (tgt := 38) dX12_laysFollows_111 (by decide) ?_
                            exact ih153 v199 m195 n148 (by first | omega | decide) (by first | omega | decide) I196 K197 (by omega)
                          · have pc194 := rv193.resolve_left c194
                            have c194 := iv_ne (X := v193.toInt) (Y := 0) c194 rfl (by decide)
                            refine pv_aload_n (M := mX12_laysFollows) 0 dX12_laysFollows_94 95 rfl rfl rfl ?_
                            refine pv_iconst (M := mX12_laysFollows) (v := (-1)) dX12_laysFollows_95 96 rfl (by decide) ?_
                            refine pv_callv (M := mX12_laysFollows) (as := [.int (-1)]) (st := [.int v163, .ref 167]) (kc2 := 0) (ks2 := 0) dX12_laysFollows_96 wd1696 YX12_comesWithout ⟨wd1698, wd108⟩ (mk_get (tl123 hT)) rfl rfl (s_X12_comesWithout g hT I149 (-1)) rfl rfl (Nat.le_of_ble_eq_true rfl) (by decide) rfl rfl 99 rfl (fun rv h1 q200 => ?_)
                            obtain ⟨v201, rfl, rfl, pv201, qv201, rv201⟩ := q200
                            show PV _ _ _ _ _ _ _ 99 [.ref 123, .int x0, .int y1, .int y146] [.int v201, .int v163, .ref 167] _
                            refine pv_if_eq (M := mX12_laysFollows) (tgt := 106) dX12_laysFollows_99 102 rfl (by decide) (fun c202 => ?_) (fun c202 => ?_)
                            · have c202 := iv_eq (X := v201.toInt) (Y := 0) c202 rfl (by decide)
                              refine pv_iconst (M := mX12_laysFollows) (v := 0) dX12_laysFollows_106 107 rfl (by decide) ?_
                              refine iv_zast (M := mX12_laysFollows) (X := v163.toInt) dX12_laysFollows_107 (tl167 hT) rfl (by omega) (by omega) I149 (fun _ => rfl) (y := 0) (by decide) (by decide) (by decide) 108 rfl (fun m203 e206 I204 => ?_)
                              have K205 := K150.set e206 rfl
                              refine iv_inc (M := mX12_laysFollows) (C := 1) dX12_laysFollows_108 111 rfl rfl (by decide) rfl rfl (by decide) (by omega) (by omega) (fun v207 ev207 => ?_)
                              show PV _ _ _ _ _ _ _ 111 [.ref 123, .int x0, .int y1, .int v207] [] _
                              refine pv_goto (M := mX12_laysFollows) (tgt := 38) dX12_laysFollows_111 (by decide) ?_
                              exact ih153 v207 m203 n148 (by first | omega | decide) (by first | omega | decide) I204 K205 (by omega)
                            · have c202 := iv_ne (X := v201.toInt) (Y := 0) c202 rfl (by decide)
                              refine pv_iconst (M := mX12_laysFollows) (v := 1) dX12_laysFollows_102 103 rfl (by decide) ?_
                              refine pv_goto (M := mX12_laysFollows) (tgt := 107) dX12_laysFollows_103 (by decide) ?_
                              refine iv_zast (M := mX12_laysFollows) (X := v163.toInt) dX12_laysFollows_107 (tl167 hT) rfl (by omega) (by omega) I149 (fun _ => rfl) (y := 1) (by decide) (by decide) (by decide) 108 rfl (fun m208 e211 I209 => ?_)
                              have K210 := K150.set e211 rfl
                              refine iv_inc (M := mX12_laysFollows) (C := 1) dX12_laysFollows_108 111 rfl rfl (by decide) rfl rfl (by decide) (by omega) (by omega) (fun v212 ev212 => ?_)
                              show PV _ _ _ _ _ _ _ 111 [.ref 123, .int x0, .int y1, .int v212] [] _
                              refine pv_goto (M := mX12_laysFollows) (tgt := 38) dX12_laysFollows_111 (by decide) ?_
                              exact ih153 v212 m208 n148 (by first | omega | decide) (by first | omega | decide) I209 K210 (by omega)
                  · have pc161 := rv160.resolve_left c161
                    have c161 := iv_ne (X := v160.toInt) (Y := 0) c161 rfl (by decide)
                    refine pv_aload_n (M := mX12_laysFollows) 0 dX12_laysFollows_52 53 rfl rfl rfl ?_
                    refine pv_iload_n (M := mX12_laysFollows) 3 dX12_laysFollows_53 54 rfl rfl rfl ?_
                    refine pv_callv (M := mX12_laysFollows) (as := [.int y146]) (st := []) (kc2 := 0) (ks2 := 0) dX12_laysFollows_54 wd1567 YX12_laysDeed ⟨wd1569, wd89⟩ (mk_get (tl123 hT)) rfl rfl (s_X12_laysDeed g hT I149 y146 (by omega) (by omega)) rfl rfl (Nat.le_of_ble_eq_true rfl) (by decide) rfl rfl 57 rfl (fun rv h1 q213 => ?_)
                    obtain ⟨m214, n215, rfl, rfl, I216, K217⟩ := q213
                    have K217 := K150.trans K217
                    show PV _ _ _ _ _ _ _ 57 [.ref 123, .int x0, .int y1, .int y146] [] _
                    refine pv_aload_n (M := mX12_laysFollows) 0 dX12_laysFollows_57 58 rfl rfl rfl ?_
                    refine mv_get (M := mX12_laysFollows) (v := .ref 167) dX12_laysFollows_58 FX12 62 wd1235 (by decide) (tl123 hT) rfl rfl 61 rfl ?_
                    refine pv_bipush (M := mX12_laysFollows) (v := 8) dX12_laysFollows_61 63 rfl (by decide) ?_
                    refine pv_iload_n (M := mX12_laysFollows) 2 dX12_laysFollows_63 64 rfl rfl rfl ?_
                    refine iv_imul (M := mX12_laysFollows) (X := 8) (Y := y1.toInt) dX12_laysFollows_64 65 rfl (by decide) rfl (by omega) (by omega) (fun v218 ev218 => ?_)
                    refine pv_iload_n (M := mX12_laysFollows) 3 dX12_laysFollows_65 66 rfl rfl rfl ?_
                    refine iv_iadd (M := mX12_laysFollows) (X := v218.toInt) (Y := y146.toInt) dX12_laysFollows_66 67 rfl rfl rfl (by omega) (by omega) (fun v219 ev219 => ?_)
                    refine pv_iload_n (M := mX12_laysFollows) 3 dX12_laysFollows_67 68 rfl rfl rfl ?_
                    refine pv_iload_n (M := mX12_laysFollows) 2 dX12_laysFollows_68 69 rfl rfl rfl ?_
                    refine pv_icmp_eq (M := mX12_laysFollows) (tgt := 106) dX12_laysFollows_69 72 rfl (by decide) (fun c220 => ?_) (fun c220 => ?_)
                    · have c220 := iv_eq (X := y146.toInt) (Y := y1.toInt) c220 rfl rfl
                      refine pv_iconst (M := mX12_laysFollows) (v := 0) dX12_laysFollows_106 107 rfl (by decide) ?_
                      refine iv_zast (M := mX12_laysFollows) (X := v219.toInt) dX12_laysFollows_107 (tl167 hT) rfl (by omega) (by omega) I216 (fun _ => rfl) (y := 0) (by decide) (by decide) (by decide) 108 rfl (fun m221 e224 I222 => ?_)
                      have K223 := K217.set e224 rfl
                      refine iv_inc (M := mX12_laysFollows) (C := 1) dX12_laysFollows_108 111 rfl rfl (by decide) rfl rfl (by decide) (by omega) (by omega) (fun v225 ev225 => ?_)
                      show PV _ _ _ _ _ _ _ 111 [.ref 123, .int x0, .int y1, .int v225] [] _
                      refine pv_goto (M := mX12_laysFollows) (tgt := 38) dX12_laysFollows_111 (by decide) ?_
                      exact ih153 v225 m221 n215 (by first | omega | decide) (by first | omega | decide) I222 K223 (by omega)
                    · have c220 := iv_ne (X := y146.toInt) (Y := y1.toInt) c220 rfl rfl
                      refine pv_aload_n (M := mX12_laysFollows) 0 dX12_laysFollows_72 73 rfl rfl rfl ?_
                      refine pv_iload_n (M := mX12_laysFollows) 3 dX12_laysFollows_73 74 rfl rfl rfl ?_
                      refine pv_callv (M := mX12_laysFollows) (as := [.int y146]) (st := [.int v219, .ref 167]) (kc2 := 0) (ks2 := 0) dX12_laysFollows_74 wd1558 YX12_isDeed ⟨wd1560, wd87⟩ (mk_get (tl123 hT)) rfl rfl (s_X12_isDeed g hT I216 y146) rfl rfl (Nat.le_of_ble_eq_true rfl) (by decide) rfl rfl 77 rfl (fun rv h1 q226 => ?_)
                      obtain ⟨v227, rfl, rfl, pv227, qv227, rv227⟩ := q226
                      show PV _ _ _ _ _ _ _ 77 [.ref 123, .int x0, .int y1, .int y146] [.int v227, .int v219, .ref 167] _
                      refine pv_if_eq (M := mX12_laysFollows) (tgt := 106) dX12_laysFollows_77 80 rfl (by decide) (fun c228 => ?_) (fun c228 => ?_)
                      · have c228 := iv_eq (X := v227.toInt) (Y := 0) c228 rfl (by decide)
                        refine pv_iconst (M := mX12_laysFollows) (v := 0) dX12_laysFollows_106 107 rfl (by decide) ?_
                        refine iv_zast (M := mX12_laysFollows) (X := v219.toInt) dX12_laysFollows_107 (tl167 hT) rfl (by omega) (by omega) I216 (fun _ => rfl) (y := 0) (by decide) (by decide) (by decide) 108 rfl (fun m229 e232 I230 => ?_)
                        have K231 := K217.set e232 rfl
                        refine iv_inc (M := mX12_laysFollows) (C := 1) dX12_laysFollows_108 111 rfl rfl (by decide) rfl rfl (by decide) (by omega) (by omega) (fun v233 ev233 => ?_)
                        show PV _ _ _ _ _ _ _ 111 [.ref 123, .int x0, .int y1, .int v233] [] _
                        refine pv_goto (M := mX12_laysFollows) (tgt := 38) dX12_laysFollows_111 (by decide) ?_
                        exact ih153 v233 m229 n215 (by first | omega | decide) (by first | omega | decide) I230 K231 (by omega)
                      · have pc228 := rv227.resolve_left c228
                        have c228 := iv_ne (X := v227.toInt) (Y := 0) c228 rfl (by decide)
                        refine pv_iload_n (M := mX12_laysFollows) 2 dX12_laysFollows_80 81 rfl rfl rfl ?_
                        refine pv_bipush (M := mX12_laysFollows) (v := 8) dX12_laysFollows_81 83 rfl (by decide) ?_
                        refine pv_icmp_eq (M := mX12_laysFollows) (tgt := 94) dX12_laysFollows_83 86 rfl (by decide) (fun c234 => ?_) (fun c234 => ?_)
                        · have c234 := iv_eq (X := y1.toInt) (Y := 8) c234 rfl (by decide)
                          refine pv_aload_n (M := mX12_laysFollows) 0 dX12_laysFollows_94 95 rfl rfl rfl ?_
                          refine pv_iconst (M := mX12_laysFollows) (v := (-1)) dX12_laysFollows_95 96 rfl (by decide) ?_
                          refine pv_callv (M := mX12_laysFollows) (as := [.int (-1)]) (st := [.int v219, .ref 167]) (kc2 := 0) (ks2 := 0) dX12_laysFollows_96 wd1696 YX12_comesWithout ⟨wd1698, wd108⟩ (mk_get (tl123 hT)) rfl rfl (s_X12_comesWithout g hT I216 (-1)) rfl rfl (Nat.le_of_ble_eq_true rfl) (by decide) rfl rfl 99 rfl (fun rv h1 q235 => ?_)
                          obtain ⟨v236, rfl, rfl, pv236, qv236, rv236⟩ := q235
                          show PV _ _ _ _ _ _ _ 99 [.ref 123, .int x0, .int y1, .int y146] [.int v236, .int v219, .ref 167] _
                          refine pv_if_eq (M := mX12_laysFollows) (tgt := 106) dX12_laysFollows_99 102 rfl (by decide) (fun c237 => ?_) (fun c237 => ?_)
                          · have c237 := iv_eq (X := v236.toInt) (Y := 0) c237 rfl (by decide)
                            refine pv_iconst (M := mX12_laysFollows) (v := 0) dX12_laysFollows_106 107 rfl (by decide) ?_
                            refine iv_zast (M := mX12_laysFollows) (X := v219.toInt) dX12_laysFollows_107 (tl167 hT) rfl (by omega) (by omega) I216 (fun _ => rfl) (y := 0) (by decide) (by decide) (by decide) 108 rfl (fun m238 e241 I239 => ?_)
                            have K240 := K217.set e241 rfl
                            refine iv_inc (M := mX12_laysFollows) (C := 1) dX12_laysFollows_108 111 rfl rfl (by decide) rfl rfl (by decide) (by omega) (by omega) (fun v242 ev242 => ?_)
                            show PV _ _ _ _ _ _ _ 111 [.ref 123, .int x0, .int y1, .int v242] [] _
                            refine pv_goto (M := mX12_laysFollows) (tgt := 38) dX12_laysFollows_111 (by decide) ?_
                            exact ih153 v242 m238 n215 (by first | omega | decide) (by first | omega | decide) I239 K240 (by omega)
                          · have c237 := iv_ne (X := v236.toInt) (Y := 0) c237 rfl (by decide)
                            refine pv_iconst (M := mX12_laysFollows) (v := 1) dX12_laysFollows_102 103 rfl (by decide) ?_
                            refine pv_goto (M := mX12_laysFollows) (tgt := 107) dX12_laysFollows_103 (by decide) ?_
                            refine iv_zast (M := mX12_laysFollows) (X := v219.toInt) dX12_laysFollows_107 (tl167 hT) rfl (by omega) (by omega) I216 (fun _ => rfl) (y := 1) (by decide) (by decide) (by decide) 108 rfl (fun m243 e246 I244 => ?_)
                            have K245 := K217.set e246 rfl
                            refine iv_inc (M := mX12_laysFollows) (C := 1) dX12_laysFollows_108 111 rfl rfl (by decide) rfl rfl (by decide) (by omega) (by omega) (fun v247 ev247 => ?_)
                            show PV _ _ _ _ _ _ _ 111 [.ref 123, .int x0, .int y1, .int v247] [] _
                            refine pv_goto (M := mX12_laysFollows) (tgt := 38) dX12_laysFollows_111 (by decide) ?_
                            exact ih153 v247 m243 n215 (by first | omega | decide) (by first | omega | decide) I244 K245 (by omega)
                        · have c234 := iv_ne (X := y1.toInt) (Y := 8) c234 rfl (by decide)
                          refine pv_aload_n (M := mX12_laysFollows) 0 dX12_laysFollows_86 87 rfl rfl rfl ?_
                          refine pv_iload_n (M := mX12_laysFollows) 2 dX12_laysFollows_87 88 rfl rfl rfl ?_
                          refine pv_callv (M := mX12_laysFollows) (as := [.int y1]) (st := [.int v219, .ref 167]) (kc2 := 0) (ks2 := 0) dX12_laysFollows_88 wd1558 YX12_isDeed ⟨wd1560, wd87⟩ (mk_get (tl123 hT)) rfl rfl (s_X12_isDeed g hT I216 y1) rfl rfl (Nat.le_of_ble_eq_true rfl) (by decide) rfl rfl 91 rfl (fun rv h1 q248 => ?_)
                          obtain ⟨v249, rfl, rfl, pv249, qv249, rv249⟩ := q248
                          show PV _ _ _ _ _ _ _ 91 [.ref 123, .int x0, .int y1, .int y146] [.int v249, .int v219, .ref 167] _
                          refine pv_if_eq (M := mX12_laysFollows) (tgt := 106) dX12_laysFollows_91 94 rfl (by decide) (fun c250 => ?_) (fun c250 => ?_)
                          · have c250 := iv_eq (X := v249.toInt) (Y := 0) c250 rfl (by decide)
                            refine pv_iconst (M := mX12_laysFollows) (v := 0) dX12_laysFollows_106 107 rfl (by decide) ?_
                            refine iv_zast (M := mX12_laysFollows) (X := v219.toInt) dX12_laysFollows_107 (tl167 hT) rfl (by omega) (by omega) I216 (fun _ => rfl) (y := 0) (by decide) (by decide) (by decide) 108 rfl (fun m251 e254 I252 => ?_)
                            have K253 := K217.set e254 rfl
                            refine iv_inc (M := mX12_laysFollows) (C := 1) dX12_laysFollows_108 111 rfl rfl (by decide) rfl rfl (by decide) (by omega) (by omega) (fun v255 ev255 => ?_)
                            show PV _ _ _ _ _ _ _ 111 [.ref 123, .int x0, .int y1, .int v255] [] _
                            refine pv_goto (M := mX12_laysFollows) (tgt := 38) dX12_laysFollows_111 (by decide) ?_
                            exact ih153 v255 m251 n215 (by first | omega | decide) (by first | omega | decide) I252 K253 (by omega)
                          · have pc250 := rv249.resolve_left c250
                            have c250 := iv_ne (X := v249.toInt) (Y := 0) c250 rfl (by decide)
                            refine pv_aload_n (M := mX12_laysFollows) 0 dX12_laysFollows_94 95 rfl rfl rfl ?_
                            refine pv_iconst (M := mX12_laysFollows) (v := (-1)) dX12_laysFollows_95 96 rfl (by decide) ?_
                            refine pv_callv (M := mX12_laysFollows) (as := [.int (-1)]) (st := [.int v219, .ref 167]) (kc2 := 0) (ks2 := 0) dX12_laysFollows_96 wd1696 YX12_comesWithout ⟨wd1698, wd108⟩ (mk_get (tl123 hT)) rfl rfl (s_X12_comesWithout g hT I216 (-1)) rfl rfl (Nat.le_of_ble_eq_true rfl) (by decide) rfl rfl 99 rfl (fun rv h1 q256 => ?_)
                            obtain ⟨v257, rfl, rfl, pv257, qv257, rv257⟩ := q256
                            show PV _ _ _ _ _ _ _ 99 [.ref 123, .int x0, .int y1, .int y146] [.int v257, .int v219, .ref 167] _
                            refine pv_if_eq (M := mX12_laysFollows) (tgt := 106) dX12_laysFollows_99 102 rfl (by decide) (fun c258 => ?_) (fun c258 => ?_)
                            · have c258 := iv_eq (X := v257.toInt) (Y := 0) c258 rfl (by decide)
                              refine pv_iconst (M := mX12_laysFollows) (v := 0) dX12_laysFollows_106 107 rfl (by decide) ?_
                              refine iv_zast (M := mX12_laysFollows) (X := v219.toInt) dX12_laysFollows_107 (tl167 hT) rfl (by omega) (by omega) I216 (fun _ => rfl) (y := 0) (by decide) (by decide) (by decide) 108 rfl (fun m259 e262 I260 => ?_)
                              have K261 := K217.set e262 rfl
                              refine iv_inc (M := mX12_laysFollows) (C := 1) dX12_laysFollows_108 111 rfl rfl (by decide) rfl rfl (by decide) (by omega) (by omega) (fun v263 ev263 => ?_)
                              show PV _ _ _ _ _ _ _ 111 [.ref 123, .int x0, .int y1, .int v263] [] _
                              refine pv_goto (M := mX12_laysFollows) (tgt := 38) dX12_laysFollows_111 (by decide) ?_
                              exact ih153 v263 m259 n215 (by first | omega | decide) (by first | omega | decide) I260 K261 (by omega)
                            · have c258 := iv_ne (X := v257.toInt) (Y := 0) c258 rfl (by decide)
                              refine pv_iconst (M := mX12_laysFollows) (v := 1) dX12_laysFollows_102 103 rfl (by decide) ?_
                              refine pv_goto (M := mX12_laysFollows) (tgt := 107) dX12_laysFollows_103 (by decide) ?_
                              refine iv_zast (M := mX12_laysFollows) (X := v219.toInt) dX12_laysFollows_107 (tl167 hT) rfl (by omega) (by omega) I216 (fun _ => rfl) (y := 1) (by decide) (by decide) (by decide) 108 rfl (fun m264 e267 I265 => ?_)
                              have K266 := K217.set e267 rfl
                              refine iv_inc (M := mX12_laysFollows) (C := 1) dX12_laysFollows_108 111 rfl rfl (by decide) rfl rfl (by decide) (by omega) (by omega) (fun v268 ev268 => ?_)
                              show PV _ _ _ _ _ _ _ 111 [.ref 123, .int x0, .int y1, .int v268] [] _
                              refine pv_goto (M := mX12_laysFollows) (tgt := 38) dX12_laysFollows_111 (by decide) ?_
                              exact ih153 v268 m264 n215 (by first | omega | decide) (by first | omega | decide) I265 K266 (by omega)
            have z269 : (0 : Int32).toInt = 0 := by decide
            exact lp152 (((8 - 0) : Int).toNat + 1) 0 m142 n143 (by first | omega | decide) (by first | omega | decide) I144 K145 (by omega)
        · have c13 := iv_eq (X := y1.toInt) (Y := 8) c13 rfl (by decide)
          refine pv_aload_n (M := mX12_laysFollows) 0 dX12_laysFollows_14 15 rfl rfl rfl ?_
          refine pv_iload_n (M := mX12_laysFollows) 1 dX12_laysFollows_15 16 rfl rfl rfl ?_
          refine pv_iconst (M := mX12_laysFollows) (v := 0) dX12_laysFollows_16 17 rfl (by decide) ?_
          refine pv_callv (M := mX12_laysFollows) (as := [.int x0, .int 0]) (st := []) (kc2 := 0) (ks2 := 0) dX12_laysFollows_17 wd1563 YX12_laysBlank ⟨wd1565, wd88⟩ (mk_get (tl123 hT)) rfl rfl (s_X12_laysBlank g hT I4 x0 (by omega) (by omega) 0 (by decide) (by decide)) rfl rfl (Nat.le_of_ble_eq_true rfl) (by decide) rfl rfl 20 rfl (fun rv h1 q270 => ?_)
          obtain ⟨m271, n272, rfl, rfl, I273, K274⟩ := q270
          have K274 := K5.trans K274
          show PV _ _ _ _ _ _ _ 20 [.ref 123, .int x0, .int y1, pv_U] [] _
          refine pv_goto (M := mX12_laysFollows) (tgt := 36) dX12_laysFollows_20 (by decide) ?_
          refine pv_iconst (M := mX12_laysFollows) (v := 0) dX12_laysFollows_36 37 rfl (by decide) ?_
          refine pv_istore_n (M := mX12_laysFollows) 3 (lo2 := [.ref 123, .int x0, .int y1, .int 0]) dX12_laysFollows_37 38 rfl rfl (by decide) rfl rfl ?_
          have lp281 : ∀ (fuel280 : Nat) (y275 : Int32) (m276 : Nat → Nat → Int32) (n277 : Nat → Nat → Int64), (0 ≤ y275.toInt) → (y275.toInt ≤ 8) → IV BB m276 → kp m m276 → ((8 - y275.toInt) : Int).toNat < fuel280 → PV none g mX12_laysFollows (sqV T BB r m) 2 0 0 38 [.ref 123, .int x0, .int y1, .int y275] [] (mk T m276 n277 r) := by
            intro fuel280
            induction fuel280 with
            | zero => intro y275 m276 n277 b283 b284 I278 K279 z285; omega
            | succ fuel280 ih282 =>
              intro y275 m276 n277 b283 b284 I278 K279 z285
              refine pv_iload_n (M := mX12_laysFollows) 3 dX12_laysFollows_38 39 rfl rfl rfl ?_
              refine pv_bipush (M := mX12_laysFollows) (v := 8) dX12_laysFollows_39 41 rfl (by decide) ?_
              refine pv_icmp_ge (M := mX12_laysFollows) (tgt := 114) dX12_laysFollows_41 44 rfl (by decide) (fun c286 => ?_) (fun c286 => ?_)
              · have c286 := iv_le (X := 8) (Y := y275.toInt) c286 (by decide) rfl
                refine iv_inc (M := mX12_laysFollows) (C := 1) dX12_laysFollows_114 117 rfl rfl (by decide) rfl rfl (by decide) (by omega) (by omega) (fun v287 ev287 => ?_)
                show PV _ _ _ _ _ _ _ 117 [.ref 123, .int x0, .int v287, .int y275] [] _
                refine pv_goto (M := mX12_laysFollows) (tgt := 2) dX12_laysFollows_117 (by decide) ?_
                refine pv_fg (lo2 := [.ref 123, .int x0, .int v287, pv_U]) ⟨Or.inr rfl, ⟨Or.inr rfl, ⟨Or.inr rfl, ⟨Or.inl rfl, trivial⟩⟩⟩⟩ ?_
                exact ih8 v287 m276 n277 (by first | omega | decide) (by first | omega | decide) I278 K279 (by omega)
              · have c286 := iv_nle (X := 8) (Y := y275.toInt) c286 (by decide) rfl
                refine pv_aload_n (M := mX12_laysFollows) 0 dX12_laysFollows_44 45 rfl rfl rfl ?_
                refine pv_iload_n (M := mX12_laysFollows) 3 dX12_laysFollows_45 46 rfl rfl rfl ?_
                refine pv_callv (M := mX12_laysFollows) (as := [.int y275]) (st := []) (kc2 := 0) (ks2 := 0) dX12_laysFollows_46 wd1558 YX12_isDeed ⟨wd1560, wd87⟩ (mk_get (tl123 hT)) rfl rfl (s_X12_isDeed g hT I278 y275) rfl rfl (Nat.le_of_ble_eq_true rfl) (by decide) rfl rfl 49 rfl (fun rv h1 q288 => ?_)
                obtain ⟨v289, rfl, rfl, pv289, qv289, rv289⟩ := q288
                show PV _ _ _ _ _ _ _ 49 [.ref 123, .int x0, .int y1, .int y275] [.int v289] _
                refine pv_if_eq (M := mX12_laysFollows) (tgt := 57) dX12_laysFollows_49 52 rfl (by decide) (fun c290 => ?_) (fun c290 => ?_)
                · have c290 := iv_eq (X := v289.toInt) (Y := 0) c290 rfl (by decide)
                  refine pv_aload_n (M := mX12_laysFollows) 0 dX12_laysFollows_57 58 rfl rfl rfl ?_
                  refine mv_get (M := mX12_laysFollows) (v := .ref 167) dX12_laysFollows_58 FX12 62 wd1235 (by decide) (tl123 hT) rfl rfl 61 rfl ?_
                  refine pv_bipush (M := mX12_laysFollows) (v := 8) dX12_laysFollows_61 63 rfl (by decide) ?_
                  refine pv_iload_n (M := mX12_laysFollows) 2 dX12_laysFollows_63 64 rfl rfl rfl ?_
                  refine iv_imul (M := mX12_laysFollows) (X := 8) (Y := y1.toInt) dX12_laysFollows_64 65 rfl (by decide) rfl (by omega) (by omega) (fun v291 ev291 => ?_)
                  refine pv_iload_n (M := mX12_laysFollows) 3 dX12_laysFollows_65 66 rfl rfl rfl ?_
                  refine iv_iadd (M := mX12_laysFollows) (X := v291.toInt) (Y := y275.toInt) dX12_laysFollows_66 67 rfl rfl rfl (by omega) (by omega) (fun v292 ev292 => ?_)
                  refine pv_iload_n (M := mX12_laysFollows) 3 dX12_laysFollows_67 68 rfl rfl rfl ?_
                  refine pv_iload_n (M := mX12_laysFollows) 2 dX12_laysFollows_68 69 rfl rfl rfl ?_
                  refine pv_icmp_eq (M := mX12_laysFollows) (tgt := 106) dX12_laysFollows_69 72 rfl (by decide) (fun c293 => ?_) (fun c293 => ?_)
                  · have c293 := iv_eq (X := y275.toInt) (Y := y1.toInt) c293 rfl rfl
                    refine pv_iconst (M := mX12_laysFollows) (v := 0) dX12_laysFollows_106 107 rfl (by decide) ?_
                    refine iv_zast (M := mX12_laysFollows) (X := v292.toInt) dX12_laysFollows_107 (tl167 hT) rfl (by omega) (by omega) I278 (fun _ => rfl) (y := 0) (by decide) (by decide) (by decide) 108 rfl (fun m294 e297 I295 => ?_)
                    have K296 := K279.set e297 rfl
                    refine iv_inc (M := mX12_laysFollows) (C := 1) dX12_laysFollows_108 111 rfl rfl (by decide) rfl rfl (by decide) (by omega) (by omega) (fun v298 ev298 => ?_)
                    show PV _ _ _ _ _ _ _ 111 [.ref 123, .int x0, .int y1, .int v298] [] _
                    refine pv_goto (M := mX12_laysFollows) (tgt := 38) dX12_laysFollows_111 (by decide) ?_
                    exact ih282 v298 m294 n277 (by first | omega | decide) (by first | omega | decide) I295 K296 (by omega)
                  · have c293 := iv_ne (X := y275.toInt) (Y := y1.toInt) c293 rfl rfl
                    refine pv_aload_n (M := mX12_laysFollows) 0 dX12_laysFollows_72 73 rfl rfl rfl ?_
                    refine pv_iload_n (M := mX12_laysFollows) 3 dX12_laysFollows_73 74 rfl rfl rfl ?_
                    refine pv_callv (M := mX12_laysFollows) (as := [.int y275]) (st := [.int v292, .ref 167]) (kc2 := 0) (ks2 := 0) dX12_laysFollows_74 wd1558 YX12_isDeed ⟨wd1560, wd87⟩ (mk_get (tl123 hT)) rfl rfl (s_X12_isDeed g hT I278 y275) rfl rfl (Nat.le_of_ble_eq_true rfl) (by decide) rfl rfl 77 rfl (fun rv h1 q299 => ?_)
                    obtain ⟨v300, rfl, rfl, pv300, qv300, rv300⟩ := q299
                    show PV _ _ _ _ _ _ _ 77 [.ref 123, .int x0, .int y1, .int y275] [.int v300, .int v292, .ref 167] _
                    refine pv_if_eq (M := mX12_laysFollows) (tgt := 106) dX12_laysFollows_77 80 rfl (by decide) (fun c301 => ?_) (fun c301 => ?_)
                    · have c301 := iv_eq (X := v300.toInt) (Y := 0) c301 rfl (by decide)
                      refine pv_iconst (M := mX12_laysFollows) (v := 0) dX12_laysFollows_106 107 rfl (by decide) ?_
                      refine iv_zast (M := mX12_laysFollows) (X := v292.toInt) dX12_laysFollows_107 (tl167 hT) rfl (by omega) (by omega) I278 (fun _ => rfl) (y := 0) (by decide) (by decide) (by decide) 108 rfl (fun m302 e305 I303 => ?_)
                      have K304 := K279.set e305 rfl
                      refine iv_inc (M := mX12_laysFollows) (C := 1) dX12_laysFollows_108 111 rfl rfl (by decide) rfl rfl (by decide) (by omega) (by omega) (fun v306 ev306 => ?_)
                      show PV _ _ _ _ _ _ _ 111 [.ref 123, .int x0, .int y1, .int v306] [] _
                      refine pv_goto (M := mX12_laysFollows) (tgt := 38) dX12_laysFollows_111 (by decide) ?_
                      exact ih282 v306 m302 n277 (by first | omega | decide) (by first | omega | decide) I303 K304 (by omega)
                    · have pc301 := rv300.resolve_left c301
                      have c301 := iv_ne (X := v300.toInt) (Y := 0) c301 rfl (by decide)
                      refine pv_iload_n (M := mX12_laysFollows) 2 dX12_laysFollows_80 81 rfl rfl rfl ?_
                      refine pv_bipush (M := mX12_laysFollows) (v := 8) dX12_laysFollows_81 83 rfl (by decide) ?_
                      refine pv_icmp_eq (M := mX12_laysFollows) (tgt := 94) dX12_laysFollows_83 86 rfl (by decide) (fun c307 => ?_) (fun c307 => ?_)
                      · have c307 := iv_eq (X := y1.toInt) (Y := 8) c307 rfl (by decide)
                        refine pv_aload_n (M := mX12_laysFollows) 0 dX12_laysFollows_94 95 rfl rfl rfl ?_
                        refine pv_iconst (M := mX12_laysFollows) (v := (-1)) dX12_laysFollows_95 96 rfl (by decide) ?_
                        refine pv_callv (M := mX12_laysFollows) (as := [.int (-1)]) (st := [.int v292, .ref 167]) (kc2 := 0) (ks2 := 0) dX12_laysFollows_96 wd1696 YX12_comesWithout ⟨wd1698, wd108⟩ (mk_get (tl123 hT)) rfl rfl (s_X12_comesWithout g hT I278 (-1)) rfl rfl (Nat.le_of_ble_eq_true rfl) (by decide) rfl rfl 99 rfl (fun rv h1 q308 => ?_)
                        obtain ⟨v309, rfl, rfl, pv309, qv309, rv309⟩ := q308
                        show PV _ _ _ _ _ _ _ 99 [.ref 123, .int x0, .int y1, .int y275] [.int v309, .int v292, .ref 167] _
                        refine pv_if_eq (M := mX12_laysFollows) (tgt := 106) dX12_laysFollows_99 102 rfl (by decide) (fun c310 => ?_) (fun c310 => ?_)
                        · have c310 := iv_eq (X := v309.toInt) (Y := 0) c310 rfl (by decide)
                          refine pv_iconst (M := mX12_laysFollows) (v := 0) dX12_laysFollows_106 107 rfl (by decide) ?_
                          refine iv_zast (M := mX12_laysFollows) (X := v292.toInt) dX12_laysFollows_107 (tl167 hT) rfl (by omega) (by omega) I278 (fun _ => rfl) (y := 0) (by decide) (by decide) (by decide) 108 rfl (fun m311 e314 I312 => ?_)
                          have K313 := K279.set e314 rfl
                          refine iv_inc (M := mX12_laysFollows) (C := 1) dX12_laysFollows_108 111 rfl rfl (by decide) rfl rfl (by decide) (by omega) (by omega) (fun v315 ev315 => ?_)
                          show PV _ _ _ _ _ _ _ 111 [.ref 123, .int x0, .int y1, .int v315] [] _
                          refine pv_goto (M := mX12_laysFollows) (tgt := 38) dX12_laysFollows_111 (by decide) ?_
                          exact ih282 v315 m311 n277 (by first | omega | decide) (by first | omega | decide) I312 K313 (by omega)
                        · have c310 := iv_ne (X := v309.toInt) (Y := 0) c310 rfl (by decide)
                          refine pv_iconst (M := mX12_laysFollows) (v := 1) dX12_laysFollows_102 103 rfl (by decide) ?_
                          refine pv_goto (M := mX12_laysFollows) (tgt := 107) dX12_laysFollows_103 (by decide) ?_
                          refine iv_zast (M := mX12_laysFollows) (X := v292.toInt) dX12_laysFollows_107 (tl167 hT) rfl (by omega) (by omega) I278 (fun _ => rfl) (y := 1) (by decide) (by decide) (by decide) 108 rfl (fun m316 e319 I317 => ?_)
                          have K318 := K279.set e319 rfl
                          refine iv_inc (M := mX12_laysFollows) (C := 1) dX12_laysFollows_108 111 rfl rfl (by decide) rfl rfl (by decide) (by omega) (by omega) (fun v320 ev320 => ?_)
                          show PV _ _ _ _ _ _ _ 111 [.ref 123, .int x0, .int y1, .int v320] [] _
                          refine pv_goto (M := mX12_laysFollows) (tgt := 38) dX12_laysFollows_111 (by decide) ?_
                          exact ih282 v320 m316 n277 (by first | omega | decide) (by first | omega | decide) I317 K318 (by omega)
                      · have c307 := iv_ne (X := y1.toInt) (Y := 8) c307 rfl (by decide)
                        refine pv_aload_n (M := mX12_laysFollows) 0 dX12_laysFollows_86 87 rfl rfl rfl ?_
                        refine pv_iload_n (M := mX12_laysFollows) 2 dX12_laysFollows_87 88 rfl rfl rfl ?_
                        refine pv_callv (M := mX12_laysFollows) (as := [.int y1]) (st := [.int v292, .ref 167]) (kc2 := 0) (ks2 := 0) dX12_laysFollows_88 wd1558 YX12_isDeed ⟨wd1560, wd87⟩ (mk_get (tl123 hT)) rfl rfl (s_X12_isDeed g hT I278 y1) rfl rfl (Nat.le_of_ble_eq_true rfl) (by decide) rfl rfl 91 rfl (fun rv h1 q321 => ?_)
                        obtain ⟨v322, rfl, rfl, pv322, qv322, rv322⟩ := q321
                        show PV _ _ _ _ _ _ _ 91 [.ref 123, .int x0, .int y1, .int y275] [.int v322, .int v292, .ref 167] _
                        refine pv_if_eq (M := mX12_laysFollows) (tgt := 106) dX12_laysFollows_91 94 rfl (by decide) (fun c323 => ?_) (fun c323 => ?_)
                        · have c323 := iv_eq (X := v322.toInt) (Y := 0) c323 rfl (by decide)
                          refine pv_iconst (M := mX12_laysFollows) (v := 0) dX12_laysFollows_106 107 rfl (by decide) ?_
                          refine iv_zast (M := mX12_laysFollows) (X := v292.toInt) dX12_laysFollows_107 (tl167 hT) rfl (by omega) (by omega) I278 (fun _ => rfl) (y := 0) (by decide) (by decide) (by decide) 108 rfl (fun m324 e327 I325 => ?_)
                          have K326 := K279.set e327 rfl
                          refine iv_inc (M := mX12_laysFollows) (C := 1) dX12_laysFollows_108 111 rfl rfl (by decide) rfl rfl (by decide) (by omega) (by omega) (fun v328 ev328 => ?_)
                          show PV _ _ _ _ _ _ _ 111 [.ref 123, .int x0, .int y1, .int v328] [] _
                          refine pv_goto (M := mX12_laysFollows) (tgt := 38) dX12_laysFollows_111 (by decide) ?_
                          exact ih282 v328 m324 n277 (by first | omega | decide) (by first | omega | decide) I325 K326 (by omega)
                        · have pc323 := rv322.resolve_left c323
                          have c323 := iv_ne (X := v322.toInt) (Y := 0) c323 rfl (by decide)
                          refine pv_aload_n (M := mX12_laysFollows) 0 dX12_laysFollows_94 95 rfl rfl rfl ?_
                          refine pv_iconst (M := mX12_laysFollows) (v := (-1)) dX12_laysFollows_95 96 rfl (by decide) ?_
                          refine pv_callv (M := mX12_laysFollows) (as := [.int (-1)]) (st := [.int v292, .ref 167]) (kc2 := 0) (ks2 := 0) dX12_laysFollows_96 wd1696 YX12_comesWithout ⟨wd1698, wd108⟩ (mk_get (tl123 hT)) rfl rfl (s_X12_comesWithout g hT I278 (-1)) rfl rfl (Nat.le_of_ble_eq_true rfl) (by decide) rfl rfl 99 rfl (fun rv h1 q329 => ?_)
                          obtain ⟨v330, rfl, rfl, pv330, qv330, rv330⟩ := q329
                          show PV _ _ _ _ _ _ _ 99 [.ref 123, .int x0, .int y1, .int y275] [.int v330, .int v292, .ref 167] _
                          refine pv_if_eq (M := mX12_laysFollows) (tgt := 106) dX12_laysFollows_99 102 rfl (by decide) (fun c331 => ?_) (fun c331 => ?_)
                          · have c331 := iv_eq (X := v330.toInt) (Y := 0) c331 rfl (by decide)
                            refine pv_iconst (M := mX12_laysFollows) (v := 0) dX12_laysFollows_106 107 rfl (by decide) ?_
                            refine iv_zast (M := mX12_laysFollows) (X := v292.toInt) dX12_laysFollows_107 (tl167 hT) rfl (by omega) (by omega) I278 (fun _ => rfl) (y := 0) (by decide) (by decide) (by decide) 108 rfl (fun m332 e335 I333 => ?_)
                            have K334 := K279.set e335 rfl
                            refine iv_inc (M := mX12_laysFollows) (C := 1) dX12_laysFollows_108 111 rfl rfl (by decide) rfl rfl (by decide) (by omega) (by omega) (fun v336 ev336 => ?_)
                            show PV _ _ _ _ _ _ _ 111 [.ref 123, .int x0, .int y1, .int v336] [] _
                            refine pv_goto (M := mX12_laysFollows) (tgt := 38) dX12_laysFollows_111 (by decide) ?_
                            exact ih282 v336 m332 n277 (by first | omega | decide) (by first | omega | decide) I333 K334 (by omega)
                          · have c331 := iv_ne (X := v330.toInt) (Y := 0) c331 rfl (by decide)
                            refine pv_iconst (M := mX12_laysFollows) (v := 1) dX12_laysFollows_102 103 rfl (by decide) ?_
                            refine pv_goto (M := mX12_laysFollows) (tgt := 107) dX12_laysFollows_103 (by decide) ?_
                            refine iv_zast (M := mX12_laysFollows) (X := v292.toInt) dX12_laysFollows_107 (tl167 hT) rfl (by omega) (by omega) I278 (fun _ => rfl) (y := 1) (by decide) (by decide) (by decide) 108 rfl (fun m337 e340 I338 => ?_)
                            have K339 := K279.set e340 rfl
                            refine iv_inc (M := mX12_laysFollows) (C := 1) dX12_laysFollows_108 111 rfl rfl (by decide) rfl rfl (by decide) (by omega) (by omega) (fun v341 ev341 => ?_)
                            show PV _ _ _ _ _ _ _ 111 [.ref 123, .int x0, .int y1, .int v341] [] _
                            refine pv_goto (M := mX12_laysFollows) (tgt := 38) dX12_laysFollows_111 (by decide) ?_
                            exact ih282 v341 m337 n277 (by first | omega | decide) (by first | omega | decide) I338 K339 (by omega)
                · have pc290 := rv289.resolve_left c290
                  have c290 := iv_ne (X := v289.toInt) (Y := 0) c290 rfl (by decide)
                  refine pv_aload_n (M := mX12_laysFollows) 0 dX12_laysFollows_52 53 rfl rfl rfl ?_
                  refine pv_iload_n (M := mX12_laysFollows) 3 dX12_laysFollows_53 54 rfl rfl rfl ?_
                  refine pv_callv (M := mX12_laysFollows) (as := [.int y275]) (st := []) (kc2 := 0) (ks2 := 0) dX12_laysFollows_54 wd1567 YX12_laysDeed ⟨wd1569, wd89⟩ (mk_get (tl123 hT)) rfl rfl (s_X12_laysDeed g hT I278 y275 (by omega) (by omega)) rfl rfl (Nat.le_of_ble_eq_true rfl) (by decide) rfl rfl 57 rfl (fun rv h1 q342 => ?_)
                  obtain ⟨m343, n344, rfl, rfl, I345, K346⟩ := q342
                  have K346 := K279.trans K346
                  show PV _ _ _ _ _ _ _ 57 [.ref 123, .int x0, .int y1, .int y275] [] _
                  refine pv_aload_n (M := mX12_laysFollows) 0 dX12_laysFollows_57 58 rfl rfl rfl ?_
                  refine mv_get (M := mX12_laysFollows) (v := .ref 167) dX12_laysFollows_58 FX12 62 wd1235 (by decide) (tl123 hT) rfl rfl 61 rfl ?_
                  refine pv_bipush (M := mX12_laysFollows) (v := 8) dX12_laysFollows_61 63 rfl (by decide) ?_
                  refine pv_iload_n (M := mX12_laysFollows) 2 dX12_laysFollows_63 64 rfl rfl rfl ?_
                  refine iv_imul (M := mX12_laysFollows) (X := 8) (Y := y1.toInt) dX12_laysFollows_64 65 rfl (by decide) rfl (by omega) (by omega) (fun v347 ev347 => ?_)
                  refine pv_iload_n (M := mX12_laysFollows) 3 dX12_laysFollows_65 66 rfl rfl rfl ?_
                  refine iv_iadd (M := mX12_laysFollows) (X := v347.toInt) (Y := y275.toInt) dX12_laysFollows_66 67 rfl rfl rfl (by omega) (by omega) (fun v348 ev348 => ?_)
                  refine pv_iload_n (M := mX12_laysFollows) 3 dX12_laysFollows_67 68 rfl rfl rfl ?_
                  refine pv_iload_n (M := mX12_laysFollows) 2 dX12_laysFollows_68 69 rfl rfl rfl ?_
                  refine pv_icmp_eq (M := mX12_laysFollows) (tgt := 106) dX12_laysFollows_69 72 rfl (by decide) (fun c349 => ?_) (fun c349 => ?_)
                  · have c349 := iv_eq (X := y275.toInt) (Y := y1.toInt) c349 rfl rfl
                    refine pv_iconst (M := mX12_laysFollows) (v := 0) dX12_laysFollows_106 107 rfl (by decide) ?_
                    refine iv_zast (M := mX12_laysFollows) (X := v348.toInt) dX12_laysFollows_107 (tl167 hT) rfl (by omega) (by omega) I345 (fun _ => rfl) (y := 0) (by decide) (by decide) (by decide) 108 rfl (fun m350 e353 I351 => ?_)
                    have K352 := K346.set e353 rfl
                    refine iv_inc (M := mX12_laysFollows) (C := 1) dX12_laysFollows_108 111 rfl rfl (by decide) rfl rfl (by decide) (by omega) (by omega) (fun v354 ev354 => ?_)
                    show PV _ _ _ _ _ _ _ 111 [.ref 123, .int x0, .int y1, .int v354] [] _
                    refine pv_goto (M := mX12_laysFollows) (tgt := 38) dX12_laysFollows_111 (by decide) ?_
                    exact ih282 v354 m350 n344 (by first | omega | decide) (by first | omega | decide) I351 K352 (by omega)
                  · have c349 := iv_ne (X := y275.toInt) (Y := y1.toInt) c349 rfl rfl
                    refine pv_aload_n (M := mX12_laysFollows) 0 dX12_laysFollows_72 73 rfl rfl rfl ?_
                    refine pv_iload_n (M := mX12_laysFollows) 3 dX12_laysFollows_73 74 rfl rfl rfl ?_
                    refine pv_callv (M := mX12_laysFollows) (as := [.int y275]) (st := [.int v348, .ref 167]) (kc2 := 0) (ks2 := 0) dX12_laysFollows_74 wd1558 YX12_isDeed ⟨wd1560, wd87⟩ (mk_get (tl123 hT)) rfl rfl (s_X12_isDeed g hT I345 y275) rfl rfl (Nat.le_of_ble_eq_true rfl) (by decide) rfl rfl 77 rfl (fun rv h1 q355 => ?_)
                    obtain ⟨v356, rfl, rfl, pv356, qv356, rv356⟩ := q355
                    show PV _ _ _ _ _ _ _ 77 [.ref 123, .int x0, .int y1, .int y275] [.int v356, .int v348, .ref 167] _
                    refine pv_if_eq (M := mX12_laysFollows) (tgt := 106) dX12_laysFollows_77 80 rfl (by decide) (fun c357 => ?_) (fun c357 => ?_)
                    · have c357 := iv_eq (X := v356.toInt) (Y := 0) c357 rfl (by decide)
                      refine pv_iconst (M := mX12_laysFollows) (v := 0) dX12_laysFollows_106 107 rfl (by decide) ?_
                      refine iv_zast (M := mX12_laysFollows) (X := v348.toInt) dX12_laysFollows_107 (tl167 hT) rfl (by omega) (by omega) I345 (fun _ => rfl) (y := 0) (by decide) (by decide) (by decide) 108 rfl (fun m358 e361 I359 => ?_)
                      have K360 := K346.set e361 rfl
                      refine iv_inc (M := mX12_laysFollows) (C := 1) dX12_laysFollows_108 111 rfl rfl (by decide) rfl rfl (by decide) (by omega) (by omega) (fun v362 ev362 => ?_)
                      show PV _ _ _ _ _ _ _ 111 [.ref 123, .int x0, .int y1, .int v362] [] _
                      refine pv_goto (M := mX12_laysFollows) (tgt := 38) dX12_laysFollows_111 (by decide) ?_
                      exact ih282 v362 m358 n344 (by first | omega | decide) (by first | omega | decide) I359 K360 (by omega)
                    · have pc357 := rv356.resolve_left c357
                      have c357 := iv_ne (X := v356.toInt) (Y := 0) c357 rfl (by decide)
                      refine pv_iload_n (M := mX12_laysFollows) 2 dX12_laysFollows_80 81 rfl rfl rfl ?_
                      refine pv_bipush (M := mX12_laysFollows) (v := 8) dX12_laysFollows_81 83 rfl (by decide) ?_
                      refine pv_icmp_eq (M := mX12_laysFollows) (tgt := 94) dX12_laysFollows_83 86 rfl (by decide) (fun c363 => ?_) (fun c363 => ?_)
                      · have c363 := iv_eq (X := y1.toInt) (Y := 8) c363 rfl (by decide)
                        refine pv_aload_n (M := mX12_laysFollows) 0 dX12_laysFollows_94 95 rfl rfl rfl ?_
                        refine pv_iconst (M := mX12_laysFollows) (v := (-1)) dX12_laysFollows_95 96 rfl (by decide) ?_
                        refine pv_callv (M := mX12_laysFollows) (as := [.int (-1)]) (st := [.int v348, .ref 167]) (kc2 := 0) (ks2 := 0) dX12_laysFollows_96 wd1696 YX12_comesWithout ⟨wd1698, wd108⟩ (mk_get (tl123 hT)) rfl rfl (s_X12_comesWithout g hT I345 (-1)) rfl rfl (Nat.le_of_ble_eq_true rfl) (by decide) rfl rfl 99 rfl (fun rv h1 q364 => ?_)
                        obtain ⟨v365, rfl, rfl, pv365, qv365, rv365⟩ := q364
                        show PV _ _ _ _ _ _ _ 99 [.ref 123, .int x0, .int y1, .int y275] [.int v365, .int v348, .ref 167] _
                        refine pv_if_eq (M := mX12_laysFollows) (tgt := 106) dX12_laysFollows_99 102 rfl (by decide) (fun c366 => ?_) (fun c366 => ?_)
                        · have c366 := iv_eq (X := v365.toInt) (Y := 0) c366 rfl (by decide)
                          refine pv_iconst (M := mX12_laysFollows) (v := 0) dX12_laysFollows_106 107 rfl (by decide) ?_
                          refine iv_zast (M := mX12_laysFollows) (X := v348.toInt) dX12_laysFollows_107 (tl167 hT) rfl (by omega) (by omega) I345 (fun _ => rfl) (y := 0) (by decide) (by decide) (by decide) 108 rfl (fun m367 e370 I368 => ?_)
                          have K369 := K346.set e370 rfl
                          refine iv_inc (M := mX12_laysFollows) (C := 1) dX12_laysFollows_108 111 rfl rfl (by decide) rfl rfl (by decide) (by omega) (by omega) (fun v371 ev371 => ?_)
                          show PV _ _ _ _ _ _ _ 111 [.ref 123, .int x0, .int y1, .int v371] [] _
                          refine pv_goto (M := mX12_laysFollows) (tgt := 38) dX12_laysFollows_111 (by decide) ?_
                          exact ih282 v371 m367 n344 (by first | omega | decide) (by first | omega | decide) I368 K369 (by omega)
                        · have c366 := iv_ne (X := v365.toInt) (Y := 0) c366 rfl (by decide)
                          refine pv_iconst (M := mX12_laysFollows) (v := 1) dX12_laysFollows_102 103 rfl (by decide) ?_
                          refine pv_goto (M := mX12_laysFollows) (tgt := 107) dX12_laysFollows_103 (by decide) ?_
                          refine iv_zast (M := mX12_laysFollows) (X := v348.toInt) dX12_laysFollows_107 (tl167 hT) rfl (by omega) (by omega) I345 (fun _ => rfl) (y := 1) (by decide) (by decide) (by decide) 108 rfl (fun m372 e375 I373 => ?_)
                          have K374 := K346.set e375 rfl
                          refine iv_inc (M := mX12_laysFollows) (C := 1) dX12_laysFollows_108 111 rfl rfl (by decide) rfl rfl (by decide) (by omega) (by omega) (fun v376 ev376 => ?_)
                          show PV _ _ _ _ _ _ _ 111 [.ref 123, .int x0, .int y1, .int v376] [] _
                          refine pv_goto (M := mX12_laysFollows) (tgt := 38) dX12_laysFollows_111 (by decide) ?_
                          exact ih282 v376 m372 n344 (by first | omega | decide) (by first | omega | decide) I373 K374 (by omega)
                      · have c363 := iv_ne (X := y1.toInt) (Y := 8) c363 rfl (by decide)
                        refine pv_aload_n (M := mX12_laysFollows) 0 dX12_laysFollows_86 87 rfl rfl rfl ?_
                        refine pv_iload_n (M := mX12_laysFollows) 2 dX12_laysFollows_87 88 rfl rfl rfl ?_
                        refine pv_callv (M := mX12_laysFollows) (as := [.int y1]) (st := [.int v348, .ref 167]) (kc2 := 0) (ks2 := 0) dX12_laysFollows_88 wd1558 YX12_isDeed ⟨wd1560, wd87⟩ (mk_get (tl123 hT)) rfl rfl (s_X12_isDeed g hT I345 y1) rfl rfl (Nat.le_of_ble_eq_true rfl) (by decide) rfl rfl 91 rfl (fun rv h1 q377 => ?_)
                        obtain ⟨v378, rfl, rfl, pv378, qv378, rv378⟩ := q377
                        show PV _ _ _ _ _ _ _ 91 [.ref 123, .int x0, .int y1, .int y275] [.int v378, .int v348, .ref 167] _
                        refine pv_if_eq (M := mX12_laysFollows) (tgt := 106) dX12_laysFollows_91 94 rfl (by decide) (fun c379 => ?_) (fun c379 => ?_)
                        · have c379 := iv_eq (X := v378.toInt) (Y := 0) c379 rfl (by decide)
                          refine pv_iconst (M := mX12_laysFollows) (v := 0) dX12_laysFollows_106 107 rfl (by decide) ?_
                          refine iv_zast (M := mX12_laysFollows) (X := v348.toInt) dX12_laysFollows_107 (tl167 hT) rfl (by omega) (by omega) I345 (fun _ => rfl) (y := 0) (by decide) (by decide) (by decide) 108 rfl (fun m380 e383 I381 => ?_)
                          have K382 := K346.set e383 rfl
                          refine iv_inc (M := mX12_laysFollows) (C := 1) dX12_laysFollows_108 111 rfl rfl (by decide) rfl rfl (by decide) (by omega) (by omega) (fun v384 ev384 => ?_)
                          show PV _ _ _ _ _ _ _ 111 [.ref 123, .int x0, .int y1, .int v384] [] _
                          refine pv_goto (M := mX12_laysFollows) (tgt := 38) dX12_laysFollows_111 (by decide) ?_
                          exact ih282 v384 m380 n344 (by first | omega | decide) (by first | omega | decide) I381 K382 (by omega)
                        · have pc379 := rv378.resolve_left c379
                          have c379 := iv_ne (X := v378.toInt) (Y := 0) c379 rfl (by decide)
                          refine pv_aload_n (M := mX12_laysFollows) 0 dX12_laysFollows_94 95 rfl rfl rfl ?_
                          refine pv_iconst (M := mX12_laysFollows) (v := (-1)) dX12_laysFollows_95 96 rfl (by decide) ?_
                          refine pv_callv (M := mX12_laysFollows) (as := [.int (-1)]) (st := [.int v348, .ref 167]) (kc2 := 0) (ks2 := 0) dX12_laysFollows_96 wd1696 YX12_comesWithout ⟨wd1698, wd108⟩ (mk_get (tl123 hT)) rfl rfl (s_X12_comesWithout g hT I345 (-1)) rfl rfl (Nat.le_of_ble_eq_true rfl) (by decide) rfl rfl 99 rfl (fun rv h1 q385 => ?_)
                          obtain ⟨v386, rfl, rfl, pv386, qv386, rv386⟩ := q385
                          show PV _ _ _ _ _ _ _ 99 [.ref 123, .int x0, .int y1, .int y275] [.int v386, .int v348, .ref 167] _
                          refine pv_if_eq (M := mX12_laysFollows) (tgt := 106) dX12_laysFollows_99 102 rfl (by decide) (fun c387 => ?_) (fun c387 => ?_)
                          · have c387 := iv_eq (X := v386.toInt) (Y := 0) c387 rfl (by decide)
                            refine pv_iconst (M := mX12_laysFollows) (v := 0) dX12_laysFollows_106 107 rfl (by decide) ?_
                            refine iv_zast (M := mX12_laysFollows) (X := v348.toInt) dX12_laysFollows_107 (tl167 hT) rfl (by omega) (by omega) I345 (fun _ => rfl) (y := 0) (by decide) (by decide) (by decide) 108 rfl (fun m388 e391 I389 => ?_)
                            have K390 := K346.set e391 rfl
                            refine iv_inc (M := mX12_laysFollows) (C := 1) dX12_laysFollows_108 111 rfl rfl (by decide) rfl rfl (by decide) (by omega) (by omega) (fun v392 ev392 => ?_)
                            show PV _ _ _ _ _ _ _ 111 [.ref 123, .int x0, .int y1, .int v392] [] _
                            refine pv_goto (M := mX12_laysFollows) (tgt := 38) dX12_laysFollows_111 (by decide) ?_
                            exact ih282 v392 m388 n344 (by first | omega | decide) (by first | omega | decide) I389 K390 (by omega)
                          · have c387 := iv_ne (X := v386.toInt) (Y := 0) c387 rfl (by decide)
                            refine pv_iconst (M := mX12_laysFollows) (v := 1) dX12_laysFollows_102 103 rfl (by decide) ?_
                            refine pv_goto (M := mX12_laysFollows) (tgt := 107) dX12_laysFollows_103 (by decide) ?_
                            refine iv_zast (M := mX12_laysFollows) (X := v348.toInt) dX12_laysFollows_107 (tl167 hT) rfl (by omega) (by omega) I345 (fun _ => rfl) (y := 1) (by decide) (by decide) (by decide) 108 rfl (fun m393 e396 I394 => ?_)
                            have K395 := K346.set e396 rfl
                            refine iv_inc (M := mX12_laysFollows) (C := 1) dX12_laysFollows_108 111 rfl rfl (by decide) rfl rfl (by decide) (by omega) (by omega) (fun v397 ev397 => ?_)
                            show PV _ _ _ _ _ _ _ 111 [.ref 123, .int x0, .int y1, .int v397] [] _
                            refine pv_goto (M := mX12_laysFollows) (tgt := 38) dX12_laysFollows_111 (by decide) ?_
                            exact ih282 v397 m393 n344 (by first | omega | decide) (by first | omega | decide) I394 K395 (by omega)
          have z398 : (0 : Int32).toInt = 0 := by decide
          exact lp281 (((8 - 0) : Int).toNat + 1) 0 m271 n272 (by first | omega | decide) (by first | omega | decide) I273 K274 (by omega)
  have z399 : (0 : Int32).toInt = 0 := by decide
  exact lp7 (((9 - 0) : Int).toNat + 1) 0 m n (by first | omega | decide) (by first | omega | decide) I Kp (by omega)

set_option maxHeartbeats 1000000 in
set_option maxRecDepth 20000 in
theorem s_X12_worth (g : pv_G) {T : List mv_T} {m : Nat → Nat → Int32} {n : Nat → Nat → Int64} {r : Nat → Value} (hT : TX T) (I : IV BB m) (x0 : Int32) (x1 : Int32) (x2 : Int32) : PM g mX12_worth yX12_worth (sqI T BB r m (-2147483648) 2147483647 (fun v => True)) 4 0 0 [.ref 123, .int x0, .int x1, .int x2] (mk T m n r) := by
  have Kp : kp m m := kp.rf
  refine PM.of 2 (lo := [.ref 123, .int x0, .int x1, .int x2, pv_U, pv_U]) rfl (by decide) rfl rfl (Nat.le_of_ble_eq_true rfl) ?_
  refine pv_aload_n (M := mX12_worth) 0 dX12_worth_0 1 rfl rfl rfl ?_
  refine pv_iload_n (M := mX12_worth) 1 dX12_worth_1 2 rfl rfl rfl ?_
  refine pv_callv (M := mX12_worth) (as := [.int x0]) (st := []) (kc2 := 0) (ks2 := 0) dX12_worth_2 wd1389 YX12_isBlank ⟨wd1391, wd55⟩ (mk_get (tl123 hT)) rfl rfl (s_X12_isBlank g hT I x0) rfl rfl (Nat.le_of_ble_eq_true rfl) (by decide) rfl rfl 5 rfl (fun rv h1 q1 => ?_)
  obtain ⟨v2, rfl, rfl, pv2, qv2, rv2⟩ := q1
  show PV _ _ _ _ _ _ _ 5 [.ref 123, .int x0, .int x1, .int x2, pv_U, pv_U] [.int v2] _
  refine pv_if_eq (M := mX12_worth) (tgt := 29) dX12_worth_5 8 rfl (by decide) (fun c3 => ?_) (fun c3 => ?_)
  · have c3 := iv_eq (X := v2.toInt) (Y := 0) c3 rfl (by decide)
    refine pv_sipush (M := mX12_worth) (v := (-1000)) dX12_worth_29 32 rfl (by decide) ?_
    exact pv_iret (M := mX12_worth) dX12_worth_32 rfl rfl ⟨_, _, _, rfl, rfl, I, Kp, by decide, by decide, trivial⟩
  · have pc3 := rv2.resolve_left c3
    have c3 := iv_ne (X := v2.toInt) (Y := 0) c3 rfl (by decide)
    refine pv_aload_n (M := mX12_worth) 0 dX12_worth_8 9 rfl rfl rfl ?_
    refine pv_iload_n (M := mX12_worth) 2 dX12_worth_9 10 rfl rfl rfl ?_
    refine pv_callv (M := mX12_worth) (as := [.int x1]) (st := []) (kc2 := 0) (ks2 := 0) dX12_worth_10 wd1704 YX12_areSet ⟨wd1706, wd109⟩ (mk_get (tl123 hT)) rfl rfl (s_X12_areSet g hT I x1) rfl rfl (Nat.le_of_ble_eq_true rfl) (by decide) rfl rfl 13 rfl (fun rv h1 q4 => ?_)
    obtain ⟨v5, rfl, rfl, pv5, qv5, rv5⟩ := q4
    show PV _ _ _ _ _ _ _ 13 [.ref 123, .int x0, .int x1, .int x2, pv_U, pv_U] [.int v5] _
    refine pv_if_eq (M := mX12_worth) (tgt := 29) dX12_worth_13 16 rfl (by decide) (fun c6 => ?_) (fun c6 => ?_)
    · have c6 := iv_eq (X := v5.toInt) (Y := 0) c6 rfl (by decide)
      refine pv_sipush (M := mX12_worth) (v := (-1000)) dX12_worth_29 32 rfl (by decide) ?_
      exact pv_iret (M := mX12_worth) dX12_worth_32 rfl rfl ⟨_, _, _, rfl, rfl, I, Kp, by decide, by decide, trivial⟩
    · have pc6 := rv5.resolve_left c6
      have c6 := iv_ne (X := v5.toInt) (Y := 0) c6 rfl (by decide)
      refine pv_iload_n (M := mX12_worth) 2 dX12_worth_16 17 rfl rfl rfl ?_
      refine pv_if_eq (M := mX12_worth) (tgt := 29) dX12_worth_17 20 rfl (by decide) (fun c7 => ?_) (fun c7 => ?_)
      · have c7 := iv_eq (X := x1.toInt) (Y := 0) c7 rfl (by decide)
        refine pv_sipush (M := mX12_worth) (v := (-1000)) dX12_worth_29 32 rfl (by decide) ?_
        exact pv_iret (M := mX12_worth) dX12_worth_32 rfl rfl ⟨_, _, _, rfl, rfl, I, Kp, by decide, by decide, trivial⟩
      · have c7 := iv_ne (X := x1.toInt) (Y := 0) c7 rfl (by decide)
        refine pv_iload_n (M := mX12_worth) 3 dX12_worth_20 21 rfl rfl rfl ?_
        refine pv_iconst (M := mX12_worth) (v := 0) dX12_worth_21 22 rfl (by decide) ?_
        refine pv_iconst (M := mX12_worth) (v := 1) dX12_worth_22 23 rfl (by decide) ?_
        have z9 : (0 : Int32).toInt = 0 := by decide
        have z10 : (1 : Int32).toInt = 1 := by decide
        refine pv_calls (M := mX12_worth) (as := [.int x2, .int 0, .int 1]) (st := []) (kc2 := 0) (ks2 := 0) dX12_worth_23 wd1370 YX12_in wd1371 (s_X12_in g hT I x2 0 1) rfl rfl (Nat.le_of_ble_eq_true rfl) (by decide) rfl rfl 26 rfl (fun rv h1 q8 => ?_)
        obtain ⟨v11, rfl, rfl, pv11, qv11, rv11⟩ := q8
        show PV _ _ _ _ _ _ _ 26 [.ref 123, .int x0, .int x1, .int x2, pv_U, pv_U] [.int v11] _
        refine pv_if_ne (M := mX12_worth) (tgt := 33) dX12_worth_26 29 rfl (by decide) (fun c12 => ?_) (fun c12 => ?_)
        · have pc12 := rv11.resolve_left c12
          have c12 := iv_ne (X := v11.toInt) (Y := 0) c12 rfl (by decide)
          refine pv_aload_n (M := mX12_worth) 0 dX12_worth_33 34 rfl rfl rfl ?_
          refine pv_iload_n (M := mX12_worth) 2 dX12_worth_34 35 rfl rfl rfl ?_
          refine pv_callv (M := mX12_worth) (as := [.int x1]) (st := []) (kc2 := 0) (ks2 := 0) dX12_worth_35 wd1716 YX12_laysEnd ⟨wd1718, wd111⟩ (mk_get (tl123 hT)) rfl rfl (s_X12_laysEnd g hT I x1 (by omega) (by omega)) rfl rfl (Nat.le_of_ble_eq_true rfl) (by decide) rfl rfl 38 rfl (fun rv h1 q13 => ?_)
          obtain ⟨m14, n15, rfl, rfl, I16, K17⟩ := q13
          have K17 := Kp.trans K17
          show PV _ _ _ _ _ _ _ 38 [.ref 123, .int x0, .int x1, .int x2, pv_U, pv_U] [] _
          refine pv_aload_n (M := mX12_worth) 0 dX12_worth_38 39 rfl rfl rfl ?_
          refine mv_get (M := mX12_worth) (v := .ref 166) dX12_worth_39 FX12 60 wd1233 (by decide) (tl123 hT) rfl rfl 42 rfl ?_
          refine pv_iconst (M := mX12_worth) (v := 0) dX12_worth_42 43 rfl (by decide) ?_
          refine iv_iald (M := mX12_worth) (X := 0) dX12_worth_43 (tl166 hT) (by decide) (by omega) (by omega) I16 (fun _ => rfl) 44 rfl (fun v18 ev18 pv18 qv18 => ?_)
          have pv18 : -2147483648 ≤ v18.toInt := pv18
          have qv18 : v18.toInt ≤ 2147483647 := qv18
          refine pv_istore (M := mX12_worth) (lo2 := [.ref 123, .int x0, .int x1, .int x2, .int v18, pv_U]) dX12_worth_44 46 rfl (by decide) rfl rfl ?_
          refine pv_aload_n (M := mX12_worth) 0 dX12_worth_46 47 rfl rfl rfl ?_
          refine mv_get (M := mX12_worth) (v := .ref 166) dX12_worth_47 FX12 60 wd1233 (by decide) (tl123 hT) rfl rfl 50 rfl ?_
          refine pv_iconst (M := mX12_worth) (v := 1) dX12_worth_50 51 rfl (by decide) ?_
          refine pv_iload_n (M := mX12_worth) 1 dX12_worth_51 52 rfl rfl rfl ?_
          refine pv_ishl (M := mX12_worth) (v := (1 <<< (x0 &&& 31) : Int32)) dX12_worth_52 53 rfl rfl ?_
          obtain ⟨v19, ev19⟩ : ∃ z : Int32, z = 1 <<< (x0 &&& 31) := ⟨_, rfl⟩
          rw [← ev19]
          have pv19 : 0 ≤ v19.toInt ∧ v19.toInt < 256 := by rw [ev19]; exact iv_sh1 (by omega) (by omega)
          refine iv_iald (M := mX12_worth) (X := v19.toInt) dX12_worth_53 (tl166 hT) rfl (by omega) (by omega) I16 (fun _ => rfl) 54 rfl (fun v20 ev20 pv20 qv20 => ?_)
          have pv20 : -2147483648 ≤ v20.toInt := pv20
          have qv20 : v20.toInt ≤ 2147483647 := qv20
          refine pv_istore (M := mX12_worth) (lo2 := [.ref 123, .int x0, .int x1, .int x2, .int v18, .int v20]) dX12_worth_54 56 rfl (by decide) rfl rfl ?_
          refine pv_iload_n (M := mX12_worth) 3 dX12_worth_56 57 rfl rfl rfl ?_
          refine pv_if_ne (M := mX12_worth) (tgt := 76) dX12_worth_57 60 rfl (by decide) (fun c21 => ?_) (fun c21 => ?_)
          · have c21 := iv_ne (X := x2.toInt) (Y := 0) c21 rfl (by decide)
            refine pv_aload_n (M := mX12_worth) 0 dX12_worth_76 77 rfl rfl rfl ?_
            refine pv_iload (M := mX12_worth) dX12_worth_77 79 rfl rfl ?_
            refine pv_callv (M := mX12_worth) (as := [.int v20]) (st := []) (kc2 := 0) (ks2 := 0) dX12_worth_79 wd1733 YX12_lostOf ⟨wd1735, wd115⟩ (mk_get (tl123 hT)) rfl rfl (s_X12_lostOf g hT I16 v20) rfl rfl (Nat.le_of_ble_eq_true rfl) (by decide) rfl rfl 82 rfl (fun rv h1 q22 => ?_)
            obtain ⟨v23, rfl, rfl, pv23, qv23, rv23⟩ := q22
            show PV _ _ _ _ _ _ _ 82 [.ref 123, .int x0, .int x1, .int x2, .int v18, .int v20] [.int v23] _
            refine pv_aload_n (M := mX12_worth) 0 dX12_worth_82 83 rfl rfl rfl ?_
            refine pv_iload (M := mX12_worth) dX12_worth_83 85 rfl rfl ?_
            refine pv_callv (M := mX12_worth) (as := [.int v18]) (st := [.int v23]) (kc2 := 0) (ks2 := 0) dX12_worth_85 wd1733 YX12_lostOf ⟨wd1735, wd115⟩ (mk_get (tl123 hT)) rfl rfl (s_X12_lostOf g hT I16 v18) rfl rfl (Nat.le_of_ble_eq_true rfl) (by decide) rfl rfl 88 rfl (fun rv h1 q24 => ?_)
            obtain ⟨v25, rfl, rfl, pv25, qv25, rv25⟩ := q24
            show PV _ _ _ _ _ _ _ 88 [.ref 123, .int x0, .int x1, .int x2, .int v18, .int v20] [.int v25, .int v23] _
            refine pv_isub (M := mX12_worth) (v := (v23 - v25 : Int32)) dX12_worth_88 89 rfl rfl ?_
            obtain ⟨v26, ev26⟩ : ∃ z : Int32, z = v23 - v25 := ⟨_, rfl⟩
            rw [← ev26]
            exact pv_iret (M := mX12_worth) dX12_worth_89 rfl rfl ⟨_, _, _, rfl, rfl, I16, K17, (iv_rng v26).1, (iv_rng v26).2, trivial⟩
          · have c21 := iv_eq (X := x2.toInt) (Y := 0) c21 rfl (by decide)
            refine pv_aload_n (M := mX12_worth) 0 dX12_worth_60 61 rfl rfl rfl ?_
            refine pv_iload (M := mX12_worth) dX12_worth_61 63 rfl rfl ?_
            refine pv_callv (M := mX12_worth) (as := [.int v18]) (st := []) (kc2 := 0) (ks2 := 0) dX12_worth_63 wd1729 YX12_manyOf ⟨wd1731, wd114⟩ (mk_get (tl123 hT)) rfl rfl (s_X12_manyOf g hT I16 v18) rfl rfl (Nat.le_of_ble_eq_true rfl) (by decide) rfl rfl 66 rfl (fun rv h1 q27 => ?_)
            obtain ⟨v28, rfl, rfl, pv28, qv28, rv28⟩ := q27
            show PV _ _ _ _ _ _ _ 66 [.ref 123, .int x0, .int x1, .int x2, .int v18, .int v20] [.int v28] _
            refine pv_aload_n (M := mX12_worth) 0 dX12_worth_66 67 rfl rfl rfl ?_
            refine pv_iload (M := mX12_worth) dX12_worth_67 69 rfl rfl ?_
            refine pv_callv (M := mX12_worth) (as := [.int v20]) (st := [.int v28]) (kc2 := 0) (ks2 := 0) dX12_worth_69 wd1729 YX12_manyOf ⟨wd1731, wd114⟩ (mk_get (tl123 hT)) rfl rfl (s_X12_manyOf g hT I16 v20) rfl rfl (Nat.le_of_ble_eq_true rfl) (by decide) rfl rfl 72 rfl (fun rv h1 q29 => ?_)
            obtain ⟨v30, rfl, rfl, pv30, qv30, rv30⟩ := q29
            show PV _ _ _ _ _ _ _ 72 [.ref 123, .int x0, .int x1, .int x2, .int v18, .int v20] [.int v30, .int v28] _
            refine pv_isub (M := mX12_worth) (v := (v28 - v30 : Int32)) dX12_worth_72 73 rfl rfl ?_
            obtain ⟨v31, ev31⟩ : ∃ z : Int32, z = v28 - v30 := ⟨_, rfl⟩
            rw [← ev31]
            refine pv_goto (M := mX12_worth) (tgt := 89) dX12_worth_73 (by decide) ?_
            exact pv_iret (M := mX12_worth) dX12_worth_89 rfl rfl ⟨_, _, _, rfl, rfl, I16, K17, (iv_rng v31).1, (iv_rng v31).2, trivial⟩
        · have c12 := iv_eq (X := v11.toInt) (Y := 0) c12 rfl (by decide)
          refine pv_sipush (M := mX12_worth) (v := (-1000)) dX12_worth_29 32 rfl (by decide) ?_
          exact pv_iret (M := mX12_worth) dX12_worth_32 rfl rfl ⟨_, _, _, rfl, rfl, I, Kp, by decide, by decide, trivial⟩

set_option maxHeartbeats 1000000 in
set_option maxRecDepth 20000 in
theorem s_X12_parentOf (g : pv_G) {T : List mv_T} {m : Nat → Nat → Int32} {n : Nat → Nat → Int64} {r : Nat → Value} (hT : TX T) (I : IV BB m) (x0 : Int32) (hl0 : 0 ≤ x0.toInt) (hh0 : x0.toInt ≤ 7) (x1 : Int32) (hl1 : 0 ≤ x1.toInt) (hh1 : x1.toInt ≤ 255) (x2 : Int32) (hl2 : 1 ≤ x2.toInt) (hh2 : x2.toInt ≤ 9) (x3 : Int32) (hl3 : 0 ≤ x3.toInt) (hh3 : x3.toInt ≤ 7) : PM g mX12_parentOf yX12_parentOf (sqI T BB r m 0 8 (fun v => True)) 3 0 0 [.ref 123, .int x0, .int x1, .int x2, .int x3] (mk T m n r) := by
  have Kp : kp m m := kp.rf
  refine PM.of 3 (lo := [.ref 123, .int x0, .int x1, .int x2, .int x3, pv_U, pv_U, pv_U]) rfl (by decide) rfl rfl (Nat.le_of_ble_eq_true rfl) ?_
  refine pv_aload_n (M := mX12_parentOf) 0 dX12_parentOf_0 1 rfl rfl rfl ?_
  refine pv_iload (M := mX12_parentOf) dX12_parentOf_1 3 rfl rfl ?_
  refine pv_callv (M := mX12_parentOf) (as := [.int x3]) (st := []) (kc2 := 0) (ks2 := 0) dX12_parentOf_3 wd1567 YX12_laysDeed ⟨wd1569, wd89⟩ (mk_get (tl123 hT)) rfl rfl (s_X12_laysDeed g hT I x3 (by omega) (by omega)) rfl rfl (Nat.le_of_ble_eq_true rfl) (by decide) rfl rfl 6 rfl (fun rv h1 q1 => ?_)
  obtain ⟨m2, n3, rfl, rfl, I4, K5⟩ := q1
  have K5 := Kp.trans K5
  show PV _ _ _ _ _ _ _ 6 [.ref 123, .int x0, .int x1, .int x2, .int x3, pv_U, pv_U, pv_U] [] _
  refine pv_aload_n (M := mX12_parentOf) 0 dX12_parentOf_6 7 rfl rfl rfl ?_
  refine pv_iload_n (M := mX12_parentOf) 1 dX12_parentOf_7 8 rfl rfl rfl ?_
  refine pv_iconst (M := mX12_parentOf) (v := 1) dX12_parentOf_8 9 rfl (by decide) ?_
  refine pv_callv (M := mX12_parentOf) (as := [.int x0, .int 1]) (st := []) (kc2 := 0) (ks2 := 0) dX12_parentOf_9 wd1563 YX12_laysBlank ⟨wd1565, wd88⟩ (mk_get (tl123 hT)) rfl rfl (s_X12_laysBlank g hT I4 x0 (by omega) (by omega) 1 (by decide) (by decide)) rfl rfl (Nat.le_of_ble_eq_true rfl) (by decide) rfl rfl 12 rfl (fun rv h1 q6 => ?_)
  obtain ⟨m7, n8, rfl, rfl, I9, K10⟩ := q6
  have K10 := K5.trans K10
  show PV _ _ _ _ _ _ _ 12 [.ref 123, .int x0, .int x1, .int x2, .int x3, pv_U, pv_U, pv_U] [] _
  refine pv_bipush (M := mX12_parentOf) (v := 8) dX12_parentOf_12 14 rfl (by decide) ?_
  refine pv_istore (M := mX12_parentOf) (lo2 := [.ref 123, .int x0, .int x1, .int x2, .int x3, .int 8, pv_U, pv_U]) dX12_parentOf_14 16 rfl (by decide) rfl rfl ?_
  refine pv_aload_n (M := mX12_parentOf) 0 dX12_parentOf_16 17 rfl rfl rfl ?_
  refine pv_aload_n (M := mX12_parentOf) 0 dX12_parentOf_17 18 rfl rfl rfl ?_
  refine pv_iload_n (M := mX12_parentOf) 3 dX12_parentOf_18 19 rfl rfl rfl ?_
  refine pv_callv (M := mX12_parentOf) (as := [.int x2]) (st := [.ref 123]) (kc2 := 0) (ks2 := 0) dX12_parentOf_19 wd1607 YX12_fewestStrokes ⟨wd1609, wd95⟩ (mk_get (tl123 hT)) rfl rfl (s_X12_fewestStrokes g hT I9 x2 (by omega) (by omega)) rfl rfl (Nat.le_of_ble_eq_true rfl) (by decide) rfl rfl 22 rfl (fun rv h1 q11 => ?_)
  obtain ⟨m12, n13, v16, rfl, rfl, I14, K15, pv16, qv16, rv16⟩ := q11
  have K15 := K10.trans K15
  show PV _ _ _ _ _ _ _ 22 [.ref 123, .int x0, .int x1, .int x2, .int x3, .int 8, pv_U, pv_U] [.int v16, .ref 123] _
  refine iv_put (M := mX12_parentOf) dX12_parentOf_22 FX12 61 wd1234 (by decide) rfl (tl123 hT) rfl rfl rfl I14 rfl (iv_rng v16).1 (iv_rng v16).2 25 rfl (fun m17 e20 I18 => ?_)
  have K19 := K15.set e20 rfl
  refine pv_iconst (M := mX12_parentOf) (v := 0) dX12_parentOf_25 26 rfl (by decide) ?_
  refine pv_istore (M := mX12_parentOf) (lo2 := [.ref 123, .int x0, .int x1, .int x2, .int x3, .int 8, .int 0, pv_U]) dX12_parentOf_26 28 rfl (by decide) rfl rfl ?_
  have lp28 : ∀ (fuel27 : Nat) (y21 : Int32) (y22 : Int32) (m23 : Nat → Nat → Int32) (n24 : Nat → Nat → Int64), (0 ≤ y21.toInt) → (y21.toInt ≤ 8) → (0 ≤ y22.toInt) → (y22.toInt ≤ 8) → IV BB m23 → kp m m23 → ((8 - y22.toInt) : Int).toNat < fuel27 → PV none g mX12_parentOf (sqI T BB r m 0 8 (fun v => True)) 3 0 0 28 [.ref 123, .int x0, .int x1, .int x2, .int x3, .int y21, .int y22, pv_U] [] (mk T m23 n24 r) := by
    intro fuel27
    induction fuel27 with
    | zero => intro y21 y22 m23 n24 b30 b31 b32 b33 I25 K26 z34; omega
    | succ fuel27 ih29 =>
      intro y21 y22 m23 n24 b30 b31 b32 b33 I25 K26 z34
      refine pv_iload (M := mX12_parentOf) dX12_parentOf_28 30 rfl rfl ?_
      refine pv_bipush (M := mX12_parentOf) (v := 8) dX12_parentOf_30 32 rfl (by decide) ?_
      refine pv_icmp_ge (M := mX12_parentOf) (tgt := 136) dX12_parentOf_32 35 rfl (by decide) (fun c35 => ?_) (fun c35 => ?_)
      · have c35 := iv_le (X := 8) (Y := y22.toInt) c35 (by decide) rfl
        refine pv_iload (M := mX12_parentOf) dX12_parentOf_136 138 rfl rfl ?_
        exact pv_iret (M := mX12_parentOf) dX12_parentOf_138 rfl rfl ⟨_, _, _, rfl, rfl, I25, K26, by omega, by omega, trivial⟩
      · have c35 := iv_nle (X := 8) (Y := y22.toInt) c35 (by decide) rfl
        refine pv_iload_n (M := mX12_parentOf) 2 dX12_parentOf_35 36 rfl rfl rfl ?_
        refine pv_iload (M := mX12_parentOf) dX12_parentOf_36 38 rfl rfl ?_
        refine pv_ishr (M := mX12_parentOf) (v := (x1 >>> (y22 &&& 31) : Int32)) dX12_parentOf_38 39 rfl rfl ?_
        obtain ⟨v36, ev36⟩ : ∃ z : Int32, z = x1 >>> (y22 &&& 31) := ⟨_, rfl⟩
        rw [← ev36]
        refine pv_iconst (M := mX12_parentOf) (v := 1) dX12_parentOf_39 40 rfl (by decide) ?_
        refine iv_iandm (M := mX12_parentOf) dX12_parentOf_40 41 rfl 1 (by decide) (by decide) (fun v37 ev37 pv37 qv37 => ?_)
        have qv37 : v37.toInt < 2 := qv37
        refine pv_if_eq (M := mX12_parentOf) (tgt := 130) dX12_parentOf_41 44 rfl (by decide) (fun c38 => ?_) (fun c38 => ?_)
        · have c38 := iv_eq (X := v37.toInt) (Y := 0) c38 rfl (by decide)
          refine iv_inc (M := mX12_parentOf) (C := 1) dX12_parentOf_130 133 rfl rfl (by decide) rfl rfl (by decide) (by omega) (by omega) (fun v39 ev39 => ?_)
          show PV _ _ _ _ _ _ _ 133 [.ref 123, .int x0, .int x1, .int x2, .int x3, .int y21, .int v39, pv_U] [] _
          refine pv_goto (M := mX12_parentOf) (tgt := 28) dX12_parentOf_133 (by decide) ?_
          exact ih29 y21 v39 m23 n24 (by first | omega | decide) (by first | omega | decide) (by first | omega | decide) (by first | omega | decide) I25 K26 (by omega)
        · have c38 := iv_ne (X := v37.toInt) (Y := 0) c38 rfl (by decide)
          refine pv_iload (M := mX12_parentOf) dX12_parentOf_44 46 rfl rfl ?_
          refine pv_iload (M := mX12_parentOf) dX12_parentOf_46 48 rfl rfl ?_
          refine pv_icmp_eq (M := mX12_parentOf) (tgt := 130) dX12_parentOf_48 51 rfl (by decide) (fun c40 => ?_) (fun c40 => ?_)
          · have c40 := iv_eq (X := y22.toInt) (Y := x3.toInt) c40 rfl rfl
            refine iv_inc (M := mX12_parentOf) (C := 1) dX12_parentOf_130 133 rfl rfl (by decide) rfl rfl (by decide) (by omega) (by omega) (fun v41 ev41 => ?_)
            show PV _ _ _ _ _ _ _ 133 [.ref 123, .int x0, .int x1, .int x2, .int x3, .int y21, .int v41, pv_U] [] _
            refine pv_goto (M := mX12_parentOf) (tgt := 28) dX12_parentOf_133 (by decide) ?_
            exact ih29 y21 v41 m23 n24 (by first | omega | decide) (by first | omega | decide) (by first | omega | decide) (by first | omega | decide) I25 K26 (by omega)
          · have c40 := iv_ne (X := y22.toInt) (Y := x3.toInt) c40 rfl rfl
            refine pv_aload_n (M := mX12_parentOf) 0 dX12_parentOf_51 52 rfl rfl rfl ?_
            refine mv_get (M := mX12_parentOf) (v := .ref 126) dX12_parentOf_52 FX12 7 wd1180 (by decide) (tl123 hT) rfl rfl 55 rfl ?_
            refine pv_iload (M := mX12_parentOf) dX12_parentOf_55 57 rfl rfl ?_
            refine iv_iald (M := mX12_parentOf) (X := y22.toInt) dX12_parentOf_57 (tl126 hT) rfl (by omega) (by omega) I25 (fun _ => rfl) 58 rfl (fun v42 ev42 pv42 qv42 => ?_)
            have pv42 : 0 ≤ v42.toInt := pv42
            have qv42 : v42.toInt ≤ 16 := qv42
            refine pv_aload_n (M := mX12_parentOf) 0 dX12_parentOf_58 59 rfl rfl rfl ?_
            refine mv_get (M := mX12_parentOf) (v := .ref 126) dX12_parentOf_59 FX12 7 wd1180 (by decide) (tl123 hT) rfl rfl 62 rfl ?_
            refine pv_iload (M := mX12_parentOf) dX12_parentOf_62 64 rfl rfl ?_
            refine iv_iald (M := mX12_parentOf) (X := x3.toInt) dX12_parentOf_64 (tl126 hT) rfl (by omega) (by omega) I25 (fun _ => rfl) 65 rfl (fun v43 ev43 pv43 qv43 => ?_)
            have pv43 : 0 ≤ v43.toInt := pv43
            have qv43 : v43.toInt ≤ 16 := qv43
            refine pv_icmp_lt (M := mX12_parentOf) (tgt := 130) dX12_parentOf_65 68 rfl (by decide) (fun c44 => ?_) (fun c44 => ?_)
            · have c44 := iv_lt (X := v42.toInt) (Y := v43.toInt) c44 rfl rfl
              refine iv_inc (M := mX12_parentOf) (C := 1) dX12_parentOf_130 133 rfl rfl (by decide) rfl rfl (by decide) (by omega) (by omega) (fun v45 ev45 => ?_)
              show PV _ _ _ _ _ _ _ 133 [.ref 123, .int x0, .int x1, .int x2, .int x3, .int y21, .int v45, pv_U] [] _
              refine pv_goto (M := mX12_parentOf) (tgt := 28) dX12_parentOf_133 (by decide) ?_
              exact ih29 y21 v45 m23 n24 (by first | omega | decide) (by first | omega | decide) (by first | omega | decide) (by first | omega | decide) I25 K26 (by omega)
            · have c44 := iv_nlt (X := v42.toInt) (Y := v43.toInt) c44 rfl rfl
              refine pv_aload_n (M := mX12_parentOf) 0 dX12_parentOf_68 69 rfl rfl rfl ?_
              refine mv_get (M := mX12_parentOf) (v := .ref 126) dX12_parentOf_69 FX12 7 wd1180 (by decide) (tl123 hT) rfl rfl 72 rfl ?_
              refine pv_iload (M := mX12_parentOf) dX12_parentOf_72 74 rfl rfl ?_
              refine iv_iald (M := mX12_parentOf) (X := y22.toInt) dX12_parentOf_74 (tl126 hT) rfl (by omega) (by omega) I25 (fun _ => rfl) 75 rfl (fun v46 ev46 pv46 qv46 => ?_)
              have pv46 : 0 ≤ v46.toInt := pv46
              have qv46 : v46.toInt ≤ 16 := qv46
              refine pv_aload_n (M := mX12_parentOf) 0 dX12_parentOf_75 76 rfl rfl rfl ?_
              refine mv_get (M := mX12_parentOf) (v := .ref 126) dX12_parentOf_76 FX12 7 wd1180 (by decide) (tl123 hT) rfl rfl 79 rfl ?_
              refine pv_iload (M := mX12_parentOf) dX12_parentOf_79 81 rfl rfl ?_
              refine iv_iald (M := mX12_parentOf) (X := x3.toInt) dX12_parentOf_81 (tl126 hT) rfl (by omega) (by omega) I25 (fun _ => rfl) 82 rfl (fun v47 ev47 pv47 qv47 => ?_)
              have pv47 : 0 ≤ v47.toInt := pv47
              have qv47 : v47.toInt ≤ 16 := qv47
              refine pv_icmp_ne (M := mX12_parentOf) (tgt := 95) dX12_parentOf_82 85 rfl (by decide) (fun c48 => ?_) (fun c48 => ?_)
              · have c48 := iv_ne (X := v46.toInt) (Y := v47.toInt) c48 rfl rfl
                refine pv_aload_n (M := mX12_parentOf) 0 dX12_parentOf_95 96 rfl rfl rfl ?_
                refine pv_iload (M := mX12_parentOf) dX12_parentOf_96 98 rfl rfl ?_
                refine pv_callv (M := mX12_parentOf) (as := [.int y22]) (st := []) (kc2 := 0) (ks2 := 0) dX12_parentOf_98 wd1753 YX12_laysParent ⟨wd1755, wd118⟩ (mk_get (tl123 hT)) rfl rfl (s_X12_laysParent g hT I25 y22 (by omega) (by omega)) rfl rfl (Nat.le_of_ble_eq_true rfl) (by decide) rfl rfl 101 rfl (fun rv h1 q49 => ?_)
                obtain ⟨m50, n51, rfl, rfl, I52, K53⟩ := q49
                have K53 := K26.trans K53
                show PV _ _ _ _ _ _ _ 101 [.ref 123, .int x0, .int x1, .int x2, .int x3, .int y21, .int y22, pv_U] [] _
                refine pv_aload_n (M := mX12_parentOf) 0 dX12_parentOf_101 102 rfl rfl rfl ?_
                refine pv_iload_n (M := mX12_parentOf) 3 dX12_parentOf_102 103 rfl rfl rfl ?_
                refine pv_callv (M := mX12_parentOf) (as := [.int x2]) (st := []) (kc2 := 0) (ks2 := 0) dX12_parentOf_103 wd1607 YX12_fewestStrokes ⟨wd1609, wd95⟩ (mk_get (tl123 hT)) rfl rfl (s_X12_fewestStrokes g hT I52 x2 (by omega) (by omega)) rfl rfl (Nat.le_of_ble_eq_true rfl) (by decide) rfl rfl 106 rfl (fun rv h1 q54 => ?_)
                obtain ⟨m55, n56, v59, rfl, rfl, I57, K58, pv59, qv59, rv59⟩ := q54
                have K58 := K53.trans K58
                show PV _ _ _ _ _ _ _ 106 [.ref 123, .int x0, .int x1, .int x2, .int x3, .int y21, .int y22, pv_U] [.int v59] _
                refine pv_istore (M := mX12_parentOf) (lo2 := [.ref 123, .int x0, .int x1, .int x2, .int x3, .int y21, .int y22, .int v59]) dX12_parentOf_106 108 rfl (by decide) rfl rfl ?_
                refine pv_iload (M := mX12_parentOf) dX12_parentOf_108 110 rfl rfl ?_
                refine pv_aload_n (M := mX12_parentOf) 0 dX12_parentOf_110 111 rfl rfl rfl ?_
                refine iv_get (M := mX12_parentOf) dX12_parentOf_111 FX12 61 wd1234 (by decide) (tl123 hT) rfl I57 rfl 114 rfl (fun v60 ev60 pv60 qv60 => ?_)
                have pv60 : -2147483648 ≤ v60.toInt := pv60
                have qv60 : v60.toInt ≤ 2147483647 := qv60
                refine pv_icmp_lt (M := mX12_parentOf) (tgt := 120) dX12_parentOf_114 117 rfl (by decide) (fun c61 => ?_) (fun c61 => ?_)
                · have c61 := iv_lt (X := v59.toInt) (Y := v60.toInt) c61 rfl rfl
                  refine pv_aload_n (M := mX12_parentOf) 0 dX12_parentOf_120 121 rfl rfl rfl ?_
                  refine pv_iload (M := mX12_parentOf) dX12_parentOf_121 123 rfl rfl ?_
                  refine iv_put (M := mX12_parentOf) dX12_parentOf_123 FX12 61 wd1234 (by decide) rfl (tl123 hT) rfl rfl rfl I57 rfl (iv_rng v59).1 (iv_rng v59).2 126 rfl (fun m62 e65 I63 => ?_)
                  have K64 := K58.set e65 rfl
                  refine pv_iload (M := mX12_parentOf) dX12_parentOf_126 128 rfl rfl ?_
                  refine pv_istore (M := mX12_parentOf) (lo2 := [.ref 123, .int x0, .int x1, .int x2, .int x3, .int y22, .int y22, .int v59]) dX12_parentOf_128 130 rfl (by decide) rfl rfl ?_
                  refine iv_inc (M := mX12_parentOf) (C := 1) dX12_parentOf_130 133 rfl rfl (by decide) rfl rfl (by decide) (by omega) (by omega) (fun v66 ev66 => ?_)
                  show PV _ _ _ _ _ _ _ 133 [.ref 123, .int x0, .int x1, .int x2, .int x3, .int y22, .int v66, .int v59] [] _
                  refine pv_goto (M := mX12_parentOf) (tgt := 28) dX12_parentOf_133 (by decide) ?_
                  refine pv_fg (lo2 := [.ref 123, .int x0, .int x1, .int x2, .int x3, .int y22, .int v66, pv_U]) ⟨Or.inr rfl, ⟨Or.inr rfl, ⟨Or.inr rfl, ⟨Or.inr rfl, ⟨Or.inr rfl, ⟨Or.inr rfl, ⟨Or.inr rfl, ⟨Or.inl rfl, trivial⟩⟩⟩⟩⟩⟩⟩⟩ ?_
                  exact ih29 y22 v66 m62 n56 (by first | omega | decide) (by first | omega | decide) (by first | omega | decide) (by first | omega | decide) I63 K64 (by omega)
                · have c61 := iv_nlt (X := v59.toInt) (Y := v60.toInt) c61 rfl rfl
                  refine pv_goto (M := mX12_parentOf) (tgt := 130) dX12_parentOf_117 (by decide) ?_
                  refine iv_inc (M := mX12_parentOf) (C := 1) dX12_parentOf_130 133 rfl rfl (by decide) rfl rfl (by decide) (by omega) (by omega) (fun v67 ev67 => ?_)
                  show PV _ _ _ _ _ _ _ 133 [.ref 123, .int x0, .int x1, .int x2, .int x3, .int y21, .int v67, .int v59] [] _
                  refine pv_goto (M := mX12_parentOf) (tgt := 28) dX12_parentOf_133 (by decide) ?_
                  refine pv_fg (lo2 := [.ref 123, .int x0, .int x1, .int x2, .int x3, .int y21, .int v67, pv_U]) ⟨Or.inr rfl, ⟨Or.inr rfl, ⟨Or.inr rfl, ⟨Or.inr rfl, ⟨Or.inr rfl, ⟨Or.inr rfl, ⟨Or.inr rfl, ⟨Or.inl rfl, trivial⟩⟩⟩⟩⟩⟩⟩⟩ ?_
                  exact ih29 y21 v67 m55 n56 (by first | omega | decide) (by first | omega | decide) (by first | omega | decide) (by first | omega | decide) I57 K58 (by omega)
              · have c48 := iv_eq (X := v46.toInt) (Y := v47.toInt) c48 rfl rfl
                refine pv_iload (M := mX12_parentOf) dX12_parentOf_85 87 rfl rfl ?_
                refine pv_iload (M := mX12_parentOf) dX12_parentOf_87 89 rfl rfl ?_
                refine pv_icmp_le (M := mX12_parentOf) (tgt := 95) dX12_parentOf_89 92 rfl (by decide) (fun c68 => ?_) (fun c68 => ?_)
                · have c68 := iv_le (X := y22.toInt) (Y := x3.toInt) c68 rfl rfl
                  refine pv_aload_n (M := mX12_parentOf) 0 dX12_parentOf_95 96 rfl rfl rfl ?_
                  refine pv_iload (M := mX12_parentOf) dX12_parentOf_96 98 rfl rfl ?_
                  refine pv_callv (M := mX12_parentOf) (as := [.int y22]) (st := []) (kc2 := 0) (ks2 := 0) dX12_parentOf_98 wd1753 YX12_laysParent ⟨wd1755, wd118⟩ (mk_get (tl123 hT)) rfl rfl (s_X12_laysParent g hT I25 y22 (by omega) (by omega)) rfl rfl (Nat.le_of_ble_eq_true rfl) (by decide) rfl rfl 101 rfl (fun rv h1 q69 => ?_)
                  obtain ⟨m70, n71, rfl, rfl, I72, K73⟩ := q69
                  have K73 := K26.trans K73
                  show PV _ _ _ _ _ _ _ 101 [.ref 123, .int x0, .int x1, .int x2, .int x3, .int y21, .int y22, pv_U] [] _
                  refine pv_aload_n (M := mX12_parentOf) 0 dX12_parentOf_101 102 rfl rfl rfl ?_
                  refine pv_iload_n (M := mX12_parentOf) 3 dX12_parentOf_102 103 rfl rfl rfl ?_
                  refine pv_callv (M := mX12_parentOf) (as := [.int x2]) (st := []) (kc2 := 0) (ks2 := 0) dX12_parentOf_103 wd1607 YX12_fewestStrokes ⟨wd1609, wd95⟩ (mk_get (tl123 hT)) rfl rfl (s_X12_fewestStrokes g hT I72 x2 (by omega) (by omega)) rfl rfl (Nat.le_of_ble_eq_true rfl) (by decide) rfl rfl 106 rfl (fun rv h1 q74 => ?_)
                  obtain ⟨m75, n76, v79, rfl, rfl, I77, K78, pv79, qv79, rv79⟩ := q74
                  have K78 := K73.trans K78
                  show PV _ _ _ _ _ _ _ 106 [.ref 123, .int x0, .int x1, .int x2, .int x3, .int y21, .int y22, pv_U] [.int v79] _
                  refine pv_istore (M := mX12_parentOf) (lo2 := [.ref 123, .int x0, .int x1, .int x2, .int x3, .int y21, .int y22, .int v79]) dX12_parentOf_106 108 rfl (by decide) rfl rfl ?_
                  refine pv_iload (M := mX12_parentOf) dX12_parentOf_108 110 rfl rfl ?_
                  refine pv_aload_n (M := mX12_parentOf) 0 dX12_parentOf_110 111 rfl rfl rfl ?_
                  refine iv_get (M := mX12_parentOf) dX12_parentOf_111 FX12 61 wd1234 (by decide) (tl123 hT) rfl I77 rfl 114 rfl (fun v80 ev80 pv80 qv80 => ?_)
                  have pv80 : -2147483648 ≤ v80.toInt := pv80
                  have qv80 : v80.toInt ≤ 2147483647 := qv80
                  refine pv_icmp_lt (M := mX12_parentOf) (tgt := 120) dX12_parentOf_114 117 rfl (by decide) (fun c81 => ?_) (fun c81 => ?_)
                  · have c81 := iv_lt (X := v79.toInt) (Y := v80.toInt) c81 rfl rfl
                    refine pv_aload_n (M := mX12_parentOf) 0 dX12_parentOf_120 121 rfl rfl rfl ?_
                    refine pv_iload (M := mX12_parentOf) dX12_parentOf_121 123 rfl rfl ?_
                    refine iv_put (M := mX12_parentOf) dX12_parentOf_123 FX12 61 wd1234 (by decide) rfl (tl123 hT) rfl rfl rfl I77 rfl (iv_rng v79).1 (iv_rng v79).2 126 rfl (fun m82 e85 I83 => ?_)
                    have K84 := K78.set e85 rfl
                    refine pv_iload (M := mX12_parentOf) dX12_parentOf_126 128 rfl rfl ?_
                    refine pv_istore (M := mX12_parentOf) (lo2 := [.ref 123, .int x0, .int x1, .int x2, .int x3, .int y22, .int y22, .int v79]) dX12_parentOf_128 130 rfl (by decide) rfl rfl ?_
                    refine iv_inc (M := mX12_parentOf) (C := 1) dX12_parentOf_130 133 rfl rfl (by decide) rfl rfl (by decide) (by omega) (by omega) (fun v86 ev86 => ?_)
                    show PV _ _ _ _ _ _ _ 133 [.ref 123, .int x0, .int x1, .int x2, .int x3, .int y22, .int v86, .int v79] [] _
                    refine pv_goto (M := mX12_parentOf) (tgt := 28) dX12_parentOf_133 (by decide) ?_
                    refine pv_fg (lo2 := [.ref 123, .int x0, .int x1, .int x2, .int x3, .int y22, .int v86, pv_U]) ⟨Or.inr rfl, ⟨Or.inr rfl, ⟨Or.inr rfl, ⟨Or.inr rfl, ⟨Or.inr rfl, ⟨Or.inr rfl, ⟨Or.inr rfl, ⟨Or.inl rfl, trivial⟩⟩⟩⟩⟩⟩⟩⟩ ?_
                    exact ih29 y22 v86 m82 n76 (by first | omega | decide) (by first | omega | decide) (by first | omega | decide) (by first | omega | decide) I83 K84 (by omega)
                  · have c81 := iv_nlt (X := v79.toInt) (Y := v80.toInt) c81 rfl rfl
                    refine pv_goto (M := mX12_parentOf) (tgt := 130) dX12_parentOf_117 (by decide) ?_
                    refine iv_inc (M := mX12_parentOf) (C := 1) dX12_parentOf_130 133 rfl rfl (by decide) rfl rfl (by decide) (by omega) (by omega) (fun v87 ev87 => ?_)
                    show PV _ _ _ _ _ _ _ 133 [.ref 123, .int x0, .int x1, .int x2, .int x3, .int y21, .int v87, .int v79] [] _
                    refine pv_goto (M := mX12_parentOf) (tgt := 28) dX12_parentOf_133 (by decide) ?_
                    refine pv_fg (lo2 := [.ref 123, .int x0, .int x1, .int x2, .int x3, .int y21, .int v87, pv_U]) ⟨Or.inr rfl, ⟨Or.inr rfl, ⟨Or.inr rfl, ⟨Or.inr rfl, ⟨Or.inr rfl, ⟨Or.inr rfl, ⟨Or.inr rfl, ⟨Or.inl rfl, trivial⟩⟩⟩⟩⟩⟩⟩⟩ ?_
                    exact ih29 y21 v87 m75 n76 (by first | omega | decide) (by first | omega | decide) (by first | omega | decide) (by first | omega | decide) I77 K78 (by omega)
                · have c68 := iv_nle (X := y22.toInt) (Y := x3.toInt) c68 rfl rfl
                  refine pv_goto (M := mX12_parentOf) (tgt := 130) dX12_parentOf_92 (by decide) ?_
                  refine iv_inc (M := mX12_parentOf) (C := 1) dX12_parentOf_130 133 rfl rfl (by decide) rfl rfl (by decide) (by omega) (by omega) (fun v88 ev88 => ?_)
                  show PV _ _ _ _ _ _ _ 133 [.ref 123, .int x0, .int x1, .int x2, .int x3, .int y21, .int v88, pv_U] [] _
                  refine pv_goto (M := mX12_parentOf) (tgt := 28) dX12_parentOf_133 (by decide) ?_
                  exact ih29 y21 v88 m23 n24 (by first | omega | decide) (by first | omega | decide) (by first | omega | decide) (by first | omega | decide) I25 K26 (by omega)
  have z89 : (8 : Int32).toInt = 8 := by decide
  have z90 : (0 : Int32).toInt = 0 := by decide
  exact lp28 (((8 - 0) : Int).toNat + 1) 8 0 m17 n13 (by first | omega | decide) (by first | omega | decide) (by first | omega | decide) (by first | omega | decide) I18 K19 (by omega)
