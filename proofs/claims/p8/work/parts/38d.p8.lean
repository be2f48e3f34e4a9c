set_option maxHeartbeats 2000000 in
set_option maxRecDepth 20000 in
theorem s_X12_bits (g : pv_G) {T : List mv_T} {m : Nat → Nat → Int32} {n : Nat → Nat → Int64} {r : Nat → Value} (hT : TX T) (I : IV BB m) (x0 : Int32) : PM g mX12_bits yX12_bits (sqP (mk T m n r) 0 8 (fun v => v.toInt = bF x0 8)) 1 0 0 [.int x0] (mk T m n r) := by
  have Kp : fr (wl []) m m := fr.rf
  refine PM.of 2 (lo := [.int x0, pv_U, pv_U]) rfl (by decide) rfl rfl (Nat.le_of_ble_eq_true rfl) ?_
  refine pv_iconst (M := mX12_bits) (v := 0) dX12_bits_0 1 rfl (by decide) ?_
  refine pv_istore_n (M := mX12_bits) 1 (lo2 := [.int x0, .int 0, pv_U]) dX12_bits_1 2 rfl rfl (by decide) rfl rfl ?_
  refine pv_iconst (M := mX12_bits) (v := 0) dX12_bits_2 3 rfl (by decide) ?_
  refine pv_istore_n (M := mX12_bits) 2 (lo2 := [.int x0, .int 0, .int 0]) dX12_bits_3 4 rfl rfl (by decide) rfl rfl ?_
  have lp8 : ∀ (fuel7 : Nat) (y1 : Int32) (y2 : Int32), (0 ≤ y1.toInt) → (y1.toInt ≤ 8) → (0 ≤ y2.toInt) → (y2.toInt ≤ 8) → (y1.toInt ≤ y2.toInt) → (y1.toInt = bF x0 y2.toInt.toNat) → ((8 - y2.toInt) : Int).toNat < fuel7 → PV none g mX12_bits (sqP (mk T m n r) 0 8 (fun v => v.toInt = bF x0 8)) 1 0 0 4 [.int x0, .int y1, .int y2] [] (mk T m n r) := by
    intro fuel7
    induction fuel7 with
    | zero => intro y1 y2 b10 b11 b12 b13 b14 b15 z16; omega
    | succ fuel7 ih9 =>
      intro y1 y2 b10 b11 b12 b13 b14 b15 z16
      have kg := (show y1.toInt = bF x0 y2.toInt.toNat by assumption)
      refine pv_iload_n (M := mX12_bits) 2 dX12_bits_4 5 rfl rfl rfl ?_
      refine pv_bipush (M := mX12_bits) (v := 8) dX12_bits_5 7 rfl (by decide) ?_
      refine pv_icmp_ge (M := mX12_bits) (tgt := 24) dX12_bits_7 10 rfl (by decide) (fun c18 => ?_) (fun c18 => ?_)
      · have c18 := iv_le (X := 8) (Y := y2.toInt) c18 (by decide) rfl
        refine pv_iload_n (M := mX12_bits) 1 dX12_bits_24 25 rfl rfl rfl ?_
        exact pv_iret (M := mX12_bits) dX12_bits_25 rfl rfl ⟨_, rfl, rfl, by omega, by omega, (by have q := kg; rw [show y2.toInt.toNat = 8 by omega] at q; exact q)⟩
      · have c18 := iv_nle (X := 8) (Y := y2.toInt) c18 (by decide) rfl
        refine pv_iload_n (M := mX12_bits) 1 dX12_bits_10 11 rfl rfl rfl ?_
        refine pv_iload_n (M := mX12_bits) 0 dX12_bits_11 12 rfl rfl rfl ?_
        refine pv_iload_n (M := mX12_bits) 2 dX12_bits_12 13 rfl rfl rfl ?_
        refine iv_shrU (M := mX12_bits) dX12_bits_13 14 rfl (fun v19 ev19 => ?_)
        have k14 := ev19
        refine pv_iconst (M := mX12_bits) (v := 1) dX12_bits_14 15 rfl (by decide) ?_
        refine iv_iandm (M := mX12_bits) dX12_bits_15 16 rfl 1 (by decide) (by decide) (fun v21 ev21 pv21 qv21 => ?_)
        have qv21 : v21.toInt < 2 := qv21
        have k16 := bt_of k14 ev21
        refine iv_iadd (M := mX12_bits) (X := y1.toInt) (Y := v21.toInt) dX12_bits_16 17 rfl rfl rfl (by omega) (by omega) (fun v23 ev23 => ?_)
        refine pv_istore_n (M := mX12_bits) 1 (lo2 := [.int x0, .int v23, .int y2]) dX12_bits_17 18 rfl rfl (by decide) rfl rfl ?_
        refine iv_inc (M := mX12_bits) (C := 1) dX12_bits_18 21 rfl rfl (by decide) rfl rfl (by decide) (by omega) (by omega) (fun v24 ev24 => ?_)
        show PV _ _ _ _ _ _ _ 21 [.int x0, .int v23, .int v24] [] _
        refine pv_goto (M := mX12_bits) (tgt := 4) dX12_bits_21 (by decide) ?_
        have kb : v23.toInt = bF x0 v24.toInt.toNat := by rw [bF_s (j := y2.toInt) (by omega) (by omega)]; omega
        exact ih9 v23 v24 (by first | omega | assumption | exact (iv_rng _).2 | exact (iv_rng _).1 | decide) (by first | omega | assumption | exact (iv_rng _).2 | exact (iv_rng _).1 | decide) (by first | omega | assumption | exact (iv_rng _).2 | exact (iv_rng _).1 | decide) (by first | omega | assumption | exact (iv_rng _).2 | exact (iv_rng _).1 | decide) (by first | omega | assumption | (show v23.toInt ≤ v24.toInt; omega) | decide) kb (by omega)
  have z26 : (0 : Int32).toInt = 0 := by decide
  have z27 : (0 : Int32).toInt = 0 := by decide
  exact lp8 (((8 - 0) : Int).toNat + 1) 0 0 (by first | omega | assumption | exact (iv_rng _).2 | exact (iv_rng _).1 | decide) (by first | omega | assumption | exact (iv_rng _).2 | exact (iv_rng _).1 | decide) (by first | omega | assumption | exact (iv_rng _).2 | exact (iv_rng _).1 | decide) (by first | omega | assumption | exact (iv_rng _).2 | exact (iv_rng _).1 | decide) (by first | omega | assumption | (show 0 ≤ 0; omega) | decide) (by rw [show (0 : Int32).toInt.toNat = 0 by decide]; show (0 : Int32).toInt = 0; decide) (by omega)

set_option maxHeartbeats 2000000 in
set_option maxRecDepth 20000 in
theorem s_X12_spreads (g : pv_G) {T : List mv_T} {m : Nat → Nat → Int32} {n : Nat → Nat → Int64} {r : Nat → Value} (hT : TX T) (I : IV BB m) (x0 : Int32) (x1 : Int32) (hl1 : 2 ≤ x1.toInt) (hh1 : x1.toInt ≤ 2) (x2 : Int32) (hl2 : 2 ≤ x2.toInt) (hh2 : x2.toInt ≤ 4) : PM g mX12_spreads yX12_spreads (sqI T BB (wl [(123, 123, some 50), (157, 157, none)]) r m 0 1 (fun m' v => (v.toInt = 0 ∧ m' = m) ∨ (v.toInt = 1 ∧ CHI m' x0 8 ∧ CHA m' x0 8 ∧ x1.toInt ≤ (m' 123 50).toInt ∧ (m' 123 50).toInt ≤ x2.toInt))) 2 0 0 [.ref 123, .int x0, .int x1, .int x2] (mk T m n r) := by
  have Kp : fr (wl [(123, 123, some 50), (157, 157, none)]) m m := fr.rf
  have z81 : 0 ≤ (m 123 50).toInt ∧ (m 123 50).toInt ≤ 4 := I 123 50
  refine PM.of 1 (lo := [.ref 123, .int x0, .int x1, .int x2, pv_U]) rfl (by decide) rfl rfl (Nat.le_of_ble_eq_true rfl) ?_
  refine pv_iload_n (M := mX12_spreads) 1 dX12_spreads_0 1 rfl rfl rfl ?_
  refine pv_iconst (M := mX12_spreads) (v := 0) dX12_spreads_1 2 rfl (by decide) ?_
  refine pv_sipush (M := mX12_spreads) (v := 255) dX12_spreads_2 5 rfl (by decide) ?_
  have z1 : (0 : Int32).toInt = 0 := by decide
  have z2 : (255 : Int32).toInt = 255 := by decide
  refine pv_calls (M := mX12_spreads) (as := [.int x0, .int 0, .int 255]) (st := []) (kc2 := 0) (ks2 := 0) dX12_spreads_5 wd1370 YX12_in wd1371 (s_X12_in g hT I x0 0 255) rfl rfl (Nat.le_of_ble_eq_true rfl) (by decide) rfl rfl 8 rfl (fun rv h1 q3 => ?_)
  obtain ⟨v4, rfl, rfl, pv4, qv4, rv4⟩ := q3
  replace rv4 : v4 = 0 ∨ ((0 : Int) ≤ x0.toInt ∧ x0.toInt ≤ (255 : Int)) := by have q_ := rv4; (try rw [z1] at q_); (try rw [z2] at q_); exact q_
  show PV _ _ _ _ _ _ _ 8 [.ref 123, .int x0, .int x1, .int x2, pv_U] [.int v4] _
  refine pv_if_eq (M := mX12_spreads) (tgt := 38) dX12_spreads_8 11 rfl (by decide) (fun c5 => ?_) (fun c5 => ?_)
  · have c5 := iv_eq (X := v4.toInt) (Y := 0) c5 rfl (by decide)
    refine pv_iconst (M := mX12_spreads) (v := 0) dX12_spreads_38 39 rfl (by decide) ?_
    have z6 : (0 : Int32).toInt = 0 := by decide
    exact pv_iret (M := mX12_spreads) dX12_spreads_39 rfl rfl ⟨_, _, _, rfl, rfl, I, Kp, by decide, by decide, (Or.inl ⟨by decide, rfl⟩)⟩
  · have pc5 := rv4.resolve_left c5
    have c5 := iv_ne (X := v4.toInt) (Y := 0) c5 rfl (by decide)
    refine pv_iload_n (M := mX12_spreads) 1 dX12_spreads_11 12 rfl rfl rfl ?_
    refine pv_aload_n (M := mX12_spreads) 0 dX12_spreads_12 13 rfl rfl rfl ?_
    refine iv_get (M := mX12_spreads) (l1 := 0) (l2 := 255) dX12_spreads_13 FX12 4 wd1177 (by decide) (tl123 hT) rfl I rfl 16 rfl (fun v7 ev7 pv7 qv7 => ?_)
    refine pv_iconst (M := mX12_spreads) (v := (-1)) dX12_spreads_16 17 rfl (by decide) ?_
    refine iv_xorU (M := mX12_spreads) dX12_spreads_17 18 rfl (fun v8 ev8 => ?_)
    refine iv_andU (M := mX12_spreads) dX12_spreads_18 19 rfl (fun v9 ev9 => ?_)
    refine pv_if_ne (M := mX12_spreads) (tgt := 38) dX12_spreads_19 22 rfl (by decide) (fun c10 => ?_) (fun c10 => ?_)
    · have c10 := iv_ne (X := v9.toInt) (Y := 0) c10 rfl (by decide)
      refine pv_iconst (M := mX12_spreads) (v := 0) dX12_spreads_38 39 rfl (by decide) ?_
      have z11 : (0 : Int32).toInt = 0 := by decide
      exact pv_iret (M := mX12_spreads) dX12_spreads_39 rfl rfl ⟨_, _, _, rfl, rfl, I, Kp, by decide, by decide, (Or.inl ⟨by decide, rfl⟩)⟩
    · have c10 := iv_eq (X := v9.toInt) (Y := 0) c10 rfl (by decide)
      refine pv_iload_n (M := mX12_spreads) 1 dX12_spreads_22 23 rfl rfl rfl ?_
      refine pv_calls (M := mX12_spreads) (as := [.int x0]) (st := []) (kc2 := 0) (ks2 := 0) dX12_spreads_23 wd1626 YX12_bits wd1627 (s_X12_bits g hT I x0) rfl rfl (Nat.le_of_ble_eq_true rfl) (by decide) rfl rfl 26 rfl (fun rv h1 q12 => ?_)
      obtain ⟨v13, rfl, rfl, pv13, qv13, rv13⟩ := q12
      replace rv13 : v13.toInt = bF x0 8 := rv13
      show PV _ _ _ _ _ _ _ 26 [.ref 123, .int x0, .int x1, .int x2, pv_U] [.int v13] _
      have k26 := rv13
      refine pv_iload_n (M := mX12_spreads) 2 dX12_spreads_26 27 rfl rfl rfl ?_
      refine pv_icmp_lt (M := mX12_spreads) (tgt := 38) dX12_spreads_27 30 rfl (by decide) (fun c15 => ?_) (fun c15 => ?_)
      · have c15 := iv_lt (X := v13.toInt) (Y := x1.toInt) c15 rfl rfl
        refine pv_iconst (M := mX12_spreads) (v := 0) dX12_spreads_38 39 rfl (by decide) ?_
        have z16 : (0 : Int32).toInt = 0 := by decide
        exact pv_iret (M := mX12_spreads) dX12_spreads_39 rfl rfl ⟨_, _, _, rfl, rfl, I, Kp, by decide, by decide, (Or.inl ⟨by decide, rfl⟩)⟩
      · have c15 := iv_nlt (X := v13.toInt) (Y := x1.toInt) c15 rfl rfl
        refine pv_iload_n (M := mX12_spreads) 1 dX12_spreads_30 31 rfl rfl rfl ?_
        refine pv_calls (M := mX12_spreads) (as := [.int x0]) (st := []) (kc2 := 0) (ks2 := 0) dX12_spreads_31 wd1626 YX12_bits wd1627 (s_X12_bits g hT I x0) rfl rfl (Nat.le_of_ble_eq_true rfl) (by decide) rfl rfl 34 rfl (fun rv h1 q17 => ?_)
        obtain ⟨v18, rfl, rfl, pv18, qv18, rv18⟩ := q17
        replace rv18 : v18.toInt = bF x0 8 := rv18
        show PV _ _ _ _ _ _ _ 34 [.ref 123, .int x0, .int x1, .int x2, pv_U] [.int v18] _
        have k34 := rv18
        refine pv_iload_n (M := mX12_spreads) 3 dX12_spreads_34 35 rfl rfl rfl ?_
        refine pv_icmp_le (M := mX12_spreads) (tgt := 40) dX12_spreads_35 38 rfl (by decide) (fun c20 => ?_) (fun c20 => ?_)
        · have c20 := iv_le (X := v18.toInt) (Y := x2.toInt) c20 rfl rfl
          refine pv_aload_n (M := mX12_spreads) 0 dX12_spreads_40 41 rfl rfl rfl ?_
          refine pv_iconst (M := mX12_spreads) (v := 0) dX12_spreads_41 42 rfl (by decide) ?_
          refine iv_put (M := mX12_spreads) (l1 := 0) (l2 := 4) dX12_spreads_42 FX12 50 wd1223 (by decide) rfl (tl123 hT) rfl rfl rfl I rfl (by decide) (by decide) 45 rfl (fun m21 e24 I22 => ?_)
          have K23 := Kp.set e24 rfl
          have w25 : (m21 123 50).toInt = 0 := by rw [e24, up2_eq] <;> rfl
          refine pv_iconst (M := mX12_spreads) (v := 0) dX12_spreads_45 46 rfl (by decide) ?_
          refine pv_istore (M := mX12_spreads) (lo2 := [.ref 123, .int x0, .int x1, .int x2, .int 0]) dX12_spreads_46 48 rfl (by decide) rfl rfl ?_
          have lp32 : ∀ (fuel31 : Nat) (y26 : Int32) (m27 : Nat → Nat → Int32) (n28 : Nat → Nat → Int64), (0 ≤ y26.toInt) → (y26.toInt ≤ 8) → ((m27 123 50).toInt = bF x0 y26.toInt.toNat) → (CHI m27 x0 y26.toInt ∧ CHA m27 x0 y26.toInt) → IV BB m27 → fr (wl [(123, 123, some 50), (157, 157, none)]) m m27 → ((8 - y26.toInt) : Int).toNat < fuel31 → PV none g mX12_spreads (sqI T BB (wl [(123, 123, some 50), (157, 157, none)]) r m 0 1 (fun m' v => (v.toInt = 0 ∧ m' = m) ∨ (v.toInt = 1 ∧ CHI m' x0 8 ∧ CHA m' x0 8 ∧ x1.toInt ≤ (m' 123 50).toInt ∧ (m' 123 50).toInt ≤ x2.toInt))) 2 0 0 48 [.ref 123, .int x0, .int x1, .int x2, .int y26] [] (mk T m27 n28 r) := by
            intro fuel31
            induction fuel31 with
            | zero => intro y26 m27 n28 b34 b35 b36 b37 I29 K30 z38; omega
            | succ fuel31 ih33 =>
              intro y26 m27 n28 b34 b35 b36 b37 I29 K30 z38
              have z39 : 0 ≤ (m27 123 50).toInt ∧ (m27 123 50).toInt ≤ 4 := I29 123 50
              have kg1 := (show (m27 123 50).toInt = bF x0 y26.toInt.toNat by assumption)
              have kg2 := (show CHI m27 x0 y26.toInt ∧ CHA m27 x0 y26.toInt by assumption)
              refine pv_iload (M := mX12_spreads) dX12_spreads_48 50 rfl rfl ?_
              refine pv_bipush (M := mX12_spreads) (v := 8) dX12_spreads_50 52 rfl (by decide) ?_
              refine pv_icmp_ge (M := mX12_spreads) (tgt := 94) dX12_spreads_52 55 rfl (by decide) (fun c42 => ?_) (fun c42 => ?_)
              · have c42 := iv_le (X := 8) (Y := y26.toInt) c42 (by decide) rfl
                refine pv_iconst (M := mX12_spreads) (v := 1) dX12_spreads_94 95 rfl (by decide) ?_
                have z43 : (1 : Int32).toInt = 1 := by decide
                exact pv_iret (M := mX12_spreads) dX12_spreads_95 rfl rfl ⟨_, _, _, rfl, rfl, I29, K30, by decide, by decide, (Or.inr ⟨by decide, (by have q := kg2.1; rw [show y26.toInt = 8 by omega] at q; exact q), (by have q := kg2.2; rw [show y26.toInt = 8 by omega] at q; exact q), (by have q := kg1; rw [show y26.toInt.toNat = 8 by omega] at q; omega), (by have q := kg1; rw [show y26.toInt.toNat = 8 by omega] at q; omega)⟩)⟩
              · have c42 := iv_nle (X := 8) (Y := y26.toInt) c42 (by decide) rfl
                refine pv_iload_n (M := mX12_spreads) 1 dX12_spreads_55 56 rfl rfl rfl ?_
                refine pv_iload (M := mX12_spreads) dX12_spreads_56 58 rfl rfl ?_
                refine iv_shrU (M := mX12_spreads) dX12_spreads_58 59 rfl (fun v44 ev44 => ?_)
                have k59 := ev44
                refine pv_iconst (M := mX12_spreads) (v := 1) dX12_spreads_59 60 rfl (by decide) ?_
                refine iv_iandm (M := mX12_spreads) dX12_spreads_60 61 rfl 1 (by decide) (by decide) (fun v46 ev46 pv46 qv46 => ?_)
                have qv46 : v46.toInt < 2 := qv46
                have k61 := bt_of k59 ev46
                have k61b := bF_s (d := x0) (j := y26.toInt) (k := y26.toInt + 1) (by omega) rfl
                have k61c := bF_le x0 8 (y26.toInt + 1).toNat (by omega)
                refine pv_if_ne (M := mX12_spreads) (tgt := 67) dX12_spreads_61 64 rfl (by decide) (fun c50 => ?_) (fun c50 => ?_)
                · have c50 := iv_ne (X := v46.toInt) (Y := 0) c50 rfl (by decide)
                  refine pv_aload_n (M := mX12_spreads) 0 dX12_spreads_67 68 rfl rfl rfl ?_
                  refine mv_get (M := mX12_spreads) (v := .ref 157) dX12_spreads_68 FX12 51 wd1224 (by decide) (tl123 hT) rfl rfl 71 rfl ?_
                  refine pv_aload_n (M := mX12_spreads) 0 dX12_spreads_71 72 rfl rfl rfl ?_
                  refine iv_get (M := mX12_spreads) (l1 := 0) (l2 := 4) dX12_spreads_72 FX12 50 wd1223 (by decide) (tl123 hT) rfl I29 rfl 75 rfl (fun v51 ev51 pv51 qv51 => ?_)
                  have wv51 : v51.toInt = (m27 123 50).toInt := congrArg Int32.toInt ev51
                  have k75 : v51.toInt = (m27 123 50).toInt := congrArg Int32.toInt ev51
                  refine pv_iload (M := mX12_spreads) dX12_spreads_75 77 rfl rfl ?_
                  refine iv_iast (M := mX12_spreads) (X := v51.toInt) (l1 := 0) (l2 := 7) dX12_spreads_77 (tl157 hT) rfl (by omega) (by omega) I29 (fun _ => rfl) (by omega) (by omega) 78 rfl (fun m53 e56 I54 => ?_)
                  have K55 := K30.set e56 rfl
                  have w57 : (m53 123 50).toInt = (m27 123 50).toInt := by rw [e56, up2_ne (by omega)]
                  have k78 := (e56).trans (up2_ix (j := (m27 123 50).toInt.toNat) (by omega))
                  refine pv_aload_n (M := mX12_spreads) 0 dX12_spreads_78 79 rfl rfl rfl ?_
                  refine pv_aload_n (M := mX12_spreads) 0 dX12_spreads_79 80 rfl rfl rfl ?_
                  refine iv_get (M := mX12_spreads) (l1 := 0) (l2 := 4) dX12_spreads_80 FX12 50 wd1223 (by decide) (tl123 hT) rfl I54 rfl 83 rfl (fun v59 ev59 pv59 qv59 => ?_)
                  have wv59 : v59.toInt = (m53 123 50).toInt := congrArg Int32.toInt ev59
                  have k83 : v59.toInt = (m27 123 50).toInt := by rw [ev59, k78, up2_ne (by omega)]
                  refine pv_iconst (M := mX12_spreads) (v := 1) dX12_spreads_83 84 rfl (by decide) ?_
                  refine iv_iadd (M := mX12_spreads) (X := v59.toInt) (Y := 1) dX12_spreads_84 85 rfl rfl (by decide) (by omega) (by omega) (fun v61 ev61 => ?_)
                  refine iv_put (M := mX12_spreads) (l1 := 0) (l2 := 4) dX12_spreads_85 FX12 50 wd1223 (by decide) rfl (tl123 hT) rfl rfl rfl I54 rfl (by omega) (by omega) 88 rfl (fun m62 e65 I63 => ?_)
                  have K64 := K55.set e65 rfl
                  have w66 : (m62 123 50).toInt = v61.toInt := by rw [e65, up2_eq]
                  try have k88 := CH_add kg2 (by omega) (by omega) (by omega) k78 (rfl) e65 (by omega) (rfl)
                  refine iv_inc (M := mX12_spreads) (C := 1) dX12_spreads_88 91 rfl rfl (by decide) rfl rfl (by decide) (by omega) (by omega) (fun v68 ev68 => ?_)
                  show PV _ _ _ _ _ _ _ 91 [.ref 123, .int x0, .int x1, .int x2, .int v68] [] _
                  refine pv_goto (M := mX12_spreads) (tgt := 48) dX12_spreads_91 (by decide) ?_
                  have ku : v68.toInt = y26.toInt + 1 := by omega
                  have kb2 : CHI m62 x0 v68.toInt ∧ CHA m62 x0 v68.toInt := by rw [ku]; first | exact k88 | exact CH_skip kg2 (by omega) rfl
                  have kb1 : (m62 123 50).toInt = bF x0 v68.toInt.toNat := by rw [ku]; first | omega | (rw [e65, up2_eq]; omega)
                  exact ih33 v68 m62 n28 (by first | omega | assumption | exact (iv_rng _).2 | exact (iv_rng _).1 | decide) (by first | omega | assumption | exact (iv_rng _).2 | exact (iv_rng _).1 | decide) kb1 kb2 I63 K64 (by omega)
                · have c50 := iv_eq (X := v46.toInt) (Y := 0) c50 rfl (by decide)
                  refine pv_goto (M := mX12_spreads) (tgt := 88) dX12_spreads_64 (by decide) ?_
                  try have k88 := CH_add kg2 (by omega) (by omega) (by omega) k78 (rfl) e24 (by omega) (rfl)
                  refine iv_inc (M := mX12_spreads) (C := 1) dX12_spreads_88 91 rfl rfl (by decide) rfl rfl (by decide) (by omega) (by omega) (fun v73 ev73 => ?_)
                  show PV _ _ _ _ _ _ _ 91 [.ref 123, .int x0, .int x1, .int x2, .int v73] [] _
                  refine pv_goto (M := mX12_spreads) (tgt := 48) dX12_spreads_91 (by decide) ?_
                  have ku : v73.toInt = y26.toInt + 1 := by omega
                  have kb2 : CHI m27 x0 v73.toInt ∧ CHA m27 x0 v73.toInt := by rw [ku]; first | exact k88 | exact CH_skip kg2 (by omega) rfl
                  have kb1 : (m27 123 50).toInt = bF x0 v73.toInt.toNat := by rw [ku]; first | omega | (rw [e24, up2_eq]; omega)
                  exact ih33 v73 m27 n28 (by first | omega | assumption | exact (iv_rng _).2 | exact (iv_rng _).1 | decide) (by first | omega | assumption | exact (iv_rng _).2 | exact (iv_rng _).1 | decide) kb1 kb2 I29 K30 (by omega)
          have z77 : (0 : Int32).toInt = 0 := by decide
          have ke1 : (m21 123 50).toInt = 0 := by rw [e24, up2_eq]; decide
          have ke2 : CHI m21 x0 0 ∧ CHA m21 x0 0 := ⟨fun q hq => by omega, fun i a b => by omega⟩
          exact lp32 (((8 - 0) : Int).toNat + 1) 0 m21 n (by first | omega | assumption | exact (iv_rng _).2 | exact (iv_rng _).1 | decide) (by first | omega | assumption | exact (iv_rng _).2 | exact (iv_rng _).1 | decide) (by rw [ke1, show (0 : Int32).toInt.toNat = 0 by decide]; rfl) (by rw [Int32.toInt_zero]; exact ke2) I22 K23 (by omega)
        · have c20 := iv_nle (X := v18.toInt) (Y := x2.toInt) c20 rfl rfl
          refine pv_iconst (M := mX12_spreads) (v := 0) dX12_spreads_38 39 rfl (by decide) ?_
          have z80 : (0 : Int32).toInt = 0 := by decide
          exact pv_iret (M := mX12_spreads) dX12_spreads_39 rfl rfl ⟨_, _, _, rfl, rfl, I, Kp, by decide, by decide, (Or.inl ⟨by decide, rfl⟩)⟩

set_option maxHeartbeats 2000000 in
set_option maxRecDepth 20000 in
theorem s_X12_letterAt (g : pv_G) {T : List mv_T} {m : Nat → Nat → Int32} {n : Nat → Nat → Int64} {r : Nat → Value} (hT : TX T) (I : IV BB m) (x0 : Int32) (hl0 : 0 ≤ x0.toInt) (hh0 : x0.toInt ≤ 3) (x1 : Int32) (hl1 : 0 ≤ x1.toInt) (hh1 : x1.toInt ≤ 17) : PM g mX12_letterAt yX12_letterAt (sqP (mk T m n r) (-1) 25 (fun v => v.toInt = LAq m x0.toInt x1.toInt)) 1 0 0 [.ref 123, .int x0, .int x1] (mk T m n r) := by
  have Kp : fr (wl []) m m := fr.rf
  refine PM.of 0 (lo := [.ref 123, .int x0, .int x1]) rfl (by decide) rfl rfl (Nat.le_of_ble_eq_true rfl) ?_
  refine pv_iload_n (M := mX12_letterAt) 2 dX12_letterAt_0 1 rfl rfl rfl ?_
  refine pv_aload_n (M := mX12_letterAt) 0 dX12_letterAt_1 2 rfl rfl rfl ?_
  refine mv_get (M := mX12_letterAt) (v := .ref 126) dX12_letterAt_2 FX12 7 wd1180 (by decide) (tl123 hT) rfl rfl 5 rfl ?_
  refine pv_aload_n (M := mX12_letterAt) 0 dX12_letterAt_5 6 rfl rfl rfl ?_
  refine mv_get (M := mX12_letterAt) (v := .ref 157) dX12_letterAt_6 FX12 51 wd1224 (by decide) (tl123 hT) rfl rfl 9 rfl ?_
  refine pv_iload_n (M := mX12_letterAt) 1 dX12_letterAt_9 10 rfl rfl rfl ?_
  refine iv_iald (M := mX12_letterAt) (X := x0.toInt) (l1 := 0) (l2 := 7) dX12_letterAt_10 (tl157 hT) rfl (by omega) (by omega) I (fun _ => rfl) 11 rfl (fun v1 ev1 pv1 qv1 => ?_)
  have k11 : v1 = m 157 x0.toInt.toNat := ev1
  refine iv_iald (M := mX12_letterAt) (X := v1.toInt) (l1 := 0) (l2 := 16) dX12_letterAt_11 (tl126 hT) rfl (by omega) (by omega) I (fun _ => rfl) 12 rfl (fun v3 ev3 pv3 qv3 => ?_)
  have k12 : v3.toInt = (m 126 (m 157 x0.toInt.toNat).toInt.toNat).toInt := by rw [ev3, k11]
  refine pv_icmp_ge (M := mX12_letterAt) (tgt := 34) dX12_letterAt_12 15 rfl (by decide) (fun c5 => ?_) (fun c5 => ?_)
  · have c5 := iv_le (X := v3.toInt) (Y := x1.toInt) c5 rfl rfl
    refine pv_iconst (M := mX12_letterAt) (v := (-1)) dX12_letterAt_34 35 rfl (by decide) ?_
    have z6 : ((-1) : Int32).toInt = (-1) := by decide
    exact pv_iret (M := mX12_letterAt) dX12_letterAt_35 rfl rfl ⟨_, rfl, rfl, by decide, by decide, (by unfold LAq; exact (if_neg (by omega)).symm)⟩
  · have c5 := iv_nle (X := v3.toInt) (Y := x1.toInt) c5 rfl rfl
    refine pv_aload_n (M := mX12_letterAt) 0 dX12_letterAt_15 16 rfl rfl rfl ?_
    refine mv_get (M := mX12_letterAt) (v := .ref 127) dX12_letterAt_16 FX12 8 wd1181 (by decide) (tl123 hT) rfl rfl 19 rfl ?_
    refine pv_bipush (M := mX12_letterAt) (v := 16) dX12_letterAt_19 21 rfl (by decide) ?_
    refine pv_aload_n (M := mX12_letterAt) 0 dX12_letterAt_21 22 rfl rfl rfl ?_
    refine mv_get (M := mX12_letterAt) (v := .ref 157) dX12_letterAt_22 FX12 51 wd1224 (by decide) (tl123 hT) rfl rfl 25 rfl ?_
    refine pv_iload_n (M := mX12_letterAt) 1 dX12_letterAt_25 26 rfl rfl rfl ?_
    refine iv_iald (M := mX12_letterAt) (X := x0.toInt) (l1 := 0) (l2 := 7) dX12_letterAt_26 (tl157 hT) rfl (by omega) (by omega) I (fun _ => rfl) 27 rfl (fun v7 ev7 pv7 qv7 => ?_)
    have k27 : v7 = m 157 x0.toInt.toNat := ev7
    refine iv_imul (M := mX12_letterAt) (X := 16) (Y := v7.toInt) dX12_letterAt_27 28 rfl (by decide) rfl (by omega) (by omega) (fun v9 ev9 => ?_)
    refine pv_iload_n (M := mX12_letterAt) 2 dX12_letterAt_28 29 rfl rfl rfl ?_
    refine iv_iadd (M := mX12_letterAt) (X := v9.toInt) (Y := x1.toInt) dX12_letterAt_29 30 rfl rfl rfl (by omega) (by omega) (fun v10 ev10 => ?_)
    refine iv_iald (M := mX12_letterAt) (X := v10.toInt) (l1 := 0) (l2 := 25) dX12_letterAt_30 (tl127 hT) rfl (by omega) (by omega) I (fun _ => rfl) 31 rfl (fun v11 ev11 pv11 qv11 => ?_)
    have k31 : v11.toInt = (m 127 (16 * (m 157 x0.toInt.toNat).toInt + x1.toInt).toNat).toInt := (congrArg Int32.toInt ev11).trans (congrArg (fun z => (m 127 z).toInt) (by rw [← k27]; omega))
    refine pv_goto (M := mX12_letterAt) (tgt := 35) dX12_letterAt_31 (by decide) ?_
    exact pv_iret (M := mX12_letterAt) dX12_letterAt_35 rfl rfl ⟨_, rfl, rfl, by omega, by omega, (by unfold LAq; exact k31.trans (if_pos (by omega)).symm)⟩

set_option maxHeartbeats 2000000 in
set_option maxRecDepth 20000 in
theorem s_X12_hiddenAt (g : pv_G) {T : List mv_T} {m : Nat → Nat → Int32} {n : Nat → Nat → Int64} {r : Nat → Value} (hT : TX T) (I : IV BB m) (x0 : Int32) (hl0 : 0 ≤ x0.toInt) (hh0 : x0.toInt ≤ 16) (x1 : Int32) (hl1 : 0 ≤ x1.toInt) (hh1 : x1.toInt ≤ 16) (x2 : Int32) (hl2 : 0 ≤ x2.toInt) (hh2 : x2.toInt ≤ 16) : PM g mX12_hiddenAt yX12_hiddenAt (sqP (mk T m n r) 0 4912 (fun v => v.toInt = (17 * x0.toInt + x1.toInt) * 17 + x2.toInt)) 1 0 0 [.ref 123, .int x0, .int x1, .int x2] (mk T m n r) := by
  have Kp : fr (wl []) m m := fr.rf
  refine PM.of 0 (lo := [.ref 123, .int x0, .int x1, .int x2]) rfl (by decide) rfl rfl (Nat.le_of_ble_eq_true rfl) ?_
  refine pv_bipush (M := mX12_hiddenAt) (v := 17) dX12_hiddenAt_0 2 rfl (by decide) ?_
  refine pv_iload_n (M := mX12_hiddenAt) 1 dX12_hiddenAt_2 3 rfl rfl rfl ?_
  refine iv_imul (M := mX12_hiddenAt) (X := 17) (Y := x0.toInt) dX12_hiddenAt_3 4 rfl (by decide) rfl (by omega) (by omega) (fun v1 ev1 => ?_)
  refine pv_iload_n (M := mX12_hiddenAt) 2 dX12_hiddenAt_4 5 rfl rfl rfl ?_
  refine iv_iadd (M := mX12_hiddenAt) (X := v1.toInt) (Y := x1.toInt) dX12_hiddenAt_5 6 rfl rfl rfl (by omega) (by omega) (fun v2 ev2 => ?_)
  refine pv_bipush (M := mX12_hiddenAt) (v := 17) dX12_hiddenAt_6 8 rfl (by decide) ?_
  refine iv_imul (M := mX12_hiddenAt) (X := v2.toInt) (Y := 17) dX12_hiddenAt_8 9 rfl rfl (by decide) (by omega) (by omega) (fun v3 ev3 => ?_)
  refine pv_iload_n (M := mX12_hiddenAt) 3 dX12_hiddenAt_9 10 rfl rfl rfl ?_
  refine iv_iadd (M := mX12_hiddenAt) (X := v3.toInt) (Y := x2.toInt) dX12_hiddenAt_10 11 rfl rfl rfl (by omega) (by omega) (fun v4 ev4 => ?_)
  exact pv_iret (M := mX12_hiddenAt) dX12_hiddenAt_11 rfl rfl ⟨_, rfl, rfl, by omega, by omega, (by first | omega | assumption)⟩

set_option maxHeartbeats 2000000 in
set_option maxRecDepth 20000 in
theorem s_X12_longOf (g : pv_G) {T : List mv_T} {m : Nat → Nat → Int32} {n : Nat → Nat → Int64} {r : Nat → Value} (hT : TX T) (I : IV BB m) (x0 : Int32) (hl0 : 0 ≤ x0.toInt) (hh0 : x0.toInt ≤ 4) : PM g mX12_longOf yX12_longOf (sqP (mk T m n r) 0 16 (fun v => v.toInt = LOq m x0.toInt)) 1 0 0 [.ref 123, .int x0] (mk T m n r) := by
  have Kp : fr (wl []) m m := fr.rf
  have z8 : 0 ≤ (m 123 50).toInt ∧ (m 123 50).toInt ≤ 4 := I 123 50
  refine PM.of 0 (lo := [.ref 123, .int x0]) rfl (by decide) rfl rfl (Nat.le_of_ble_eq_true rfl) ?_
  refine pv_iload_n (M := mX12_longOf) 1 dX12_longOf_0 1 rfl rfl rfl ?_
  refine pv_aload_n (M := mX12_longOf) 0 dX12_longOf_1 2 rfl rfl rfl ?_
  refine iv_get (M := mX12_longOf) (l1 := 0) (l2 := 4) dX12_longOf_2 FX12 50 wd1223 (by decide) (tl123 hT) rfl I rfl 5 rfl (fun v1 ev1 pv1 qv1 => ?_)
  have wv1 : v1.toInt = (m 123 50).toInt := congrArg Int32.toInt ev1
  refine pv_icmp_ge (M := mX12_longOf) (tgt := 22) dX12_longOf_5 8 rfl (by decide) (fun c2 => ?_) (fun c2 => ?_)
  · have c2 := iv_le (X := v1.toInt) (Y := x0.toInt) c2 rfl rfl
    refine pv_iconst (M := mX12_longOf) (v := 0) dX12_longOf_22 23 rfl (by decide) ?_
    have z3 : (0 : Int32).toInt = 0 := by decide
    exact pv_iret (M := mX12_longOf) dX12_longOf_23 rfl rfl ⟨_, rfl, rfl, by decide, by decide, (by unfold LOq; exact (if_neg (by omega)).symm)⟩
  · have c2 := iv_nle (X := v1.toInt) (Y := x0.toInt) c2 rfl rfl
    refine pv_aload_n (M := mX12_longOf) 0 dX12_longOf_8 9 rfl rfl rfl ?_
    refine mv_get (M := mX12_longOf) (v := .ref 126) dX12_longOf_9 FX12 7 wd1180 (by decide) (tl123 hT) rfl rfl 12 rfl ?_
    refine pv_aload_n (M := mX12_longOf) 0 dX12_longOf_12 13 rfl rfl rfl ?_
    refine mv_get (M := mX12_longOf) (v := .ref 157) dX12_longOf_13 FX12 51 wd1224 (by decide) (tl123 hT) rfl rfl 16 rfl ?_
    refine pv_iload_n (M := mX12_longOf) 1 dX12_longOf_16 17 rfl rfl rfl ?_
    refine iv_iald (M := mX12_longOf) (X := x0.toInt) (l1 := 0) (l2 := 7) dX12_longOf_17 (tl157 hT) rfl (by omega) (by omega) I (fun _ => rfl) 18 rfl (fun v4 ev4 pv4 qv4 => ?_)
    have k18 : v4 = m 157 x0.toInt.toNat := ev4
    refine iv_iald (M := mX12_longOf) (X := v4.toInt) (l1 := 0) (l2 := 16) dX12_longOf_18 (tl126 hT) rfl (by omega) (by omega) I (fun _ => rfl) 19 rfl (fun v6 ev6 pv6 qv6 => ?_)
    have k19 : v6.toInt = (m 126 (m 157 x0.toInt.toNat).toInt.toNat).toInt := by rw [ev6, k18]
    refine pv_goto (M := mX12_longOf) (tgt := 23) dX12_longOf_19 (by decide) ?_
    exact pv_iret (M := mX12_longOf) dX12_longOf_23 rfl rfl ⟨_, rfl, rfl, by omega, by omega, (by unfold LOq; exact k19.trans (if_pos (by omega)).symm)⟩

set_option maxHeartbeats 2000000 in
set_option maxRecDepth 20000 in
theorem s_X12_nextOf (g : pv_G) {T : List mv_T} {m : Nat → Nat → Int32} {n : Nat → Nat → Int64} {r : Nat → Value} (hT : TX T) (I : IV BB m) (x0 : Int32) (hl0 : 0 ≤ x0.toInt) (hh0 : x0.toInt ≤ 3) (x1 : Int32) (hl1 : 0 ≤ x1.toInt) (hh1 : x1.toInt ≤ 16) (x2 : Int32) : PM g mX12_nextOf yX12_nextOf (sqP (mk T m n r) (-1) 15 (fun v => NXR m x0.toInt x1.toInt x2.toInt v.toInt)) 2 0 0 [.ref 123, .int x0, .int x1, .int x2] (mk T m n r) := by
  have Kp : fr (wl []) m m := fr.rf
  have z29 : 0 ≤ (m 123 50).toInt ∧ (m 123 50).toInt ≤ 4 := I 123 50
  refine PM.of 1 (lo := [.ref 123, .int x0, .int x1, .int x2, pv_U]) rfl (by decide) rfl rfl (Nat.le_of_ble_eq_true rfl) ?_
  refine pv_iload_n (M := mX12_nextOf) 1 dX12_nextOf_0 1 rfl rfl rfl ?_
  refine pv_aload_n (M := mX12_nextOf) 0 dX12_nextOf_1 2 rfl rfl rfl ?_
  refine iv_get (M := mX12_nextOf) (l1 := 0) (l2 := 4) dX12_nextOf_2 FX12 50 wd1223 (by decide) (tl123 hT) rfl I rfl 5 rfl (fun v1 ev1 pv1 qv1 => ?_)
  have wv1 : v1.toInt = (m 123 50).toInt := congrArg Int32.toInt ev1
  refine pv_icmp_lt (M := mX12_nextOf) (tgt := 10) dX12_nextOf_5 8 rfl (by decide) (fun c2 => ?_) (fun c2 => ?_)
  · have c2 := iv_lt (X := x0.toInt) (Y := v1.toInt) c2 rfl rfl
    refine pv_iload_n (M := mX12_nextOf) 2 dX12_nextOf_10 11 rfl rfl rfl ?_
    refine pv_istore (M := mX12_nextOf) (lo2 := [.ref 123, .int x0, .int x1, .int x2, .int x1]) dX12_nextOf_11 13 rfl (by decide) rfl rfl ?_
    have lp9 : ∀ (fuel8 : Nat) (y3 : Int32), (0 ≤ y3.toInt) → (y3.toInt ≤ 16) → (x1.toInt ≤ y3.toInt) → (∀ k : Int, x1.toInt ≤ k → k < y3.toInt → LAq m x0.toInt k ≠ x2.toInt) → ((16 - y3.toInt) : Int).toNat < fuel8 → PV none g mX12_nextOf (sqP (mk T m n r) (-1) 15 (fun v => NXR m x0.toInt x1.toInt x2.toInt v.toInt)) 2 0 0 13 [.ref 123, .int x0, .int x1, .int x2, .int y3] [] (mk T m n r) := by
      intro fuel8
      induction fuel8 with
      | zero => intro y3 b11 b12 b13 b14 z15; omega
      | succ fuel8 ih10 =>
        intro y3 b11 b12 b13 b14 z15
        have kg := (show ∀ k : Int, x1.toInt ≤ k → k < y3.toInt → LAq m x0.toInt k ≠ x2.toInt by assumption)
        refine pv_iload (M := mX12_nextOf) dX12_nextOf_13 15 rfl rfl ?_
        refine pv_aload_n (M := mX12_nextOf) 0 dX12_nextOf_15 16 rfl rfl rfl ?_
        refine pv_iload_n (M := mX12_nextOf) 1 dX12_nextOf_16 17 rfl rfl rfl ?_
        refine pv_callv (M := mX12_nextOf) (as := [.int x0]) (st := [.int y3]) (kc2 := 0) (ks2 := 0) dX12_nextOf_17 wd1633 YX12_longOf ⟨wd1635, wd98⟩ (mk_get (tl123 hT)) rfl rfl (s_X12_longOf g hT I x0 (by omega) (by omega)) rfl rfl (Nat.le_of_ble_eq_true rfl) (by decide) rfl rfl 20 rfl (fun rv h1 q17 => ?_)
        obtain ⟨v18, rfl, rfl, pv18, qv18, rv18⟩ := q17
        replace rv18 : v18.toInt = LOq m x0.toInt := rv18
        show PV _ _ _ _ _ _ _ 20 [.ref 123, .int x0, .int x1, .int x2, .int y3] [.int v18, .int y3] _
        have k20 := rv18
        refine pv_icmp_ge (M := mX12_nextOf) (tgt := 43) dX12_nextOf_20 23 rfl (by decide) (fun c20 => ?_) (fun c20 => ?_)
        · have c20 := iv_le (X := v18.toInt) (Y := y3.toInt) c20 rfl rfl
          refine pv_iconst (M := mX12_nextOf) (v := (-1)) dX12_nextOf_43 44 rfl (by decide) ?_
          have z21 : ((-1) : Int32).toInt = (-1) := by decide
          exact pv_iret (M := mX12_nextOf) dX12_nextOf_44 rfl rfl ⟨_, rfl, rfl, by decide, by decide, (Or.inr ⟨by omega, Or.inl ⟨rfl, fun k a b => kg k a (by omega)⟩⟩)⟩
        · have c20 := iv_nle (X := v18.toInt) (Y := y3.toInt) c20 rfl rfl
          refine pv_aload_n (M := mX12_nextOf) 0 dX12_nextOf_23 24 rfl rfl rfl ?_
          refine pv_iload_n (M := mX12_nextOf) 1 dX12_nextOf_24 25 rfl rfl rfl ?_
          refine pv_iload (M := mX12_nextOf) dX12_nextOf_25 27 rfl rfl ?_
          refine pv_callv (M := mX12_nextOf) (as := [.int x0, .int y3]) (st := []) (kc2 := 0) (ks2 := 0) dX12_nextOf_27 wd1645 YX12_letterAt ⟨wd1647, wd101⟩ (mk_get (tl123 hT)) rfl rfl (s_X12_letterAt g hT I x0 (by omega) (by omega) y3 (by omega) (by omega)) rfl rfl (Nat.le_of_ble_eq_true rfl) (by decide) rfl rfl 30 rfl (fun rv h1 q22 => ?_)
          obtain ⟨v23, rfl, rfl, pv23, qv23, rv23⟩ := q22
          replace rv23 : v23.toInt = LAq m x0.toInt y3.toInt := rv23
          show PV _ _ _ _ _ _ _ 30 [.ref 123, .int x0, .int x1, .int x2, .int y3] [.int v23] _
          have k30 := rv23
          refine pv_iload_n (M := mX12_nextOf) 3 dX12_nextOf_30 31 rfl rfl rfl ?_
          refine pv_icmp_ne (M := mX12_nextOf) (tgt := 37) dX12_nextOf_31 34 rfl (by decide) (fun c25 => ?_) (fun c25 => ?_)
          · have c25 := iv_ne (X := v23.toInt) (Y := x2.toInt) c25 rfl rfl
            refine iv_inc (M := mX12_nextOf) (C := 1) dX12_nextOf_37 40 rfl rfl (by decide) rfl rfl (by decide) (by omega) (by omega) (fun v26 ev26 => ?_)
            show PV _ _ _ _ _ _ _ 40 [.ref 123, .int x0, .int x1, .int x2, .int v26] [] _
            refine pv_goto (M := mX12_nextOf) (tgt := 13) dX12_nextOf_40 (by decide) ?_
            have kb : ∀ k : Int, x1.toInt ≤ k → k < v26.toInt → LAq m x0.toInt k ≠ x2.toInt := fun k a b => if z : k = y3.toInt then by rw [z, ← k30]; omega else kg k a (by omega)
            exact ih10 v26 (by first | omega | assumption | exact (iv_rng _).2 | exact (iv_rng _).1 | decide) (by first | omega | assumption | exact (iv_rng _).2 | exact (iv_rng _).1 | decide) (by first | omega | assumption | (show x1.toInt ≤ v26.toInt; omega) | decide) kb (by omega)
          · have c25 := iv_eq (X := v23.toInt) (Y := x2.toInt) c25 rfl rfl
            refine pv_iload (M := mX12_nextOf) dX12_nextOf_34 36 rfl rfl ?_
            exact pv_iret (M := mX12_nextOf) dX12_nextOf_36 rfl rfl ⟨_, rfl, rfl, by omega, by omega, (Or.inr ⟨by omega, Or.inr ⟨by omega, by omega, by omega, kg⟩⟩)⟩
    exact lp9 (((16 - x1.toInt) : Int).toNat + 1) x1 (by first | omega | assumption | exact (iv_rng _).2 | exact (iv_rng _).1 | decide) (by first | omega | assumption | exact (iv_rng _).2 | exact (iv_rng _).1 | decide) (by first | omega | assumption | (show x1.toInt ≤ x1.toInt; omega) | decide) (fun k a b => by omega) (by omega)
  · have c2 := iv_nlt (X := x0.toInt) (Y := v1.toInt) c2 rfl rfl
    refine pv_iconst (M := mX12_nextOf) (v := 0) dX12_nextOf_8 9 rfl (by decide) ?_
    have z28 : (0 : Int32).toInt = 0 := by decide
    exact pv_iret (M := mX12_nextOf) dX12_nextOf_9 rfl rfl ⟨_, rfl, rfl, by decide, by decide, (Or.inl ⟨by omega, rfl⟩)⟩

set_option maxHeartbeats 2000000 in
set_option maxRecDepth 20000 in
theorem s_X12_behind (g : pv_G) {T : List mv_T} {m : Nat → Nat → Int32} {n : Nat → Nat → Int64} {r : Nat → Value} (hT : TX T) (I : IV BB m) (x0 : Int32) (hl0 : 0 ≤ x0.toInt) (hh0 : x0.toInt ≤ 3) (x1 : Int32) (hl1 : 0 ≤ x1.toInt) (hh1 : x1.toInt ≤ 4) (x2 : Int32) (hl2 : -1 ≤ x2.toInt) (hh2 : x2.toInt ≤ 15) : PM g mX12_behind yX12_behind (sqP (mk T m n r) 0 16 (fun v => v.toInt = (if x0.toInt < x1.toInt then x2.toInt + 1 else 0))) 1 0 0 [.int x0, .int x1, .int x2] (mk T m n r) := by
  have Kp : fr (wl []) m m := fr.rf
  refine PM.of 0 (lo := [.int x0, .int x1, .int x2]) rfl (by decide) rfl rfl (Nat.le_of_ble_eq_true rfl) ?_
  refine pv_iload_n (M := mX12_behind) 0 dX12_behind_0 1 rfl rfl rfl ?_
  refine pv_iload_n (M := mX12_behind) 1 dX12_behind_1 2 rfl rfl rfl ?_
  refine pv_icmp_ge (M := mX12_behind) (tgt := 11) dX12_behind_2 5 rfl (by decide) (fun c1 => ?_) (fun c1 => ?_)
  · have c1 := iv_le (X := x1.toInt) (Y := x0.toInt) c1 rfl rfl
    refine pv_iconst (M := mX12_behind) (v := 0) dX12_behind_11 12 rfl (by decide) ?_
    have z2 : (0 : Int32).toInt = 0 := by decide
    exact pv_iret (M := mX12_behind) dX12_behind_12 rfl rfl ⟨_, rfl, rfl, by decide, by decide, (by first | omega | (split <;> omega))⟩
  · have c1 := iv_nle (X := x1.toInt) (Y := x0.toInt) c1 rfl rfl
    refine pv_iload_n (M := mX12_behind) 2 dX12_behind_5 6 rfl rfl rfl ?_
    refine pv_iconst (M := mX12_behind) (v := 1) dX12_behind_6 7 rfl (by decide) ?_
    refine iv_iadd (M := mX12_behind) (X := x2.toInt) (Y := 1) dX12_behind_7 8 rfl rfl (by decide) (by omega) (by omega) (fun v3 ev3 => ?_)
    refine pv_goto (M := mX12_behind) (tgt := 12) dX12_behind_8 (by decide) ?_
    exact pv_iret (M := mX12_behind) dX12_behind_12 rfl rfl ⟨_, rfl, rfl, by omega, by omega, (by first | omega | (split <;> omega))⟩

set_option maxHeartbeats 2000000 in
set_option maxRecDepth 20000 in
theorem s_X12_hiddenBy (g : pv_G) {T : List mv_T} {m : Nat → Nat → Int32} {n : Nat → Nat → Int64} {r : Nat → Value} (hT : TX T) (I : IV BB m) (x0 : Int32) (hl0 : 0 ≤ x0.toInt) (hh0 : x0.toInt ≤ 16) (x1 : Int32) (hl1 : 0 ≤ x1.toInt) (hh1 : x1.toInt ≤ 16) (x2 : Int32) (hl2 : 0 ≤ x2.toInt) (hh2 : x2.toInt ≤ 16) (x3 : Int32) (hp0 : HTp m x0.toInt 16 16) (hp1 : in3 m x0.toInt x1.toInt x2.toInt) (hp2 : 2 ≤ (m 123 50).toInt) : PM g mX12_hiddenBy yX12_hiddenBy (sqP (mk T m n r) (-1) 17 (fun v => HBR m x0.toInt x1.toInt x2.toInt x3.toInt v.toInt ∧ v.toInt ≤ 16 - x0.toInt)) 3 0 0 [.ref 123, .int x0, .int x1, .int x2, .int x3] (mk T m n r) := by
  have Kp : fr (wl []) m m := fr.rf
  have z35 : 0 ≤ (m 123 50).toInt ∧ (m 123 50).toInt ≤ 4 := I 123 50
  refine PM.of 3 (lo := [.ref 123, .int x0, .int x1, .int x2, .int x3, pv_U, pv_U, pv_U]) rfl (by decide) rfl rfl (Nat.le_of_ble_eq_true rfl) ?_
  have kl : LO16 m := LO16_of (fun j => I 126 j)
  refine pv_aload_n (M := mX12_hiddenBy) 0 dX12_hiddenBy_0 1 rfl rfl rfl ?_
  refine pv_iconst (M := mX12_hiddenBy) (v := 0) dX12_hiddenBy_1 2 rfl (by decide) ?_
  refine pv_iload_n (M := mX12_hiddenBy) 1 dX12_hiddenBy_2 3 rfl rfl rfl ?_
  refine pv_iload (M := mX12_hiddenBy) dX12_hiddenBy_3 5 rfl rfl ?_
  have z2 : (0 : Int32).toInt = 0 := by decide
  refine pv_callv (M := mX12_hiddenBy) (as := [.int 0, .int x0, .int x3]) (st := []) (kc2 := 0) (ks2 := 0) dX12_hiddenBy_5 wd1641 YX12_nextOf ⟨wd1643, wd100⟩ (mk_get (tl123 hT)) rfl rfl (s_X12_nextOf g hT I 0 (by decide) (by decide) x0 (by omega) (by omega) x3) rfl rfl (Nat.le_of_ble_eq_true rfl) (by decide) rfl rfl 8 rfl (fun rv h1 q3 => ?_)
  obtain ⟨v4, rfl, rfl, pv4, qv4, rv4⟩ := q3
  replace rv4 : NXR m (0 : Int) x0.toInt x3.toInt v4.toInt := by have q_ := rv4; (try rw [z2] at q_); exact q_
  show PV _ _ _ _ _ _ _ 8 [.ref 123, .int x0, .int x1, .int x2, .int x3, pv_U, pv_U, pv_U] [.int v4] _
  have k8 : NXR m 0 x0.toInt x3.toInt v4.toInt := rv4
  refine pv_istore (M := mX12_hiddenBy) (lo2 := [.ref 123, .int x0, .int x1, .int x2, .int x3, .int v4, pv_U, pv_U]) dX12_hiddenBy_8 10 rfl (by decide) rfl rfl ?_
  refine pv_aload_n (M := mX12_hiddenBy) 0 dX12_hiddenBy_10 11 rfl rfl rfl ?_
  refine pv_iconst (M := mX12_hiddenBy) (v := 1) dX12_hiddenBy_11 12 rfl (by decide) ?_
  refine pv_iload_n (M := mX12_hiddenBy) 2 dX12_hiddenBy_12 13 rfl rfl rfl ?_
  refine pv_iload (M := mX12_hiddenBy) dX12_hiddenBy_13 15 rfl rfl ?_
  have z6 : (1 : Int32).toInt = 1 := by decide
  refine pv_callv (M := mX12_hiddenBy) (as := [.int 1, .int x1, .int x3]) (st := []) (kc2 := 0) (ks2 := 0) dX12_hiddenBy_15 wd1641 YX12_nextOf ⟨wd1643, wd100⟩ (mk_get (tl123 hT)) rfl rfl (s_X12_nextOf g hT I 1 (by decide) (by decide) x1 (by omega) (by omega) x3) rfl rfl (Nat.le_of_ble_eq_true rfl) (by decide) rfl rfl 18 rfl (fun rv h1 q7 => ?_)
  obtain ⟨v8, rfl, rfl, pv8, qv8, rv8⟩ := q7
  replace rv8 : NXR m (1 : Int) x1.toInt x3.toInt v8.toInt := by have q_ := rv8; (try rw [z6] at q_); exact q_
  show PV _ _ _ _ _ _ _ 18 [.ref 123, .int x0, .int x1, .int x2, .int x3, .int v4, pv_U, pv_U] [.int v8] _
  have k18 : NXR m 1 x1.toInt x3.toInt v8.toInt := rv8
  refine pv_istore (M := mX12_hiddenBy) (lo2 := [.ref 123, .int x0, .int x1, .int x2, .int x3, .int v4, .int v8, pv_U]) dX12_hiddenBy_18 20 rfl (by decide) rfl rfl ?_
  refine pv_aload_n (M := mX12_hiddenBy) 0 dX12_hiddenBy_20 21 rfl rfl rfl ?_
  refine pv_iconst (M := mX12_hiddenBy) (v := 2) dX12_hiddenBy_21 22 rfl (by decide) ?_
  refine pv_iload_n (M := mX12_hiddenBy) 3 dX12_hiddenBy_22 23 rfl rfl rfl ?_
  refine pv_iload (M := mX12_hiddenBy) dX12_hiddenBy_23 25 rfl rfl ?_
  have z10 : (2 : Int32).toInt = 2 := by decide
  refine pv_callv (M := mX12_hiddenBy) (as := [.int 2, .int x2, .int x3]) (st := []) (kc2 := 0) (ks2 := 0) dX12_hiddenBy_25 wd1641 YX12_nextOf ⟨wd1643, wd100⟩ (mk_get (tl123 hT)) rfl rfl (s_X12_nextOf g hT I 2 (by decide) (by decide) x2 (by omega) (by omega) x3) rfl rfl (Nat.le_of_ble_eq_true rfl) (by decide) rfl rfl 28 rfl (fun rv h1 q11 => ?_)
  obtain ⟨v12, rfl, rfl, pv12, qv12, rv12⟩ := q11
  replace rv12 : NXR m (2 : Int) x2.toInt x3.toInt v12.toInt := by have q_ := rv12; (try rw [z10] at q_); exact q_
  show PV _ _ _ _ _ _ _ 28 [.ref 123, .int x0, .int x1, .int x2, .int x3, .int v4, .int v8, pv_U] [.int v12] _
  have k28 : NXR m 2 x2.toInt x3.toInt v12.toInt := rv12
  refine pv_istore (M := mX12_hiddenBy) (lo2 := [.ref 123, .int x0, .int x1, .int x2, .int x3, .int v4, .int v8, .int v12]) dX12_hiddenBy_28 30 rfl (by decide) rfl rfl ?_
  refine pv_iload (M := mX12_hiddenBy) dX12_hiddenBy_30 32 rfl rfl ?_
  refine pv_iconst (M := mX12_hiddenBy) (v := (-1)) dX12_hiddenBy_32 33 rfl (by decide) ?_
  refine pv_icmp_eq (M := mX12_hiddenBy) (tgt := 48) dX12_hiddenBy_33 36 rfl (by decide) (fun c14 => ?_) (fun c14 => ?_)
  · have c14 := iv_eq (X := v4.toInt) (Y := (-1)) c14 rfl (by decide)
    refine pv_iconst (M := mX12_hiddenBy) (v := (-1)) dX12_hiddenBy_48 49 rfl (by decide) ?_
    have z15 : ((-1) : Int32).toInt = (-1) := by decide
    exact pv_iret (M := mX12_hiddenBy) dX12_hiddenBy_49 rfl rfl ⟨_, rfl, rfl, by decide, by decide, (by have kH : HBR m x0.toInt x1.toInt x2.toInt x3.toInt (-1) := ⟨_, _, _, k8, k18, k28, Or.inl ⟨by omega, rfl⟩⟩; exact ⟨kH, HBR_le kH hp0 hp2 hp1 kl⟩)⟩
  · have c14 := iv_ne (X := v4.toInt) (Y := (-1)) c14 rfl (by decide)
    refine pv_iload (M := mX12_hiddenBy) dX12_hiddenBy_36 38 rfl rfl ?_
    refine pv_iconst (M := mX12_hiddenBy) (v := (-1)) dX12_hiddenBy_38 39 rfl (by decide) ?_
    refine pv_icmp_eq (M := mX12_hiddenBy) (tgt := 48) dX12_hiddenBy_39 42 rfl (by decide) (fun c16 => ?_) (fun c16 => ?_)
    · have c16 := iv_eq (X := v8.toInt) (Y := (-1)) c16 rfl (by decide)
      refine pv_iconst (M := mX12_hiddenBy) (v := (-1)) dX12_hiddenBy_48 49 rfl (by decide) ?_
      have z17 : ((-1) : Int32).toInt = (-1) := by decide
      exact pv_iret (M := mX12_hiddenBy) dX12_hiddenBy_49 rfl rfl ⟨_, rfl, rfl, by decide, by decide, (by have kH : HBR m x0.toInt x1.toInt x2.toInt x3.toInt (-1) := ⟨_, _, _, k8, k18, k28, Or.inl ⟨by omega, rfl⟩⟩; exact ⟨kH, HBR_le kH hp0 hp2 hp1 kl⟩)⟩
    · have c16 := iv_ne (X := v8.toInt) (Y := (-1)) c16 rfl (by decide)
      refine pv_iload (M := mX12_hiddenBy) dX12_hiddenBy_42 44 rfl rfl ?_
      refine pv_iconst (M := mX12_hiddenBy) (v := (-1)) dX12_hiddenBy_44 45 rfl (by decide) ?_
      refine pv_icmp_ne (M := mX12_hiddenBy) (tgt := 50) dX12_hiddenBy_45 48 rfl (by decide) (fun c18 => ?_) (fun c18 => ?_)
      · have c18 := iv_ne (X := v12.toInt) (Y := (-1)) c18 rfl (by decide)
        refine pv_iconst (M := mX12_hiddenBy) (v := 1) dX12_hiddenBy_50 51 rfl (by decide) ?_
        refine pv_aload_n (M := mX12_hiddenBy) 0 dX12_hiddenBy_51 52 rfl rfl rfl ?_
        refine mv_get (M := mX12_hiddenBy) (v := .ref 161) dX12_hiddenBy_52 FX12 55 wd1228 (by decide) (tl123 hT) rfl rfl 55 rfl ?_
        refine pv_aload_n (M := mX12_hiddenBy) 0 dX12_hiddenBy_55 56 rfl rfl rfl ?_
        refine pv_iload (M := mX12_hiddenBy) dX12_hiddenBy_56 58 rfl rfl ?_
        refine pv_iconst (M := mX12_hiddenBy) (v := 1) dX12_hiddenBy_58 59 rfl (by decide) ?_
        refine iv_iadd (M := mX12_hiddenBy) (X := v4.toInt) (Y := 1) dX12_hiddenBy_59 60 rfl rfl (by decide) (by omega) (by omega) (fun v19 ev19 => ?_)
        refine pv_iload (M := mX12_hiddenBy) dX12_hiddenBy_60 62 rfl rfl ?_
        refine pv_iconst (M := mX12_hiddenBy) (v := 1) dX12_hiddenBy_62 63 rfl (by decide) ?_
        refine iv_iadd (M := mX12_hiddenBy) (X := v8.toInt) (Y := 1) dX12_hiddenBy_63 64 rfl rfl (by decide) (by omega) (by omega) (fun v20 ev20 => ?_)
        refine pv_iconst (M := mX12_hiddenBy) (v := 2) dX12_hiddenBy_64 65 rfl (by decide) ?_
        refine pv_aload_n (M := mX12_hiddenBy) 0 dX12_hiddenBy_65 66 rfl rfl rfl ?_
        refine iv_get (M := mX12_hiddenBy) (l1 := 0) (l2 := 4) dX12_hiddenBy_66 FX12 50 wd1223 (by decide) (tl123 hT) rfl I rfl 69 rfl (fun v21 ev21 pv21 qv21 => ?_)
        have wv21 : v21.toInt = (m 123 50).toInt := congrArg Int32.toInt ev21
        refine pv_iload (M := mX12_hiddenBy) dX12_hiddenBy_69 71 rfl rfl ?_
        have z22 : (2 : Int32).toInt = 2 := by decide
        refine pv_calls (M := mX12_hiddenBy) (as := [.int 2, .int v21, .int v12]) (st := [.int v20, .int v19, .ref 123, .ref 161, .int 1]) (kc2 := 0) (ks2 := 0) dX12_hiddenBy_71 wd1649 YX12_behind wd1650 (s_X12_behind g hT I 2 (by decide) (by decide) v21 (by omega) (by omega) v12 (by omega) (by omega)) rfl rfl (Nat.le_of_ble_eq_true rfl) (by decide) rfl rfl 74 rfl (fun rv h1 q23 => ?_)
        obtain ⟨v24, rfl, rfl, pv24, qv24, rv24⟩ := q23
        replace rv24 : v24.toInt = (if (2 : Int) < v21.toInt then v12.toInt + 1 else 0) := by have q_ := rv24; (try rw [z22] at q_); exact q_
        show PV _ _ _ _ _ _ _ 74 [.ref 123, .int x0, .int x1, .int x2, .int x3, .int v4, .int v8, .int v12] [.int v24, .int v20, .int v19, .ref 123, .ref 161, .int 1] _
        have k74 := rv24
        refine pv_callv (M := mX12_hiddenBy) (as := [.int v19, .int v20, .int v24]) (st := [.ref 161, .int 1]) (kc2 := 0) (ks2 := 0) dX12_hiddenBy_74 wd1652 YX12_hiddenAt ⟨wd1654, wd102⟩ (mk_get (tl123 hT)) rfl rfl (s_X12_hiddenAt g hT I v19 (by omega) (by omega) v20 (by omega) (by omega) v24 (by omega) (by omega)) rfl rfl (Nat.le_of_ble_eq_true rfl) (by decide) rfl rfl 77 rfl (fun rv h1 q26 => ?_)
        obtain ⟨v27, rfl, rfl, pv27, qv27, rv27⟩ := q26
        replace rv27 : v27.toInt = (17 * v19.toInt + v20.toInt) * 17 + v24.toInt := rv27
        show PV _ _ _ _ _ _ _ 77 [.ref 123, .int x0, .int x1, .int x2, .int x3, .int v4, .int v8, .int v12] [.int v27, .ref 161, .int 1] _
        have k77 := rv27
        refine iv_iald (M := mX12_hiddenBy) (X := v27.toInt) (l1 := 0) (l2 := 16) dX12_hiddenBy_77 (tl161 hT) rfl (by omega) (by omega) I (fun _ => rfl) 78 rfl (fun v29 ev29 pv29 qv29 => ?_)
        have k78 : v29.toInt = (m 161 (hix m v4.toInt v8.toInt v12.toInt)).toInt := (congrArg Int32.toInt ev29).trans (congrArg (fun z => (m 161 z).toInt) (by unfold hix; omega))
        refine iv_iadd (M := mX12_hiddenBy) (X := 1) (Y := v29.toInt) dX12_hiddenBy_78 79 rfl (by decide) rfl (by omega) (by omega) (fun v31 ev31 => ?_)
        have kH : HBR m x0.toInt x1.toInt x2.toInt x3.toInt v31.toInt := ⟨v4.toInt, v8.toInt, v12.toInt, k8, k18, k28, Or.inr ⟨by omega, by omega, by omega, by omega⟩⟩
        have kL := HBR_le kH hp0 hp2 hp1 kl
        exact pv_iret (M := mX12_hiddenBy) dX12_hiddenBy_79 rfl rfl ⟨_, rfl, rfl, by omega, by omega, ⟨kH, kL⟩⟩
      · have c18 := iv_eq (X := v12.toInt) (Y := (-1)) c18 rfl (by decide)
        refine pv_iconst (M := mX12_hiddenBy) (v := (-1)) dX12_hiddenBy_48 49 rfl (by decide) ?_
        have z34 : ((-1) : Int32).toInt = (-1) := by decide
        exact pv_iret (M := mX12_hiddenBy) dX12_hiddenBy_49 rfl rfl ⟨_, rfl, rfl, by decide, by decide, (by have kH : HBR m x0.toInt x1.toInt x2.toInt x3.toInt (-1) := ⟨_, _, _, k8, k18, k28, Or.inl ⟨by omega, rfl⟩⟩; exact ⟨kH, HBR_le kH hp0 hp2 hp1 kl⟩)⟩

set_option maxHeartbeats 2000000 in
set_option maxRecDepth 20000 in
theorem s_X12_laysHidden (g : pv_G) {T : List mv_T} {m : Nat → Nat → Int32} {n : Nat → Nat → Int64} {r : Nat → Value} (hT : TX T) (I : IV BB m) (hp0 : 2 ≤ (m 123 50).toInt) : PM g mX12_laysHidden yX12_laysHidden (sqV T BB (wl [(161, 161, none)]) r m (fun m' => HTp m' (-1) 16 16)) 4 0 0 [.ref 123] (mk T m n r) := by
  have Kp : fr (wl [(161, 161, none)]) m m := fr.rf
  have z130 : 0 ≤ (m 123 50).toInt ∧ (m 123 50).toInt ≤ 4 := I 123 50
  refine PM.of 6 (lo := [.ref 123, pv_U, pv_U, pv_U, pv_U, pv_U, pv_U]) rfl (by decide) rfl rfl (Nat.le_of_ble_eq_true rfl) ?_
  have kl : LO16 m := LO16_of (fun j => I 126 j)
  refine pv_aload_n (M := mX12_laysHidden) 0 dX12_laysHidden_0 1 rfl rfl rfl ?_
  refine pv_iconst (M := mX12_laysHidden) (v := 0) dX12_laysHidden_1 2 rfl (by decide) ?_
  have z2 : (0 : Int32).toInt = 0 := by decide
  refine pv_callv (M := mX12_laysHidden) (as := [.int 0]) (st := []) (kc2 := 0) (ks2 := 0) dX12_laysHidden_2 wd1633 YX12_longOf ⟨wd1635, wd98⟩ (mk_get (tl123 hT)) rfl rfl (s_X12_longOf g hT I 0 (by decide) (by decide)) rfl rfl (Nat.le_of_ble_eq_true rfl) (by decide) rfl rfl 5 rfl (fun rv h1 q3 => ?_)
  obtain ⟨v4, rfl, rfl, pv4, qv4, rv4⟩ := q3
  replace rv4 : v4.toInt = LOq m (0 : Int) := by have q_ := rv4; (try rw [z2] at q_); exact q_
  show PV _ _ _ _ _ _ _ 5 [.ref 123, pv_U, pv_U, pv_U, pv_U, pv_U, pv_U] [.int v4] _
  have k5 : v4.toInt = LOq m 0 := rv4
  refine pv_istore_n (M := mX12_laysHidden) 1 (lo2 := [.ref 123, .int v4, pv_U, pv_U, pv_U, pv_U, pv_U]) dX12_laysHidden_5 6 rfl rfl (by decide) rfl rfl ?_
  have lp12 : ∀ (fuel11 : Nat) (y6 : Int32) (m7 : Nat → Nat → Int32) (n8 : Nat → Nat → Int64), (-1 ≤ y6.toInt) → (y6.toInt ≤ 16) → (2 ≤ (m7 123 50).toInt) → (y6.toInt ≤ LOq m7 0) → (HTp m7 y6.toInt 16 16) → IV BB m7 → fr (wl [(161, 161, none)]) m m7 → ((y6.toInt - (-1)) : Int).toNat < fuel11 → PV none g mX12_laysHidden (sqV T BB (wl [(161, 161, none)]) r m (fun m' => HTp m' (-1) 16 16)) 4 0 0 6 [.ref 123, .int y6, pv_U, pv_U, pv_U, pv_U, pv_U] [] (mk T m7 n8 r) := by
    intro fuel11
    induction fuel11 with
    | zero => intro y6 m7 n8 b14 b15 b16 b17 b18 I9 K10 z19; omega
    | succ fuel11 ih13 =>
      intro y6 m7 n8 b14 b15 b16 b17 b18 I9 K10 z19
      have z20 : 0 ≤ (m7 123 50).toInt ∧ (m7 123 50).toInt ≤ 4 := I9 123 50
      have kl : LO16 m7 := LO16_of (fun j => I9 126 j)
      have kg6 := (show HTp m7 y6.toInt 16 16 by assumption)
      refine pv_iload_n (M := mX12_laysHidden) 1 dX12_laysHidden_6 7 rfl rfl rfl ?_
      refine pv_if_lt (M := mX12_laysHidden) (tgt := 108) dX12_laysHidden_7 10 rfl (by decide) (fun c23 => ?_) (fun c23 => ?_)
      · have c23 := iv_lt (X := y6.toInt) (Y := 0) c23 rfl (by decide)
        exact pv_vret (M := mX12_laysHidden) dX12_laysHidden_108 rfl ⟨_, _, rfl, rfl, I9, K10, (by have q := kg6; rw [show y6.toInt = -1 by omega] at q; exact q)⟩
      · have c23 := iv_nlt (X := y6.toInt) (Y := 0) c23 rfl (by decide)
        refine pv_aload_n (M := mX12_laysHidden) 0 dX12_laysHidden_10 11 rfl rfl rfl ?_
        refine pv_iconst (M := mX12_laysHidden) (v := 1) dX12_laysHidden_11 12 rfl (by decide) ?_
        have z24 : (1 : Int32).toInt = 1 := by decide
        refine pv_callv (M := mX12_laysHidden) (as := [.int 1]) (st := []) (kc2 := 0) (ks2 := 0) dX12_laysHidden_12 wd1633 YX12_longOf ⟨wd1635, wd98⟩ (mk_get (tl123 hT)) rfl rfl (s_X12_longOf g hT I9 1 (by decide) (by decide)) rfl rfl (Nat.le_of_ble_eq_true rfl) (by decide) rfl rfl 15 rfl (fun rv h1 q25 => ?_)
        obtain ⟨v26, rfl, rfl, pv26, qv26, rv26⟩ := q25
        replace rv26 : v26.toInt = LOq m7 (1 : Int) := by have q_ := rv26; (try rw [z24] at q_); exact q_
        show PV _ _ _ _ _ _ _ 15 [.ref 123, .int y6, pv_U, pv_U, pv_U, pv_U, pv_U] [.int v26] _
        have k15 : v26.toInt = LOq m7 1 := rv26
        refine pv_istore_n (M := mX12_laysHidden) 2 (lo2 := [.ref 123, .int y6, .int v26, pv_U, pv_U, pv_U, pv_U]) dX12_laysHidden_15 16 rfl rfl (by decide) rfl rfl ?_
        have lp34 : ∀ (fuel33 : Nat) (y28 : Int32) (m29 : Nat → Nat → Int32) (n30 : Nat → Nat → Int64), (-1 ≤ y28.toInt) → (y28.toInt ≤ 16) → (2 ≤ (m29 123 50).toInt) → (y6.toInt ≤ LOq m29 0) → (y28.toInt ≤ LOq m29 1) → (HTp m29 y6.toInt y28.toInt 16) → IV BB m29 → fr (wl [(161, 161, none)]) m m29 → ((y28.toInt - (-1)) : Int).toNat < fuel33 → PV none g mX12_laysHidden (sqV T BB (wl [(161, 161, none)]) r m (fun m' => HTp m' (-1) 16 16)) 4 0 0 16 [.ref 123, .int y6, .int y28, pv_U, pv_U, pv_U, pv_U] [] (mk T m29 n30 r) := by
          intro fuel33
          induction fuel33 with
          | zero => intro y28 m29 n30 b36 b37 b38 b39 b40 b41 I31 K32 z42; omega
          | succ fuel33 ih35 =>
            intro y28 m29 n30 b36 b37 b38 b39 b40 b41 I31 K32 z42
            have z43 : 0 ≤ (m29 123 50).toInt ∧ (m29 123 50).toInt ≤ 4 := I31 123 50
            have kl : LO16 m29 := LO16_of (fun j => I31 126 j)
            have kg16 := (show HTp m29 y6.toInt y28.toInt 16 by assumption)
            refine pv_iload_n (M := mX12_laysHidden) 2 dX12_laysHidden_16 17 rfl rfl rfl ?_
            refine pv_if_lt (M := mX12_laysHidden) (tgt := 102) dX12_laysHidden_17 20 rfl (by decide) (fun c46 => ?_) (fun c46 => ?_)
            · have c46 := iv_lt (X := y28.toInt) (Y := 0) c46 rfl (by decide)
              refine iv_inc (M := mX12_laysHidden) (C := (-1)) dX12_laysHidden_102 105 rfl rfl (by decide) rfl rfl (by decide) (by omega) (by omega) (fun v47 ev47 => ?_)
              show PV _ _ _ _ _ _ _ 105 [.ref 123, .int v47, .int y28, pv_U, pv_U, pv_U, pv_U] [] _
              refine pv_goto (M := mX12_laysHidden) (tgt := 6) dX12_laysHidden_105 (by decide) ?_
              refine pv_fg (lo2 := [.ref 123, .int v47, pv_U, pv_U, pv_U, pv_U, pv_U]) ⟨Or.inr rfl, ⟨Or.inr rfl, ⟨Or.inl rfl, ⟨Or.inl rfl, ⟨Or.inl rfl, ⟨Or.inl rfl, ⟨Or.inl rfl, trivial⟩⟩⟩⟩⟩⟩⟩ ?_
              have ku : v47.toInt = y6.toInt - 1 := by omega
              have kb6 : HTp m29 v47.toInt 16 16 := by rw [ku]; exact HTp_b kl (by have q := kg16; rw [show y28.toInt = -1 by omega] at q; exact q)
              exact ih13 v47 m29 n30 (by first | omega | assumption | exact (iv_rng _).2 | exact (iv_rng _).1 | decide) (by first | omega | assumption | exact (iv_rng _).2 | exact (iv_rng _).1 | decide) (by first | omega | assumption | (show 2 ≤ (m29 123 50).toInt; omega) | decide) (by first | omega | assumption | (show v47.toInt ≤ LOq m29 0; omega) | decide) kb6 I31 K32 (by omega)
            · have c46 := iv_nlt (X := y28.toInt) (Y := 0) c46 rfl (by decide)
              refine pv_aload_n (M := mX12_laysHidden) 0 dX12_laysHidden_20 21 rfl rfl rfl ?_
              refine pv_iconst (M := mX12_laysHidden) (v := 2) dX12_laysHidden_21 22 rfl (by decide) ?_
              have z50 : (2 : Int32).toInt = 2 := by decide
              refine pv_callv (M := mX12_laysHidden) (as := [.int 2]) (st := []) (kc2 := 0) (ks2 := 0) dX12_laysHidden_22 wd1633 YX12_longOf ⟨wd1635, wd98⟩ (mk_get (tl123 hT)) rfl rfl (s_X12_longOf g hT I31 2 (by decide) (by decide)) rfl rfl (Nat.le_of_ble_eq_true rfl) (by decide) rfl rfl 25 rfl (fun rv h1 q51 => ?_)
              obtain ⟨v52, rfl, rfl, pv52, qv52, rv52⟩ := q51
              replace rv52 : v52.toInt = LOq m29 (2 : Int) := by have q_ := rv52; (try rw [z50] at q_); exact q_
              show PV _ _ _ _ _ _ _ 25 [.ref 123, .int y6, .int y28, pv_U, pv_U, pv_U, pv_U] [.int v52] _
              have k25 : v52.toInt = LOq m29 2 := rv52
              refine pv_istore_n (M := mX12_laysHidden) 3 (lo2 := [.ref 123, .int y6, .int y28, .int v52, pv_U, pv_U, pv_U]) dX12_laysHidden_25 26 rfl rfl (by decide) rfl rfl ?_
              have lp60 : ∀ (fuel59 : Nat) (y54 : Int32) (m55 : Nat → Nat → Int32) (n56 : Nat → Nat → Int64), (-1 ≤ y54.toInt) → (y54.toInt ≤ 16) → (2 ≤ (m55 123 50).toInt) → (y6.toInt ≤ LOq m55 0) → (y28.toInt ≤ LOq m55 1) → (y54.toInt ≤ LOq m55 2) → (HTp m55 y6.toInt y28.toInt y54.toInt) → IV BB m55 → fr (wl [(161, 161, none)]) m m55 → ((y54.toInt - (-1)) : Int).toNat < fuel59 → PV none g mX12_laysHidden (sqV T BB (wl [(161, 161, none)]) r m (fun m' => HTp m' (-1) 16 16)) 4 0 0 26 [.ref 123, .int y6, .int y28, .int y54, pv_U, pv_U, pv_U] [] (mk T m55 n56 r) := by
                intro fuel59
                induction fuel59 with
                | zero => intro y54 m55 n56 b62 b63 b64 b65 b66 b67 b68 I57 K58 z69; omega
                | succ fuel59 ih61 =>
                  intro y54 m55 n56 b62 b63 b64 b65 b66 b67 b68 I57 K58 z69
                  have z70 : 0 ≤ (m55 123 50).toInt ∧ (m55 123 50).toInt ≤ 4 := I57 123 50
                  have kl : LO16 m55 := LO16_of (fun j => I57 126 j)
                  have kg26 := (show HTp m55 y6.toInt y28.toInt y54.toInt by assumption)
                  refine pv_iload_n (M := mX12_laysHidden) 3 dX12_laysHidden_26 27 rfl rfl rfl ?_
                  refine pv_if_lt (M := mX12_laysHidden) (tgt := 96) dX12_laysHidden_27 30 rfl (by decide) (fun c73 => ?_) (fun c73 => ?_)
                  · have c73 := iv_lt (X := y54.toInt) (Y := 0) c73 rfl (by decide)
                    refine iv_inc (M := mX12_laysHidden) (C := (-1)) dX12_laysHidden_96 99 rfl rfl (by decide) rfl rfl (by decide) (by omega) (by omega) (fun v74 ev74 => ?_)
                    show PV _ _ _ _ _ _ _ 99 [.ref 123, .int y6, .int v74, .int y54, pv_U, pv_U, pv_U] [] _
                    refine pv_goto (M := mX12_laysHidden) (tgt := 16) dX12_laysHidden_99 (by decide) ?_
                    refine pv_fg (lo2 := [.ref 123, .int y6, .int v74, pv_U, pv_U, pv_U, pv_U]) ⟨Or.inr rfl, ⟨Or.inr rfl, ⟨Or.inr rfl, ⟨Or.inl rfl, ⟨Or.inl rfl, ⟨Or.inl rfl, ⟨Or.inl rfl, trivial⟩⟩⟩⟩⟩⟩⟩ ?_
                    have ku : v74.toInt = y28.toInt - 1 := by omega
                    have kb16 : HTp m55 y6.toInt v74.toInt 16 := by rw [ku]; exact HTp_c kl (by have q := kg26; rw [show y54.toInt = -1 by omega] at q; exact q)
                    have kw1 : y6.toInt ≤ LOq m55 0 := by omega
                    exact ih35 v74 m55 n56 (by first | omega | assumption | exact (iv_rng _).2 | exact (iv_rng _).1 | decide) (by first | omega | assumption | exact (iv_rng _).2 | exact (iv_rng _).1 | decide) (by first | omega | assumption | (show 2 ≤ (m55 123 50).toInt; omega) | decide) kw1 (by first | omega | assumption | (show v74.toInt ≤ LOq m55 1; omega) | decide) kb16 I57 K58 (by omega)
                  · have c73 := iv_nlt (X := y54.toInt) (Y := 0) c73 rfl (by decide)
                    have kI : in3 m55 y6.toInt y28.toInt y54.toInt := ⟨by omega, by omega, by omega, by omega, by omega, by omega⟩
                    refine pv_iconst (M := mX12_laysHidden) (v := 0) dX12_laysHidden_30 31 rfl (by decide) ?_
                    refine pv_istore (M := mX12_laysHidden) (lo2 := [.ref 123, .int y6, .int y28, .int y54, .int 0, pv_U, pv_U]) dX12_laysHidden_31 33 rfl (by decide) rfl rfl ?_
                    refine pv_iconst (M := mX12_laysHidden) (v := 0) dX12_laysHidden_33 34 rfl (by decide) ?_
                    refine pv_istore (M := mX12_laysHidden) (lo2 := [.ref 123, .int y6, .int y28, .int y54, .int 0, .int 0, pv_U]) dX12_laysHidden_34 36 rfl (by decide) rfl rfl ?_
                    have lp86 : ∀ (fuel85 : Nat) (y79 : Int32) (y80 : Int32), (0 ≤ y79.toInt) → (y79.toInt ≤ 16) → (0 ≤ y80.toInt) → (y80.toInt ≤ 26) → (HR1 m55 y6.toInt y28.toInt y54.toInt y79.toInt) → ((26 - y80.toInt) : Int).toNat < fuel85 → PV none g mX12_laysHidden (sqV T BB (wl [(161, 161, none)]) r m (fun m' => HTp m' (-1) 16 16)) 4 0 0 36 [.ref 123, .int y6, .int y28, .int y54, .int y79, .int y80, pv_U] [] (mk T m55 n56 r) := by
                      intro fuel85
                      induction fuel85 with
                      | zero => intro y79 y80 b88 b89 b90 b91 b92 z93; omega
                      | succ fuel85 ih87 =>
                        intro y79 y80 b88 b89 b90 b91 b92 z93
                        have kg36 := (show HR1 m55 y6.toInt y28.toInt y54.toInt y79.toInt by assumption)
                        refine pv_iload (M := mX12_laysHidden) dX12_laysHidden_36 38 rfl rfl ?_
                        refine pv_bipush (M := mX12_laysHidden) (v := 26) dX12_laysHidden_38 40 rfl (by decide) ?_
                        refine pv_icmp_ge (M := mX12_laysHidden) (tgt := 76) dX12_laysHidden_40 43 rfl (by decide) (fun c95 => ?_) (fun c95 => ?_)
                        · have c95 := iv_le (X := 26) (Y := y80.toInt) c95 (by decide) rfl
                          refine pv_aload_n (M := mX12_laysHidden) 0 dX12_laysHidden_76 77 rfl rfl rfl ?_
                          refine mv_get (M := mX12_laysHidden) (v := .ref 161) dX12_laysHidden_77 FX12 55 wd1228 (by decide) (tl123 hT) rfl rfl 80 rfl ?_
                          refine pv_aload_n (M := mX12_laysHidden) 0 dX12_laysHidden_80 81 rfl rfl rfl ?_
                          refine pv_iload_n (M := mX12_laysHidden) 1 dX12_laysHidden_81 82 rfl rfl rfl ?_
                          refine pv_iload_n (M := mX12_laysHidden) 2 dX12_laysHidden_82 83 rfl rfl rfl ?_
                          refine pv_iload_n (M := mX12_laysHidden) 3 dX12_laysHidden_83 84 rfl rfl rfl ?_
                          refine pv_callv (M := mX12_laysHidden) (as := [.int y6, .int y28, .int y54]) (st := [.ref 161]) (kc2 := 0) (ks2 := 0) dX12_laysHidden_84 wd1652 YX12_hiddenAt ⟨wd1654, wd102⟩ (mk_get (tl123 hT)) rfl rfl (s_X12_hiddenAt g hT I57 y6 (by omega) (by omega) y28 (by omega) (by omega) y54 (by omega) (by omega)) rfl rfl (Nat.le_of_ble_eq_true rfl) (by decide) rfl rfl 87 rfl (fun rv h1 q96 => ?_)
                          obtain ⟨v97, rfl, rfl, pv97, qv97, rv97⟩ := q96
                          replace rv97 : v97.toInt = (17 * y6.toInt + y28.toInt) * 17 + y54.toInt := rv97
                          show PV _ _ _ _ _ _ _ 87 [.ref 123, .int y6, .int y28, .int y54, .int y79, .int y80, pv_U] [.int v97, .ref 161] _
                          have k87 := rv97
                          refine pv_iload (M := mX12_laysHidden) dX12_laysHidden_87 89 rfl rfl ?_
                          refine iv_iast (M := mX12_laysHidden) (X := v97.toInt) (l1 := 0) (l2 := 16) dX12_laysHidden_89 (tl161 hT) rfl (by omega) (by omega) I57 (fun _ => rfl) (by omega) (by omega) 90 rfl (fun m99 e102 I100 => ?_)
                          have K101 := K58.set e102 rfl
                          have w103 : (m99 123 50).toInt = (m55 123 50).toInt := by rw [e102, up2_ne (by omega)]
                          have k90 := (e102).trans (up2_ix (j := hidx y6.toInt y28.toInt y54.toInt) (by unfold hidx; omega))
                          have k90b := HTp_set kg26 k90 (by omega) kI kl kg36
                          have k90c := HSAME.set k90 (by omega)
                          have k90d : ∀ q, LOq m99 q = LOq m55 q := LOq_eq k90c
                          refine iv_inc (M := mX12_laysHidden) (C := (-1)) dX12_laysHidden_90 93 rfl rfl (by decide) rfl rfl (by decide) (by omega) (by omega) (fun v108 ev108 => ?_)
                          show PV _ _ _ _ _ _ _ 93 [.ref 123, .int y6, .int y28, .int v108, .int y79, .int y80, pv_U] [] _
                          refine pv_goto (M := mX12_laysHidden) (tgt := 26) dX12_laysHidden_93 (by decide) ?_
                          refine pv_fg (lo2 := [.ref 123, .int y6, .int y28, .int v108, pv_U, pv_U, pv_U]) ⟨Or.inr rfl, ⟨Or.inr rfl, ⟨Or.inr rfl, ⟨Or.inr rfl, ⟨Or.inl rfl, ⟨Or.inl rfl, ⟨Or.inl rfl, trivial⟩⟩⟩⟩⟩⟩⟩ ?_
                          have ku : v108.toInt = y54.toInt - 1 := by omega
                          have kb26 : HTp m99 y6.toInt y28.toInt v108.toInt := by rw [ku]; exact k90b
                          have kq0 := k90d 0
                          have kq1 := k90d 1
                          have kq2 := k90d 2
                          have kw1 : y6.toInt ≤ LOq m99 0 := by omega
                          have kw2 : y28.toInt ≤ LOq m99 1 := by omega
                          exact ih61 v108 m99 n56 (by first | omega | assumption | exact (iv_rng _).2 | exact (iv_rng _).1 | decide) (by first | omega | assumption | exact (iv_rng _).2 | exact (iv_rng _).1 | decide) (by first | omega | assumption | (show 2 ≤ (m99 123 50).toInt; omega) | decide) kw1 kw2 (by first | omega | assumption | (show v108.toInt ≤ LOq m99 2; omega) | decide) kb26 I100 K101 (by omega)
                        · have c95 := iv_nle (X := 26) (Y := y80.toInt) c95 (by decide) rfl
                          have kA : HTp m55 y6.toInt 16 16 := fun a b c h1 h2 => kg26 a b c h1 (by have q1 := kl 1; have q2 := kl 2; have q3 := h1.2.2.2.1; have q4 := h1.2.2.2.2.2; unfold lg3 at *; omega)
                          refine pv_aload_n (M := mX12_laysHidden) 0 dX12_laysHidden_43 44 rfl rfl rfl ?_
                          refine pv_iload_n (M := mX12_laysHidden) 1 dX12_laysHidden_44 45 rfl rfl rfl ?_
                          refine pv_iload_n (M := mX12_laysHidden) 2 dX12_laysHidden_45 46 rfl rfl rfl ?_
                          refine pv_iload_n (M := mX12_laysHidden) 3 dX12_laysHidden_46 47 rfl rfl rfl ?_
                          refine pv_iload (M := mX12_laysHidden) dX12_laysHidden_47 49 rfl rfl ?_
                          refine pv_callv (M := mX12_laysHidden) (as := [.int y6, .int y28, .int y54, .int y80]) (st := []) (kc2 := 0) (ks2 := 0) dX12_laysHidden_49 wd1637 YX12_hiddenBy ⟨wd1639, wd99⟩ (mk_get (tl123 hT)) rfl rfl (s_X12_hiddenBy g hT I57 y6 (by omega) (by omega) y28 (by omega) (by omega) y54 (by omega) (by omega) y80 kA kI (by omega)) rfl rfl (Nat.le_of_ble_eq_true rfl) (by decide) rfl rfl 52 rfl (fun rv h1 q117 => ?_)
                          obtain ⟨v118, rfl, rfl, pv118, qv118, rv118⟩ := q117
                          replace rv118 : HBR m55 y6.toInt y28.toInt y54.toInt y80.toInt v118.toInt ∧ v118.toInt ≤ 16 - y6.toInt := rv118
                          show PV _ _ _ _ _ _ _ 52 [.ref 123, .int y6, .int y28, .int y54, .int y79, .int y80, pv_U] [.int v118] _
                          have k52 := rv118.1
                          have k52b := rv118.2
                          refine pv_istore (M := mX12_laysHidden) (lo2 := [.ref 123, .int y6, .int y28, .int y54, .int y79, .int y80, .int v118]) dX12_laysHidden_52 54 rfl (by decide) rfl rfl ?_
                          refine pv_iload (M := mX12_laysHidden) dX12_laysHidden_54 56 rfl rfl ?_
                          refine pv_iload (M := mX12_laysHidden) dX12_laysHidden_56 58 rfl rfl ?_
                          refine pv_icmp_le (M := mX12_laysHidden) (tgt := 66) dX12_laysHidden_58 61 rfl (by decide) (fun c121 => ?_) (fun c121 => ?_)
                          · have c121 := iv_le (X := v118.toInt) (Y := y79.toInt) c121 rfl rfl
                            refine pv_iload (M := mX12_laysHidden) dX12_laysHidden_66 68 rfl rfl ?_
                            refine pv_istore (M := mX12_laysHidden) (lo2 := [.ref 123, .int y6, .int y28, .int y54, .int y79, .int y80, .int v118]) dX12_laysHidden_68 70 rfl (by decide) rfl rfl ?_
                            refine iv_inc (M := mX12_laysHidden) (C := 1) dX12_laysHidden_70 73 rfl rfl (by decide) rfl rfl (by decide) (by omega) (by omega) (fun v122 ev122 => ?_)
                            show PV _ _ _ _ _ _ _ 73 [.ref 123, .int y6, .int y28, .int y54, .int y79, .int v122, .int v118] [] _
                            refine pv_goto (M := mX12_laysHidden) (tgt := 36) dX12_laysHidden_73 (by decide) ?_
                            refine pv_fg (lo2 := [.ref 123, .int y6, .int y28, .int y54, .int y79, .int v122, pv_U]) ⟨Or.inr rfl, ⟨Or.inr rfl, ⟨Or.inr rfl, ⟨Or.inr rfl, ⟨Or.inr rfl, ⟨Or.inr rfl, ⟨Or.inl rfl, trivial⟩⟩⟩⟩⟩⟩⟩ ?_
                            have kb36 : HR1 m55 y6.toInt y28.toInt y54.toInt y79.toInt := by first | exact HR1_up k52 (by omega) (by omega) k52b | exact kg36
                            exact ih87 y79 v122 (by first | omega | assumption | exact (iv_rng _).2 | exact (iv_rng _).1 | decide) (by first | omega | assumption | exact (iv_rng _).2 | exact (iv_rng _).1 | decide) (by first | omega | assumption | exact (iv_rng _).2 | exact (iv_rng _).1 | decide) (by first | omega | assumption | exact (iv_rng _).2 | exact (iv_rng _).1 | decide) kb36 (by omega)
                          · have c121 := iv_nle (X := v118.toInt) (Y := y79.toInt) c121 rfl rfl
                            refine pv_iload (M := mX12_laysHidden) dX12_laysHidden_61 63 rfl rfl ?_
                            refine pv_goto (M := mX12_laysHidden) (tgt := 68) dX12_laysHidden_63 (by decide) ?_
                            refine pv_istore (M := mX12_laysHidden) (lo2 := [.ref 123, .int y6, .int y28, .int y54, .int v118, .int y80, .int v118]) dX12_laysHidden_68 70 rfl (by decide) rfl rfl ?_
                            refine iv_inc (M := mX12_laysHidden) (C := 1) dX12_laysHidden_70 73 rfl rfl (by decide) rfl rfl (by decide) (by omega) (by omega) (fun v124 ev124 => ?_)
                            show PV _ _ _ _ _ _ _ 73 [.ref 123, .int y6, .int y28, .int y54, .int v118, .int v124, .int v118] [] _
                            refine pv_goto (M := mX12_laysHidden) (tgt := 36) dX12_laysHidden_73 (by decide) ?_
                            refine pv_fg (lo2 := [.ref 123, .int y6, .int y28, .int y54, .int v118, .int v124, pv_U]) ⟨Or.inr rfl, ⟨Or.inr rfl, ⟨Or.inr rfl, ⟨Or.inr rfl, ⟨Or.inr rfl, ⟨Or.inr rfl, ⟨Or.inl rfl, trivial⟩⟩⟩⟩⟩⟩⟩ ?_
                            have kb36 : HR1 m55 y6.toInt y28.toInt y54.toInt v118.toInt := by first | exact HR1_up k52 (by omega) (by omega) k52b | exact kg36
                            exact ih87 v118 v124 (by first | omega | assumption | exact (iv_rng _).2 | exact (iv_rng _).1 | decide) (by first | omega | assumption | exact (iv_rng _).2 | exact (iv_rng _).1 | decide) (by first | omega | assumption | exact (iv_rng _).2 | exact (iv_rng _).1 | decide) (by first | omega | assumption | exact (iv_rng _).2 | exact (iv_rng _).1 | decide) kb36 (by omega)
                    have z126 : (0 : Int32).toInt = 0 := by decide
                    have z127 : (0 : Int32).toInt = 0 := by decide
                    exact lp86 (((26 - 0) : Int).toNat + 1) 0 0 (by first | omega | assumption | exact (iv_rng _).2 | exact (iv_rng _).1 | decide) (by first | omega | assumption | exact (iv_rng _).2 | exact (iv_rng _).1 | decide) (by first | omega | assumption | exact (iv_rng _).2 | exact (iv_rng _).1 | decide) (by first | omega | assumption | exact (iv_rng _).2 | exact (iv_rng _).1 | decide) (by rw [show (0 : Int32).toInt = 0 by decide]; exact HR1_z (by omega)) (by omega)
              have kin26 : HTp m29 y6.toInt y28.toInt v52.toInt := HTp_dn kl kg16 (by omega) (by omega)
              exact lp60 (((v52.toInt - (-1)) : Int).toNat + 1) v52 m29 n30 (by first | omega | assumption | exact (iv_rng _).2 | exact (iv_rng _).1 | decide) (by first | omega | assumption | exact (iv_rng _).2 | exact (iv_rng _).1 | decide) (by first | omega | assumption | (show 2 ≤ (m29 123 50).toInt; omega) | decide) (by omega) (by omega) (by omega) kin26 I31 K32 (by omega)
        have kin16 : HTp m7 y6.toInt v26.toInt 16 := HTp_dn kl kg6 (by omega) (by omega)
        exact lp34 (((v26.toInt - (-1)) : Int).toNat + 1) v26 m7 n8 (by first | omega | assumption | exact (iv_rng _).2 | exact (iv_rng _).1 | decide) (by first | omega | assumption | exact (iv_rng _).2 | exact (iv_rng _).1 | decide) (by first | omega | assumption | (show 2 ≤ (m7 123 50).toInt; omega) | decide) (by omega) (by omega) kin16 I9 K10 (by omega)
  exact lp12 (((v4.toInt - (-1)) : Int).toNat + 1) v4 m n (by first | omega | assumption | exact (iv_rng _).2 | exact (iv_rng _).1 | decide) (by first | omega | assumption | exact (iv_rng _).2 | exact (iv_rng _).1 | decide) (by first | omega | assumption | (show 2 ≤ (m 123 50).toInt; omega) | decide) (by omega) (HTp_a kl (by omega)) I Kp (by omega)

set_option maxHeartbeats 2000000 in
set_option maxRecDepth 20000 in
theorem s_X12_hidden (g : pv_G) {T : List mv_T} {m : Nat → Nat → Int32} {n : Nat → Nat → Int64} {r : Nat → Value} (hT : TX T) (I : IV BB m) (x0 : Int32) (x1 : Int32) : PM g mX12_hidden yX12_hidden (sqI T BB (wl [(123, 123, some 50), (157, 157, none), (161, 161, none)]) r m (-2147483648) 2147483647 (fun m' v => True)) 5 0 0 [.ref 123, .int x0, .int x1] (mk T m n r) := by
  have Kp : fr (wl [(123, 123, some 50), (157, 157, none), (161, 161, none)]) m m := fr.rf
  have z119 : 0 ≤ (m 123 50).toInt ∧ (m 123 50).toInt ≤ 4 := I 123 50
  refine PM.of 6 (lo := [.ref 123, .int x0, .int x1, pv_U, pv_U, pv_U, pv_U, pv_U, pv_U]) rfl (by decide) rfl rfl (Nat.le_of_ble_eq_true rfl) ?_
  refine pv_aload_n (M := mX12_hidden) 0 dX12_hidden_0 1 rfl rfl rfl ?_
  refine pv_iload_n (M := mX12_hidden) 1 dX12_hidden_1 2 rfl rfl rfl ?_
  refine pv_iconst (M := mX12_hidden) (v := 2) dX12_hidden_2 3 rfl (by decide) ?_
  refine pv_iconst (M := mX12_hidden) (v := 3) dX12_hidden_3 4 rfl (by decide) ?_
  have z1 : (2 : Int32).toInt = 2 := by decide
  have z2 : (3 : Int32).toInt = 3 := by decide
  refine pv_callv (M := mX12_hidden) (as := [.int x0, .int 2, .int 3]) (st := []) (kc2 := 0) (ks2 := 0) dX12_hidden_4 wd1622 YX12_spreads ⟨wd1624, wd96⟩ (mk_get (tl123 hT)) rfl rfl (s_X12_spreads g hT I x0 2 (by decide) (by decide) 3 (by decide) (by decide)) rfl rfl (Nat.le_of_ble_eq_true rfl) (by decide) rfl rfl 7 rfl (fun rv h1 q3 => ?_)
  obtain ⟨m4, n5, v8, rfl, rfl, I6, K7, pv8, qv8, rv8⟩ := q3
  replace rv8 : (v8.toInt = 0 ∧ m4 = m) ∨ (v8.toInt = 1 ∧ CHI m4 x0 8 ∧ CHA m4 x0 8 ∧ (2 : Int) ≤ (m4 123 50).toInt ∧ (m4 123 50).toInt ≤ (3 : Int)) := by have q_ := rv8; (try rw [z1] at q_); (try rw [z2] at q_); exact q_
  have K7c := K7
  have K7 := Kp.trans (K7.sub (wl_sub (by decide)))
  show PV _ _ _ _ _ _ _ 7 [.ref 123, .int x0, .int x1, pv_U, pv_U, pv_U, pv_U, pv_U, pv_U] [.int v8] _
  have k7 := rv8
  refine pv_if_ne (M := mX12_hidden) (tgt := 12) dX12_hidden_7 10 rfl (by decide) (fun c10 => ?_) (fun c10 => ?_)
  · have c10 := iv_ne (X := v8.toInt) (Y := 0) c10 rfl (by decide)
    have k12 := k7.resolve_left (fun q => by omega)
    have k12b := k12.2.2.2.1
    clear k7
    refine pv_aload_n (M := mX12_hidden) 0 dX12_hidden_12 13 rfl rfl rfl ?_
    refine pv_callv (M := mX12_hidden) (as := []) (st := []) (kc2 := 0) (ks2 := 0) dX12_hidden_13 wd1629 YX12_laysHidden ⟨wd1631, wd97⟩ (mk_get (tl123 hT)) rfl rfl (s_X12_laysHidden g hT I6 (by omega)) rfl rfl (Nat.le_of_ble_eq_true rfl) (by decide) rfl rfl 16 rfl (fun rv h1 q14 => ?_)
    obtain ⟨m15, n16, rfl, rfl, I17, K18, rm15⟩ := q14
    replace rm15 : HTp m15 (-1) 16 16 := rm15
    have K18c := K18
    have w19 : (m15 123 50).toInt = (m4 123 50).toInt := congrArg Int32.toInt (K18 123 50 rfl)
    have K18 := K7.trans (K18.sub (wl_sub (by decide)))
    show PV _ _ _ _ _ _ _ 16 [.ref 123, .int x0, .int x1, pv_U, pv_U, pv_U, pv_U, pv_U, pv_U] [] _
    have kF := rm15
    have kl : LO16 m15 := LO16_of (fun j => I17 126 j)
    refine pv_aload_n (M := mX12_hidden) 0 dX12_hidden_16 17 rfl rfl rfl ?_
    refine mv_get (M := mX12_hidden) (v := .ref 161) dX12_hidden_17 FX12 55 wd1228 (by decide) (tl123 hT) rfl rfl 20 rfl ?_
    refine pv_iconst (M := mX12_hidden) (v := 0) dX12_hidden_20 21 rfl (by decide) ?_
    refine iv_iald (M := mX12_hidden) (X := 0) (l1 := 0) (l2 := 16) dX12_hidden_21 (tl161 hT) (by decide) (by omega) (by omega) I17 (fun _ => rfl) 22 rfl (fun v22 ev22 pv22 qv22 => ?_)
    have k22 : v22.toInt = (m15 161 0).toInt := congrArg Int32.toInt ev22
    refine pv_istore_n (M := mX12_hidden) 3 (lo2 := [.ref 123, .int x0, .int x1, .int v22, pv_U, pv_U, pv_U, pv_U, pv_U]) dX12_hidden_22 23 rfl rfl (by decide) rfl rfl ?_
    refine pv_iload_n (M := mX12_hidden) 2 dX12_hidden_23 24 rfl rfl rfl ?_
    refine pv_iconst (M := mX12_hidden) (v := (-1)) dX12_hidden_24 25 rfl (by decide) ?_
    refine pv_icmp_ne (M := mX12_hidden) (tgt := 30) dX12_hidden_25 28 rfl (by decide) (fun c24 => ?_) (fun c24 => ?_)
    · have c24 := iv_ne (X := x1.toInt) (Y := (-1)) c24 rfl (by decide)
      refine pv_iload_n (M := mX12_hidden) 2 dX12_hidden_30 31 rfl rfl rfl ?_
      refine pv_iconst (M := mX12_hidden) (v := 0) dX12_hidden_31 32 rfl (by decide) ?_
      refine pv_iload_n (M := mX12_hidden) 3 dX12_hidden_32 33 rfl rfl rfl ?_
      refine pv_iconst (M := mX12_hidden) (v := 1) dX12_hidden_33 34 rfl (by decide) ?_
      refine iv_isub (M := mX12_hidden) (X := v22.toInt) (Y := 1) dX12_hidden_34 35 rfl rfl (by decide) (by omega) (by omega) (fun v25 ev25 => ?_)
      have z26 : (0 : Int32).toInt = 0 := by decide
      refine pv_calls (M := mX12_hidden) (as := [.int x1, .int 0, .int v25]) (st := []) (kc2 := 0) (ks2 := 0) dX12_hidden_35 wd1370 YX12_in wd1371 (s_X12_in g hT I17 x1 0 v25) rfl rfl (Nat.le_of_ble_eq_true rfl) (by decide) rfl rfl 38 rfl (fun rv h1 q27 => ?_)
      obtain ⟨v28, rfl, rfl, pv28, qv28, rv28⟩ := q27
      replace rv28 : v28 = 0 ∨ ((0 : Int) ≤ x1.toInt ∧ x1.toInt ≤ v25.toInt) := by have q_ := rv28; (try rw [z26] at q_); exact q_
      show PV _ _ _ _ _ _ _ 38 [.ref 123, .int x0, .int x1, .int v22, pv_U, pv_U, pv_U, pv_U, pv_U] [.int v28] _
      refine pv_if_ne (M := mX12_hidden) (tgt := 43) dX12_hidden_38 41 rfl (by decide) (fun c29 => ?_) (fun c29 => ?_)
      · have pc29 := rv28.resolve_left c29
        have c29 := iv_ne (X := v28.toInt) (Y := 0) c29 rfl (by decide)
        refine pv_iconst (M := mX12_hidden) (v := 0) dX12_hidden_43 44 rfl (by decide) ?_
        refine pv_istore (M := mX12_hidden) (lo2 := [.ref 123, .int x0, .int x1, .int v22, .int 0, pv_U, pv_U, pv_U, pv_U]) dX12_hidden_44 46 rfl (by decide) rfl rfl ?_
        refine pv_iconst (M := mX12_hidden) (v := 0) dX12_hidden_46 47 rfl (by decide) ?_
        refine pv_istore (M := mX12_hidden) (lo2 := [.ref 123, .int x0, .int x1, .int v22, .int 0, .int 0, pv_U, pv_U, pv_U]) dX12_hidden_47 49 rfl (by decide) rfl rfl ?_
        refine pv_iconst (M := mX12_hidden) (v := 0) dX12_hidden_49 50 rfl (by decide) ?_
        refine pv_istore (M := mX12_hidden) (lo2 := [.ref 123, .int x0, .int x1, .int v22, .int 0, .int 0, .int 0, pv_U, pv_U]) dX12_hidden_50 52 rfl (by decide) rfl rfl ?_
        refine pv_iconst (M := mX12_hidden) (v := 0) dX12_hidden_52 53 rfl (by decide) ?_
        refine pv_istore (M := mX12_hidden) (lo2 := [.ref 123, .int x0, .int x1, .int v22, .int 0, .int 0, .int 0, .int 0, pv_U]) dX12_hidden_53 55 rfl (by decide) rfl rfl ?_
        have lp39 : ∀ (fuel38 : Nat) (y30 : Int32) (y31 : Int32) (y32 : Int32) (y33 : Int32), (0 ≤ y30.toInt) → (y30.toInt ≤ 16) → (0 ≤ y31.toInt) → (y31.toInt ≤ 16) → (0 ≤ y32.toInt) → (y32.toInt ≤ 16) → (0 ≤ y33.toInt) → (y33.toInt ≤ 15) → (y33.toInt ≤ x1.toInt) → (in3 m15 y30.toInt y31.toInt y32.toInt) → (HE m15 y30.toInt y31.toInt y32.toInt = v22.toInt - y33.toInt) → ((x1.toInt - y33.toInt) : Int).toNat < fuel38 → PV none g mX12_hidden (sqI T BB (wl [(123, 123, some 50), (157, 157, none), (161, 161, none)]) r m (-2147483648) 2147483647 (fun m' v => True)) 5 0 0 55 [.ref 123, .int x0, .int x1, .int v22, .int y30, .int y31, .int y32, .int y33, pv_U] [] (mk T m15 n16 r) := by
          intro fuel38
          induction fuel38 with
          | zero => intro y30 y31 y32 y33 b41 b42 b43 b44 b45 b46 b47 b48 b49 b50 b51 z52; omega
          | succ fuel38 ih40 =>
            intro y30 y31 y32 y33 b41 b42 b43 b44 b45 b46 b47 b48 b49 b50 b51 z52
            have kI := (show in3 m15 y30.toInt y31.toInt y32.toInt by assumption)
            have kT := (show HE m15 y30.toInt y31.toInt y32.toInt = v22.toInt - y33.toInt by assumption)
            have kR := kF _ _ _ kI (Or.inl (by omega))
            have kP : HTp m15 y30.toInt 16 16 := fun a b c h1 h2 => kF a b c h1 (Or.inl (by have q := h1.1; omega))
            refine pv_iconst (M := mX12_hidden) (v := 0) dX12_hidden_55 56 rfl (by decide) ?_
            refine pv_istore (M := mX12_hidden) (lo2 := [.ref 123, .int x0, .int x1, .int v22, .int y30, .int y31, .int y32, .int y33, .int 0]) dX12_hidden_56 58 rfl (by decide) rfl rfl ?_
            have lp63 : ∀ (fuel62 : Nat) (y57 : Int32), (0 ≤ y57.toInt) → (y57.toInt ≤ 25) → (HW1 m15 y30.toInt y31.toInt y32.toInt y57.toInt (HE m15 y30.toInt y31.toInt y32.toInt)) → ((25 - y57.toInt) : Int).toNat < fuel62 → PV none g mX12_hidden (sqI T BB (wl [(123, 123, some 50), (157, 157, none), (161, 161, none)]) r m (-2147483648) 2147483647 (fun m' v => True)) 5 0 0 58 [.ref 123, .int x0, .int x1, .int v22, .int y30, .int y31, .int y32, .int y33, .int y57] [] (mk T m15 n16 r) := by
              intro fuel62
              induction fuel62 with
              | zero => intro y57 b65 b66 b67 z68; omega
              | succ fuel62 ih64 =>
                intro y57 b65 b66 b67 z68
                have kw := (show HW1 m15 y30.toInt y31.toInt y32.toInt y57.toInt (HE m15 y30.toInt y31.toInt y32.toInt) by assumption)
                refine pv_aload_n (M := mX12_hidden) 0 dX12_hidden_58 59 rfl rfl rfl ?_
                refine pv_iload (M := mX12_hidden) dX12_hidden_59 61 rfl rfl ?_
                refine pv_iload (M := mX12_hidden) dX12_hidden_61 63 rfl rfl ?_
                refine pv_iload (M := mX12_hidden) dX12_hidden_63 65 rfl rfl ?_
                refine pv_iload (M := mX12_hidden) dX12_hidden_65 67 rfl rfl ?_
                refine pv_callv (M := mX12_hidden) (as := [.int y30, .int y31, .int y32, .int y57]) (st := []) (kc2 := 0) (ks2 := 0) dX12_hidden_67 wd1637 YX12_hiddenBy ⟨wd1639, wd99⟩ (mk_get (tl123 hT)) rfl rfl (s_X12_hiddenBy g hT I17 y30 (by omega) (by omega) y31 (by omega) (by omega) y32 (by omega) (by omega) y57 kP kI (by omega)) rfl rfl (Nat.le_of_ble_eq_true rfl) (by decide) rfl rfl 70 rfl (fun rv h1 q70 => ?_)
                obtain ⟨v71, rfl, rfl, pv71, qv71, rv71⟩ := q70
                replace rv71 : HBR m15 y30.toInt y31.toInt y32.toInt y57.toInt v71.toInt ∧ v71.toInt ≤ 16 - y30.toInt := rv71
                show PV _ _ _ _ _ _ _ 70 [.ref 123, .int x0, .int x1, .int v22, .int y30, .int y31, .int y32, .int y33, .int y57] [.int v71] _
                have k70 := rv71.1
                refine pv_aload_n (M := mX12_hidden) 0 dX12_hidden_70 71 rfl rfl rfl ?_
                refine mv_get (M := mX12_hidden) (v := .ref 161) dX12_hidden_71 FX12 55 wd1228 (by decide) (tl123 hT) rfl rfl 74 rfl ?_
                refine pv_aload_n (M := mX12_hidden) 0 dX12_hidden_74 75 rfl rfl rfl ?_
                refine pv_iload (M := mX12_hidden) dX12_hidden_75 77 rfl rfl ?_
                refine pv_iload (M := mX12_hidden) dX12_hidden_77 79 rfl rfl ?_
                refine pv_iload (M := mX12_hidden) dX12_hidden_79 81 rfl rfl ?_
                refine pv_callv (M := mX12_hidden) (as := [.int y30, .int y31, .int y32]) (st := [.ref 161, .int v71]) (kc2 := 0) (ks2 := 0) dX12_hidden_81 wd1652 YX12_hiddenAt ⟨wd1654, wd102⟩ (mk_get (tl123 hT)) rfl rfl (s_X12_hiddenAt g hT I17 y30 (by omega) (by omega) y31 (by omega) (by omega) y32 (by omega) (by omega)) rfl rfl (Nat.le_of_ble_eq_true rfl) (by decide) rfl rfl 84 rfl (fun rv h1 q73 => ?_)
                obtain ⟨v74, rfl, rfl, pv74, qv74, rv74⟩ := q73
                replace rv74 : v74.toInt = (17 * y30.toInt + y31.toInt) * 17 + y32.toInt := rv74
                show PV _ _ _ _ _ _ _ 84 [.ref 123, .int x0, .int x1, .int v22, .int y30, .int y31, .int y32, .int y33, .int y57] [.int v74, .ref 161, .int v71] _
                have k84 := rv74
                refine iv_iald (M := mX12_hidden) (X := v74.toInt) (l1 := 0) (l2 := 16) dX12_hidden_84 (tl161 hT) rfl (by omega) (by omega) I17 (fun _ => rfl) 85 rfl (fun v76 ev76 pv76 qv76 => ?_)
                have k85 : v76.toInt = HE m15 y30.toInt y31.toInt y32.toInt := (congrArg Int32.toInt ev76).trans (congrArg (fun z => (m15 161 z).toInt) (by unfold hidx; omega))
                refine pv_icmp_eq (M := mX12_hidden) (tgt := 97) dX12_hidden_85 88 rfl (by decide) (fun c78 => ?_) (fun c78 => ?_)
                · have c78 := iv_eq (X := v71.toInt) (Y := v76.toInt) c78 rfl rfl
                  refine pv_iload (M := mX12_hidden) dX12_hidden_97 99 rfl rfl ?_
                  refine pv_iload_n (M := mX12_hidden) 2 dX12_hidden_99 100 rfl rfl rfl ?_
                  refine pv_icmp_ne (M := mX12_hidden) (tgt := 106) dX12_hidden_100 103 rfl (by decide) (fun c79 => ?_) (fun c79 => ?_)
                  · have c79 := iv_ne (X := y33.toInt) (Y := x1.toInt) c79 rfl rfl
                    refine pv_aload_n (M := mX12_hidden) 0 dX12_hidden_106 107 rfl rfl rfl ?_
                    refine pv_iconst (M := mX12_hidden) (v := 0) dX12_hidden_107 108 rfl (by decide) ?_
                    refine pv_iload (M := mX12_hidden) dX12_hidden_108 110 rfl rfl ?_
                    refine pv_iload (M := mX12_hidden) dX12_hidden_110 112 rfl rfl ?_
                    have z80 : (0 : Int32).toInt = 0 := by decide
                    refine pv_callv (M := mX12_hidden) (as := [.int 0, .int y30, .int y57]) (st := []) (kc2 := 0) (ks2 := 0) dX12_hidden_112 wd1641 YX12_nextOf ⟨wd1643, wd100⟩ (mk_get (tl123 hT)) rfl rfl (s_X12_nextOf g hT I17 0 (by decide) (by decide) y30 (by omega) (by omega) y57) rfl rfl (Nat.le_of_ble_eq_true rfl) (by decide) rfl rfl 115 rfl (fun rv h1 q81 => ?_)
                    obtain ⟨v82, rfl, rfl, pv82, qv82, rv82⟩ := q81
                    replace rv82 : NXR m15 (0 : Int) y30.toInt y57.toInt v82.toInt := by have q_ := rv82; (try rw [z80] at q_); exact q_
                    show PV _ _ _ _ _ _ _ 115 [.ref 123, .int x0, .int x1, .int v22, .int y30, .int y31, .int y32, .int y33, .int y57] [.int v82] _
                    have k115 : NXR m15 0 y30.toInt y57.toInt v82.toInt := rv82
                    refine pv_iconst (M := mX12_hidden) (v := 1) dX12_hidden_115 116 rfl (by decide) ?_
                    refine iv_iadd (M := mX12_hidden) (X := v82.toInt) (Y := 1) dX12_hidden_116 117 rfl rfl (by decide) (by omega) (by omega) (fun v84 ev84 => ?_)
                    refine pv_istore (M := mX12_hidden) (lo2 := [.ref 123, .int x0, .int x1, .int v22, .int v84, .int y31, .int y32, .int y33, .int y57]) dX12_hidden_117 119 rfl (by decide) rfl rfl ?_
                    refine pv_aload_n (M := mX12_hidden) 0 dX12_hidden_119 120 rfl rfl rfl ?_
                    refine pv_iconst (M := mX12_hidden) (v := 1) dX12_hidden_120 121 rfl (by decide) ?_
                    refine pv_iload (M := mX12_hidden) dX12_hidden_121 123 rfl rfl ?_
                    refine pv_iload (M := mX12_hidden) dX12_hidden_123 125 rfl rfl ?_
                    have z85 : (1 : Int32).toInt = 1 := by decide
                    refine pv_callv (M := mX12_hidden) (as := [.int 1, .int y31, .int y57]) (st := []) (kc2 := 0) (ks2 := 0) dX12_hidden_125 wd1641 YX12_nextOf ⟨wd1643, wd100⟩ (mk_get (tl123 hT)) rfl rfl (s_X12_nextOf g hT I17 1 (by decide) (by decide) y31 (by omega) (by omega) y57) rfl rfl (Nat.le_of_ble_eq_true rfl) (by decide) rfl rfl 128 rfl (fun rv h1 q86 => ?_)
                    obtain ⟨v87, rfl, rfl, pv87, qv87, rv87⟩ := q86
                    replace rv87 : NXR m15 (1 : Int) y31.toInt y57.toInt v87.toInt := by have q_ := rv87; (try rw [z85] at q_); exact q_
                    show PV _ _ _ _ _ _ _ 128 [.ref 123, .int x0, .int x1, .int v22, .int v84, .int y31, .int y32, .int y33, .int y57] [.int v87] _
                    have k128 : NXR m15 1 y31.toInt y57.toInt v87.toInt := rv87
                    refine pv_iconst (M := mX12_hidden) (v := 1) dX12_hidden_128 129 rfl (by decide) ?_
                    refine iv_iadd (M := mX12_hidden) (X := v87.toInt) (Y := 1) dX12_hidden_129 130 rfl rfl (by decide) (by omega) (by omega) (fun v89 ev89 => ?_)
                    refine pv_istore (M := mX12_hidden) (lo2 := [.ref 123, .int x0, .int x1, .int v22, .int v84, .int v89, .int y32, .int y33, .int y57]) dX12_hidden_130 132 rfl (by decide) rfl rfl ?_
                    refine pv_iconst (M := mX12_hidden) (v := 2) dX12_hidden_132 133 rfl (by decide) ?_
                    refine pv_aload_n (M := mX12_hidden) 0 dX12_hidden_133 134 rfl rfl rfl ?_
                    refine iv_get (M := mX12_hidden) (l1 := 0) (l2 := 4) dX12_hidden_134 FX12 50 wd1223 (by decide) (tl123 hT) rfl I17 rfl 137 rfl (fun v90 ev90 pv90 qv90 => ?_)
                    have wv90 : v90.toInt = (m15 123 50).toInt := congrArg Int32.toInt ev90
                    refine pv_aload_n (M := mX12_hidden) 0 dX12_hidden_137 138 rfl rfl rfl ?_
                    refine pv_iconst (M := mX12_hidden) (v := 2) dX12_hidden_138 139 rfl (by decide) ?_
                    refine pv_iload (M := mX12_hidden) dX12_hidden_139 141 rfl rfl ?_
                    refine pv_iload (M := mX12_hidden) dX12_hidden_141 143 rfl rfl ?_
                    have z91 : (2 : Int32).toInt = 2 := by decide
                    refine pv_callv (M := mX12_hidden) (as := [.int 2, .int y32, .int y57]) (st := [.int v90, .int 2]) (kc2 := 0) (ks2 := 0) dX12_hidden_143 wd1641 YX12_nextOf ⟨wd1643, wd100⟩ (mk_get (tl123 hT)) rfl rfl (s_X12_nextOf g hT I17 2 (by decide) (by decide) y32 (by omega) (by omega) y57) rfl rfl (Nat.le_of_ble_eq_true rfl) (by decide) rfl rfl 146 rfl (fun rv h1 q92 => ?_)
                    obtain ⟨v93, rfl, rfl, pv93, qv93, rv93⟩ := q92
                    replace rv93 : NXR m15 (2 : Int) y32.toInt y57.toInt v93.toInt := by have q_ := rv93; (try rw [z91] at q_); exact q_
                    show PV _ _ _ _ _ _ _ 146 [.ref 123, .int x0, .int x1, .int v22, .int v84, .int v89, .int y32, .int y33, .int y57] [.int v93, .int v90, .int 2] _
                    have k146 : NXR m15 2 y32.toInt y57.toInt v93.toInt := rv93
                    have kN := HBR_next k70 (by omega) (by omega) kI kl k115 k128 k146
                    have kN1 := kN.1
                    have kN2 := kN.2.1
                    have kN3 := kN.2.2.1
                    have kN4 := kN.2.2.2.1
                    have kN5 := kN.2.2.2.2
                    have z101 : (2 : Int32).toInt = 2 := by decide
                    refine pv_calls (M := mX12_hidden) (as := [.int 2, .int v90, .int v93]) (st := []) (kc2 := 0) (ks2 := 0) dX12_hidden_146 wd1649 YX12_behind wd1650 (s_X12_behind g hT I17 2 (by decide) (by decide) v90 (by omega) (by omega) v93 (by omega) (by omega)) rfl rfl (Nat.le_of_ble_eq_true rfl) (by decide) rfl rfl 149 rfl (fun rv h1 q102 => ?_)
                    obtain ⟨v103, rfl, rfl, pv103, qv103, rv103⟩ := q102
                    replace rv103 : v103.toInt = (if (2 : Int) < v90.toInt then v93.toInt + 1 else 0) := by have q_ := rv103; (try rw [z101] at q_); exact q_
                    show PV _ _ _ _ _ _ _ 149 [.ref 123, .int x0, .int x1, .int v22, .int v84, .int v89, .int y32, .int y33, .int y57] [.int v103] _
                    have k149 := rv103
                    refine pv_istore (M := mX12_hidden) (lo2 := [.ref 123, .int x0, .int x1, .int v22, .int v84, .int v89, .int v103, .int y33, .int y57]) dX12_hidden_149 151 rfl (by decide) rfl rfl ?_
                    refine iv_inc (M := mX12_hidden) (C := 1) dX12_hidden_151 154 rfl rfl (by decide) rfl rfl (by decide) (by omega) (by omega) (fun v105 ev105 => ?_)
                    show PV _ _ _ _ _ _ _ 154 [.ref 123, .int x0, .int x1, .int v22, .int v84, .int v89, .int v103, .int v105, .int y57] [] _
                    refine pv_goto (M := mX12_hidden) (tgt := 55) dX12_hidden_154 (by decide) ?_
                    refine pv_fg (lo2 := [.ref 123, .int x0, .int x1, .int v22, .int v84, .int v89, .int v103, .int v105, pv_U]) ⟨Or.inr rfl, ⟨Or.inr rfl, ⟨Or.inr rfl, ⟨Or.inr rfl, ⟨Or.inr rfl, ⟨Or.inr rfl, ⟨Or.inr rfl, ⟨Or.inr rfl, ⟨Or.inl rfl, trivial⟩⟩⟩⟩⟩⟩⟩⟩⟩ ?_
                    have kIb : in3 m15 v84.toInt v89.toInt v103.toInt := in3_of kN4 (by omega) (by omega) (by omega)
                    have kTb : HE m15 v84.toInt v89.toInt v103.toInt = v22.toInt - v105.toInt := (HE_of (by omega) (by omega) (by omega)).trans (kN5.trans (by omega))
                    exact ih40 v84 v89 v103 v105 (by first | omega | assumption | exact (iv_rng _).2 | exact (iv_rng _).1 | decide) (by first | omega | assumption | exact (iv_rng _).2 | exact (iv_rng _).1 | decide) (by first | omega | assumption | exact (iv_rng _).2 | exact (iv_rng _).1 | decide) (by first | omega | assumption | exact (iv_rng _).2 | exact (iv_rng _).1 | decide) (by first | omega | assumption | exact (iv_rng _).2 | exact (iv_rng _).1 | decide) (by first | omega | assumption | exact (iv_rng _).2 | exact (iv_rng _).1 | decide) (by first | omega | assumption | exact (iv_rng _).2 | exact (iv_rng _).1 | decide) (by first | omega | assumption | exact (iv_rng _).2 | exact (iv_rng _).1 | decide) (by first | omega | assumption | (show v105.toInt ≤ x1.toInt; omega) | decide) kIb kTb (by omega)
                  · have c79 := iv_eq (X := y33.toInt) (Y := x1.toInt) c79 rfl rfl
                    refine pv_iload (M := mX12_hidden) dX12_hidden_103 105 rfl rfl ?_
                    exact pv_iret (M := mX12_hidden) dX12_hidden_105 rfl rfl ⟨_, _, _, rfl, rfl, I17, K18, (iv_rng y57).1, (iv_rng y57).2, trivial⟩
                · have c78 := iv_ne (X := v71.toInt) (Y := v76.toInt) c78 rfl rfl
                  refine pv_iload (M := mX12_hidden) dX12_hidden_88 90 rfl rfl ?_
                  refine pv_iconst (M := mX12_hidden) (v := 1) dX12_hidden_90 91 rfl (by decide) ?_
                  refine iv_iadd (M := mX12_hidden) (X := y57.toInt) (Y := 1) dX12_hidden_91 92 rfl rfl (by decide) (by omega) (by omega) (fun v108 ev108 => ?_)
                  refine pv_istore (M := mX12_hidden) (lo2 := [.ref 123, .int x0, .int x1, .int v22, .int y30, .int y31, .int y32, .int y33, .int v108]) dX12_hidden_92 94 rfl (by decide) rfl rfl ?_
                  refine pv_goto (M := mX12_hidden) (tgt := 58) dX12_hidden_94 (by decide) ?_
                  have kwb : HW1 m15 y30.toInt y31.toInt y32.toInt v108.toInt (HE m15 y30.toInt y31.toInt y32.toInt) := by rw [show v108.toInt = y57.toInt + 1 by omega]; exact HW1.step kw k70 (by omega) kI
                  have kx : v108.toInt ≤ 25 := kwb.le
                  exact ih64 v108 (by first | omega | assumption | exact (iv_rng _).2 | exact (iv_rng _).1 | decide) (by first | omega | assumption | exact (iv_rng _).2 | exact (iv_rng _).1 | decide) kwb (by omega)
            have z111 : (0 : Int32).toInt = 0 := by decide
            have kw0 : HW1 m15 y30.toInt y31.toInt y32.toInt (0 : Int32).toInt (HE m15 y30.toInt y31.toInt y32.toInt) := by rw [Int32.toInt_zero]; exact HW1.start kR (by omega)
            exact lp63 (((25 - 0) : Int).toNat + 1) 0 (by first | omega | assumption | exact (iv_rng _).2 | exact (iv_rng _).1 | decide) (by first | omega | assumption | exact (iv_rng _).2 | exact (iv_rng _).1 | decide) kw0 (by omega)
        have z113 : (0 : Int32).toInt = 0 := by decide
        have z114 : (0 : Int32).toInt = 0 := by decide
        have z115 : (0 : Int32).toInt = 0 := by decide
        have z116 : (0 : Int32).toInt = 0 := by decide
        have kI0 : in3 m15 (0 : Int32).toInt (0 : Int32).toInt (0 : Int32).toInt := by rw [Int32.toInt_zero]; exact ⟨by omega, (kl 0).1, by omega, (kl 1).1, by omega, (kl 2).1⟩
        have kT0 : HE m15 (0 : Int32).toInt (0 : Int32).toInt (0 : Int32).toInt = v22.toInt - (0 : Int32).toInt := by unfold HE; rw [show hidx (0 : Int32).toInt (0 : Int32).toInt (0 : Int32).toInt = 0 by decide, Int32.toInt_zero]; omega
        exact lp39 (((x1.toInt - 0) : Int).toNat + 1) 0 0 0 0 (by first | omega | assumption | exact (iv_rng _).2 | exact (iv_rng _).1 | decide) (by first | omega | assumption | exact (iv_rng _).2 | exact (iv_rng _).1 | decide) (by first | omega | assumption | exact (iv_rng _).2 | exact (iv_rng _).1 | decide) (by first | omega | assumption | exact (iv_rng _).2 | exact (iv_rng _).1 | decide) (by first | omega | assumption | exact (iv_rng _).2 | exact (iv_rng _).1 | decide) (by first | omega | assumption | exact (iv_rng _).2 | exact (iv_rng _).1 | decide) (by first | omega | assumption | exact (iv_rng _).2 | exact (iv_rng _).1 | decide) (by first | omega | assumption | exact (iv_rng _).2 | exact (iv_rng _).1 | decide) (by first | omega | assumption | (show 0 ≤ x1.toInt; omega) | decide) kI0 kT0 (by omega)
      · have c29 := iv_eq (X := v28.toInt) (Y := 0) c29 rfl (by decide)
        refine pv_iconst (M := mX12_hidden) (v := (-1)) dX12_hidden_41 42 rfl (by decide) ?_
        exact pv_iret (M := mX12_hidden) dX12_hidden_42 rfl rfl ⟨_, _, _, rfl, rfl, I17, K18, by decide, by decide, trivial⟩
    · have c24 := iv_eq (X := x1.toInt) (Y := (-1)) c24 rfl (by decide)
      refine pv_iload_n (M := mX12_hidden) 3 dX12_hidden_28 29 rfl rfl rfl ?_
      exact pv_iret (M := mX12_hidden) dX12_hidden_29 rfl rfl ⟨_, _, _, rfl, rfl, I17, K18, (iv_rng v22).1, (iv_rng v22).2, trivial⟩
  · have c10 := iv_eq (X := v8.toInt) (Y := 0) c10 rfl (by decide)
    refine pv_iconst (M := mX12_hidden) (v := (-1)) dX12_hidden_10 11 rfl (by decide) ?_
    exact pv_iret (M := mX12_hidden) dX12_hidden_11 rfl rfl ⟨_, _, _, rfl, rfl, I6, K7, by decide, by decide, trivial⟩
