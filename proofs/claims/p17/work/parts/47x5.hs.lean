set_option maxHeartbeats 2000000 in
set_option maxRecDepth 20000 in
theorem s_X12_spreads_ve (g : pv_G) {T : List mv_T} {m : Nat → Nat → Int32} {n : Nat → Nat → Int64} {r : Nat → Value} (hT : TX T) (I : IV BB m) (x0 : Int32) (x1 : Int32) (hl1 : 2 ≤ x1.toInt) (hh1 : x1.toInt ≤ 2) (x2 : Int32) (hl2 : 2 ≤ x2.toInt) (hh2 : x2.toInt ≤ 4) : PM g mX12_spreads yX12_spreads (sqI T BB (wl [(123, 123, some 50), (157, 157, none)]) r m 0 1 (fun m' v => (v.toInt = 0 ∧ ¬ SPR m x0 x1.toInt x2.toInt ∧ m' = m) ∨ (v.toInt = 1 ∧ SPR m x0 x1.toInt x2.toInt ∧ CHLi m' x0 8 ∧ CHI m' x0 8 ∧ CHA m' x0 8))) 2 0 0 [.ref 123, .int x0, .int x1, .int x2] (mk T m n r) := by
  have Kp : fr (wl [(123, 123, some 50), (157, 157, none)]) m m := fr.rf
  have z91 : 0 ≤ (m 123 50).toInt ∧ (m 123 50).toInt ≤ 4 := I 123 50
  refine PM.of 1 (lo := [.ref 123, .int x0, .int x1, .int x2, pv_U]) rfl (by decide) rfl rfl (Nat.le_of_ble_eq_true rfl) ?_
  refine pv_iload_n (M := mX12_spreads) 1 dX12_spreads_0 1 rfl rfl rfl ?_
  refine pv_iconst (M := mX12_spreads) (v := 0) dX12_spreads_1 2 rfl (by decide) ?_
  refine pv_sipush (M := mX12_spreads) (v := 255) dX12_spreads_2 5 rfl (by decide) ?_
  have z1 : (0 : Int32).toInt = 0 := by decide
  have z2 : (255 : Int32).toInt = 255 := by decide
  refine pv_calls (M := mX12_spreads) (as := [.int x0, .int 0, .int 255]) (st := []) (kc2 := 0) (ks2 := 0) dX12_spreads_5 wd1370 YX12_in wd1371 (s_X12_in_vx g hT I x0 0 255) rfl rfl (Nat.le_of_ble_eq_true rfl) (by decide) rfl rfl 8 rfl (fun rv h1 q3 => ?_)
  obtain ⟨v4, rfl, rfl, pv4, qv4, rv4⟩ := q3
  replace rv4 : (v4 = 0 ∨ ((0 : Int) ≤ x0.toInt ∧ x0.toInt ≤ (255 : Int))) ∧ ((v4.toInt = 1 ∧ (0 : Int) ≤ x0.toInt ∧ x0.toInt ≤ (255 : Int)) ∨ (v4.toInt = 0 ∧ (x0.toInt < (0 : Int) ∨ (255 : Int) < x0.toInt))) := by have q_ := rv4; (try rw [z1] at q_); (try rw [z2] at q_); exact q_
  show PV _ _ _ _ _ _ _ 8 [.ref 123, .int x0, .int x1, .int x2, pv_U] [.int v4] _
  have k8 := rv4.2
  refine pv_if_eq (M := mX12_spreads) (tgt := 38) dX12_spreads_8 11 rfl (by decide) (fun c6 => ?_) (fun c6 => ?_)
  · have c6 := iv_eq (X := v4.toInt) (Y := 0) c6 rfl (by decide)
    refine pv_iconst (M := mX12_spreads) (v := 0) dX12_spreads_38 39 rfl (by decide) ?_
    have z7 : (0 : Int32).toInt = 0 := by decide
    exact pv_iret (M := mX12_spreads) dX12_spreads_39 rfl rfl ⟨_, _, _, rfl, rfl, I, Kp, by decide, by decide, (Or.inl ⟨by decide, fun q => by have q1 := q.1; have q2 := q.2.1; have q3 := q.2.2.1; have q4 := q.2.2.2.1; have q5 := q.2.2.2.2; omega, rfl⟩)⟩
  · have pc6 := rv4.1.resolve_left c6
    have c6 := iv_ne (X := v4.toInt) (Y := 0) c6 rfl (by decide)
    refine pv_iload_n (M := mX12_spreads) 1 dX12_spreads_11 12 rfl rfl rfl ?_
    refine pv_aload_n (M := mX12_spreads) 0 dX12_spreads_12 13 rfl rfl rfl ?_
    refine iv_get (M := mX12_spreads) (l1 := 0) (l2 := 255) dX12_spreads_13 FX12 4 wd1177 (by decide) (tl123 hT) rfl I rfl 16 rfl (fun v8 ev8 pv8 qv8 => ?_)
    have k16 := ev8
    refine pv_iconst (M := mX12_spreads) (v := (-1)) dX12_spreads_16 17 rfl (by decide) ?_
    refine iv_xorU (M := mX12_spreads) dX12_spreads_17 18 rfl (fun v10 ev10 => ?_)
    have k18 := ev10
    refine iv_andU (M := mX12_spreads) dX12_spreads_18 19 rfl (fun v12 ev12 => ?_)
    have k19 : (x0 &&& (m 123 4 ^^^ -1)).toInt = v12.toInt := by rw [ev12, k18, k16]
    refine pv_if_ne (M := mX12_spreads) (tgt := 38) dX12_spreads_19 22 rfl (by decide) (fun c14 => ?_) (fun c14 => ?_)
    · have c14 := iv_ne (X := v12.toInt) (Y := 0) c14 rfl (by decide)
      refine pv_iconst (M := mX12_spreads) (v := 0) dX12_spreads_38 39 rfl (by decide) ?_
      have z15 : (0 : Int32).toInt = 0 := by decide
      exact pv_iret (M := mX12_spreads) dX12_spreads_39 rfl rfl ⟨_, _, _, rfl, rfl, I, Kp, by decide, by decide, (Or.inl ⟨by decide, fun q => by have q1 := q.1; have q2 := q.2.1; have q3 := q.2.2.1; have q4 := q.2.2.2.1; have q5 := q.2.2.2.2; omega, rfl⟩)⟩
    · have c14 := iv_eq (X := v12.toInt) (Y := 0) c14 rfl (by decide)
      refine pv_iload_n (M := mX12_spreads) 1 dX12_spreads_22 23 rfl rfl rfl ?_
      refine pv_calls (M := mX12_spreads) (as := [.int x0]) (st := []) (kc2 := 0) (ks2 := 0) dX12_spreads_23 wd1626 YX12_bits wd1627 (s_X12_bits g hT I x0) rfl rfl (Nat.le_of_ble_eq_true rfl) (by decide) rfl rfl 26 rfl (fun rv h1 q16 => ?_)
      obtain ⟨v17, rfl, rfl, pv17, qv17, rv17⟩ := q16
      replace rv17 : v17.toInt = bF x0 8 := rv17
      show PV _ _ _ _ _ _ _ 26 [.ref 123, .int x0, .int x1, .int x2, pv_U] [.int v17] _
      have k26 := rv17
      refine pv_iload_n (M := mX12_spreads) 2 dX12_spreads_26 27 rfl rfl rfl ?_
      refine pv_icmp_lt (M := mX12_spreads) (tgt := 38) dX12_spreads_27 30 rfl (by decide) (fun c19 => ?_) (fun c19 => ?_)
      · have c19 := iv_lt (X := v17.toInt) (Y := x1.toInt) c19 rfl rfl
        refine pv_iconst (M := mX12_spreads) (v := 0) dX12_spreads_38 39 rfl (by decide) ?_
        have z20 : (0 : Int32).toInt = 0 := by decide
        exact pv_iret (M := mX12_spreads) dX12_spreads_39 rfl rfl ⟨_, _, _, rfl, rfl, I, Kp, by decide, by decide, (Or.inl ⟨by decide, fun q => by have q1 := q.1; have q2 := q.2.1; have q3 := q.2.2.1; have q4 := q.2.2.2.1; have q5 := q.2.2.2.2; omega, rfl⟩)⟩
      · have c19 := iv_nlt (X := v17.toInt) (Y := x1.toInt) c19 rfl rfl
        refine pv_iload_n (M := mX12_spreads) 1 dX12_spreads_30 31 rfl rfl rfl ?_
        refine pv_calls (M := mX12_spreads) (as := [.int x0]) (st := []) (kc2 := 0) (ks2 := 0) dX12_spreads_31 wd1626 YX12_bits wd1627 (s_X12_bits g hT I x0) rfl rfl (Nat.le_of_ble_eq_true rfl) (by decide) rfl rfl 34 rfl (fun rv h1 q21 => ?_)
        obtain ⟨v22, rfl, rfl, pv22, qv22, rv22⟩ := q21
        replace rv22 : v22.toInt = bF x0 8 := rv22
        show PV _ _ _ _ _ _ _ 34 [.ref 123, .int x0, .int x1, .int x2, pv_U] [.int v22] _
        have k34 := rv22
        refine pv_iload_n (M := mX12_spreads) 3 dX12_spreads_34 35 rfl rfl rfl ?_
        refine pv_icmp_le (M := mX12_spreads) (tgt := 40) dX12_spreads_35 38 rfl (by decide) (fun c24 => ?_) (fun c24 => ?_)
        · have c24 := iv_le (X := v22.toInt) (Y := x2.toInt) c24 rfl rfl
          refine pv_aload_n (M := mX12_spreads) 0 dX12_spreads_40 41 rfl rfl rfl ?_
          refine pv_iconst (M := mX12_spreads) (v := 0) dX12_spreads_41 42 rfl (by decide) ?_
          refine iv_put (M := mX12_spreads) (l1 := 0) (l2 := 4) dX12_spreads_42 FX12 50 wd1223 (by decide) rfl (tl123 hT) rfl rfl rfl I rfl (by decide) (by decide) 45 rfl (fun m25 e28 I26 => ?_)
          have K27 := Kp.set e28 rfl
          have w29 : (m25 123 50).toInt = 0 := by rw [e28, up2_eq] <;> rfl
          refine pv_iconst (M := mX12_spreads) (v := 0) dX12_spreads_45 46 rfl (by decide) ?_
          refine pv_istore (M := mX12_spreads) (lo2 := [.ref 123, .int x0, .int x1, .int x2, .int 0]) dX12_spreads_46 48 rfl (by decide) rfl rfl ?_
          have lp36 : ∀ (fuel35 : Nat) (y30 : Int32) (m31 : Nat → Nat → Int32) (n32 : Nat → Nat → Int64), (0 ≤ y30.toInt) → (y30.toInt ≤ 8) → ((m31 123 50).toInt = bF x0 y30.toInt.toNat) → (CHI m31 x0 y30.toInt ∧ CHA m31 x0 y30.toInt) → (CHLi m31 x0 y30.toInt.toNat) → IV BB m31 → fr (wl [(123, 123, some 50), (157, 157, none)]) m m31 → ((8 - y30.toInt) : Int).toNat < fuel35 → PV none g mX12_spreads (sqI T BB (wl [(123, 123, some 50), (157, 157, none)]) r m 0 1 (fun m' v => (v.toInt = 0 ∧ ¬ SPR m x0 x1.toInt x2.toInt ∧ m' = m) ∨ (v.toInt = 1 ∧ SPR m x0 x1.toInt x2.toInt ∧ CHLi m' x0 8 ∧ CHI m' x0 8 ∧ CHA m' x0 8))) 2 0 0 48 [.ref 123, .int x0, .int x1, .int x2, .int y30] [] (mk T m31 n32 r) := by
            intro fuel35
            induction fuel35 with
            | zero => intro y30 m31 n32 b38 b39 b40 b41 b42 I33 K34 z43; omega
            | succ fuel35 ih37 =>
              intro y30 m31 n32 b38 b39 b40 b41 b42 I33 K34 z43
              have z44 : 0 ≤ (m31 123 50).toInt ∧ (m31 123 50).toInt ≤ 4 := I33 123 50
              have kg1 := (show (m31 123 50).toInt = bF x0 y30.toInt.toNat by assumption)
              have kg2 := (show CHI m31 x0 y30.toInt ∧ CHA m31 x0 y30.toInt by assumption)
              have kg3 := (show CHLi m31 x0 y30.toInt.toNat by assumption)
              refine pv_iload (M := mX12_spreads) dX12_spreads_48 50 rfl rfl ?_
              refine pv_bipush (M := mX12_spreads) (v := 8) dX12_spreads_50 52 rfl (by decide) ?_
              refine pv_icmp_ge (M := mX12_spreads) (tgt := 94) dX12_spreads_52 55 rfl (by decide) (fun c48 => ?_) (fun c48 => ?_)
              · have c48 := iv_le (X := 8) (Y := y30.toInt) c48 (by decide) rfl
                refine pv_iconst (M := mX12_spreads) (v := 1) dX12_spreads_94 95 rfl (by decide) ?_
                have z49 : (1 : Int32).toInt = 1 := by decide
                exact pv_iret (M := mX12_spreads) dX12_spreads_95 rfl rfl ⟨_, _, _, rfl, rfl, I33, K34, by decide, by decide, (Or.inr ⟨by decide, ⟨by omega, by omega, by omega, by omega, by omega⟩, (by have q := kg3; rw [show y30.toInt.toNat = 8 by omega] at q; exact q), (by have q := kg2.1; rw [show y30.toInt = 8 by omega] at q; exact q), (by have q := kg2.2; rw [show y30.toInt = 8 by omega] at q; exact q)⟩)⟩
              · have c48 := iv_nle (X := 8) (Y := y30.toInt) c48 (by decide) rfl
                refine pv_iload_n (M := mX12_spreads) 1 dX12_spreads_55 56 rfl rfl rfl ?_
                refine pv_iload (M := mX12_spreads) dX12_spreads_56 58 rfl rfl ?_
                refine iv_shrU (M := mX12_spreads) dX12_spreads_58 59 rfl (fun v50 ev50 => ?_)
                have k59 := ev50
                refine pv_iconst (M := mX12_spreads) (v := 1) dX12_spreads_59 60 rfl (by decide) ?_
                refine iv_iandm (M := mX12_spreads) dX12_spreads_60 61 rfl 1 (by decide) (by decide) (fun v52 ev52 pv52 qv52 => ?_)
                have qv52 : v52.toInt < 2 := qv52
                have k61 := bt_of k59 ev52
                have k61b := bF_s (d := x0) (j := y30.toInt) (k := y30.toInt + 1) (by omega) rfl
                have k61c := bF_le x0 8 (y30.toInt + 1).toNat (by omega)
                refine pv_if_ne (M := mX12_spreads) (tgt := 67) dX12_spreads_61 64 rfl (by decide) (fun c56 => ?_) (fun c56 => ?_)
                · have c56 := iv_ne (X := v52.toInt) (Y := 0) c56 rfl (by decide)
                  refine pv_aload_n (M := mX12_spreads) 0 dX12_spreads_67 68 rfl rfl rfl ?_
                  refine mv_get (M := mX12_spreads) (v := .ref 157) dX12_spreads_68 FX12 51 wd1224 (by decide) (tl123 hT) rfl rfl 71 rfl ?_
                  refine pv_aload_n (M := mX12_spreads) 0 dX12_spreads_71 72 rfl rfl rfl ?_
                  refine iv_get (M := mX12_spreads) (l1 := 0) (l2 := 4) dX12_spreads_72 FX12 50 wd1223 (by decide) (tl123 hT) rfl I33 rfl 75 rfl (fun v57 ev57 pv57 qv57 => ?_)
                  have wv57 : v57.toInt = (m31 123 50).toInt := congrArg Int32.toInt ev57
                  have k75 : v57.toInt = (m31 123 50).toInt := congrArg Int32.toInt ev57
                  refine pv_iload (M := mX12_spreads) dX12_spreads_75 77 rfl rfl ?_
                  refine iv_iast (M := mX12_spreads) (X := v57.toInt) (l1 := 0) (l2 := 7) dX12_spreads_77 (tl157 hT) rfl (by omega) (by omega) I33 (fun _ => rfl) (by omega) (by omega) 78 rfl (fun m59 e62 I60 => ?_)
                  have K61 := K34.set e62 rfl
                  have w63 : (m59 123 50).toInt = (m31 123 50).toInt := by rw [e62, up2_ne (by omega)]
                  have k78 := (e62).trans (up2_ix (j := (m31 123 50).toInt.toNat) (by omega))
                  refine pv_aload_n (M := mX12_spreads) 0 dX12_spreads_78 79 rfl rfl rfl ?_
                  refine pv_aload_n (M := mX12_spreads) 0 dX12_spreads_79 80 rfl rfl rfl ?_
                  refine iv_get (M := mX12_spreads) (l1 := 0) (l2 := 4) dX12_spreads_80 FX12 50 wd1223 (by decide) (tl123 hT) rfl I60 rfl 83 rfl (fun v65 ev65 pv65 qv65 => ?_)
                  have wv65 : v65.toInt = (m59 123 50).toInt := congrArg Int32.toInt ev65
                  have k83 : v65.toInt = (m31 123 50).toInt := by rw [ev65, k78, up2_ne (by omega)]
                  refine pv_iconst (M := mX12_spreads) (v := 1) dX12_spreads_83 84 rfl (by decide) ?_
                  refine iv_iadd (M := mX12_spreads) (X := v65.toInt) (Y := 1) dX12_spreads_84 85 rfl rfl (by decide) (by omega) (by omega) (fun v67 ev67 => ?_)
                  refine iv_put (M := mX12_spreads) (l1 := 0) (l2 := 4) dX12_spreads_85 FX12 50 wd1223 (by decide) rfl (tl123 hT) rfl rfl rfl I60 rfl (by omega) (by omega) 88 rfl (fun m68 e71 I69 => ?_)
                  have K70 := K61.set e71 rfl
                  have w72 : (m68 123 50).toInt = v67.toInt := by rw [e71, up2_eq]
                  try have k88 := CH_add kg2 (by omega) (by omega) (by omega) k78 (rfl) e71 (by omega) (rfl)
                  try have k88c := CHL_yes (j := y30.toInt + 1) (by omega) kg3 (by omega) rfl k78 rfl e71 (by omega)
                  refine iv_inc (M := mX12_spreads) (C := 1) dX12_spreads_88 91 rfl rfl (by decide) rfl rfl (by decide) (by omega) (by omega) (fun v75 ev75 => ?_)
                  show PV _ _ _ _ _ _ _ 91 [.ref 123, .int x0, .int x1, .int x2, .int v75] [] _
                  refine pv_goto (M := mX12_spreads) (tgt := 48) dX12_spreads_91 (by decide) ?_
                  have ku : v75.toInt = y30.toInt + 1 := by omega
                  have kb2 : CHI m68 x0 v75.toInt ∧ CHA m68 x0 v75.toInt := by rw [ku]; first | exact k88 | exact CH_skip kg2 (by omega) rfl
                  have kb1 : (m68 123 50).toInt = bF x0 v75.toInt.toNat := by rw [ku]; first | omega | (rw [e71, up2_eq]; omega)
                  have kb3 : CHLi m68 x0 v75.toInt.toNat := by rw [ku]; first | exact k88c | exact CHL_no (by omega) kg3 (by omega) rfl
                  exact ih37 v75 m68 n32 (by first | omega | assumption | exact (iv_rng _).2 | exact (iv_rng _).1 | decide) (by first | omega | assumption | exact (iv_rng _).2 | exact (iv_rng _).1 | decide) kb1 kb2 kb3 I69 K70 (by omega)
                · have c56 := iv_eq (X := v52.toInt) (Y := 0) c56 rfl (by decide)
                  refine pv_goto (M := mX12_spreads) (tgt := 88) dX12_spreads_64 (by decide) ?_
                  try have k88 := CH_add kg2 (by omega) (by omega) (by omega) k78 (rfl) e28 (by omega) (rfl)
                  try have k88c := CHL_yes (j := y30.toInt + 1) (by omega) kg3 (by omega) rfl k78 rfl e28 (by omega)
                  refine iv_inc (M := mX12_spreads) (C := 1) dX12_spreads_88 91 rfl rfl (by decide) rfl rfl (by decide) (by omega) (by omega) (fun v82 ev82 => ?_)
                  show PV _ _ _ _ _ _ _ 91 [.ref 123, .int x0, .int x1, .int x2, .int v82] [] _
                  refine pv_goto (M := mX12_spreads) (tgt := 48) dX12_spreads_91 (by decide) ?_
                  have ku : v82.toInt = y30.toInt + 1 := by omega
                  have kb2 : CHI m31 x0 v82.toInt ∧ CHA m31 x0 v82.toInt := by rw [ku]; first | exact k88 | exact CH_skip kg2 (by omega) rfl
                  have kb1 : (m31 123 50).toInt = bF x0 v82.toInt.toNat := by rw [ku]; first | omega | (rw [e28, up2_eq]; omega)
                  have kb3 : CHLi m31 x0 v82.toInt.toNat := by rw [ku]; first | exact k88c | exact CHL_no (by omega) kg3 (by omega) rfl
                  exact ih37 v82 m31 n32 (by first | omega | assumption | exact (iv_rng _).2 | exact (iv_rng _).1 | decide) (by first | omega | assumption | exact (iv_rng _).2 | exact (iv_rng _).1 | decide) kb1 kb2 kb3 I33 K34 (by omega)
          have z87 : (0 : Int32).toInt = 0 := by decide
          have ke1 : (m25 123 50).toInt = 0 := by rw [e28, up2_eq]; decide
          have ke2 : CHI m25 x0 0 ∧ CHA m25 x0 0 := ⟨fun q hq => by omega, fun i a b => by omega⟩
          exact lp36 (((8 - 0) : Int).toNat + 1) 0 m25 n (by first | omega | assumption | exact (iv_rng _).2 | exact (iv_rng _).1 | decide) (by first | omega | assumption | exact (iv_rng _).2 | exact (iv_rng _).1 | decide) (by rw [ke1, show (0 : Int32).toInt.toNat = 0 by decide]; rfl) (by rw [Int32.toInt_zero]; exact ke2) (by rw [Int32.toInt_zero]; exact CHL_0 ke1) I26 K27 (by omega)
        · have c24 := iv_nle (X := v22.toInt) (Y := x2.toInt) c24 rfl rfl
          refine pv_iconst (M := mX12_spreads) (v := 0) dX12_spreads_38 39 rfl (by decide) ?_
          have z90 : (0 : Int32).toInt = 0 := by decide
          exact pv_iret (M := mX12_spreads) dX12_spreads_39 rfl rfl ⟨_, _, _, rfl, rfl, I, Kp, by decide, by decide, (Or.inl ⟨by decide, fun q => by have q1 := q.1; have q2 := q.2.1; have q3 := q.2.2.1; have q4 := q.2.2.2.1; have q5 := q.2.2.2.2; omega, rfl⟩)⟩

set_option maxHeartbeats 2000000 in
set_option maxRecDepth 20000 in
theorem s_X12_laysHidden_vh (g : pv_G) {T : List mv_T} {m : Nat → Nat → Int32} {n : Nat → Nat → Int64} {r : Nat → Value} (hT : TX T) (I : IV BB m) (gx : Int32) (hp0 : 2 ≤ (m 123 50).toInt) (hp1 : (m 123 50).toInt ≤ 3) (hp2 : CHLi m gx 8) : PM g mX12_laysHidden yX12_laysHidden (sqV T BB (wl [(161, 161, none)]) r m (fun m' => HTp m' (-1) 16 16 ∧ RT3 m' gx (-1) 16 16)) 4 0 0 [.ref 123] (mk T m n r) := by
  have Kp : fr (wl [(161, 161, none)]) m m := fr.rf
  have z150 : 0 ≤ (m 123 50).toInt ∧ (m 123 50).toInt ≤ 4 := I 123 50
  refine PM.of 6 (lo := [.ref 123, pv_U, pv_U, pv_U, pv_U, pv_U, pv_U]) rfl (by decide) rfl rfl (Nat.le_of_ble_eq_true rfl) ?_
  have kl : LO16 m := LO16_of (fun j => I 126 j)
  refine pv_aload_n (M := mX12_laysHidden) 0 dX12_laysHidden_0 1 rfl rfl rfl ?_
  refine pv_iconst (M := mX12_laysHidden) (v := 0) dX12_laysHidden_1 2 rfl (by decide) ?_
  have z2 : (0 : Int32).toInt = 0 := by decide
  refine pv_callv (M := mX12_laysHidden) (as := [.int 0]) (st := []) (kc2 := 0) (ks2 := 0) dX12_laysHidden_2 wd1633 YX12_longOf ⟨wd1635, wd98⟩ (mk_get (tl123 hT)) rfl rfl (s_X12_longOf g hT I 0 (by decide) (by decide)) rfl rfl (Nat.le_of_ble_eq_true rfl) (by decide) rfl rfl 5 rfl (fun rv h1 q3 => ?_)
  obtain ⟨v4, rfl, rfl, pv4, qv4, rv4⟩ := q3
  replace rv4 : v4.toInt = LOq m (0 : Int) := by have q_ := rv4; (try rw [z2] at q_); exact q_
  show PV _ _ _ _ _ _ _ 5 [.ref 123, pv_U, pv_U, pv_U, pv_U, pv_U, pv_U] [.int v4] _
  have k5 : v4.toInt = LOq m 0 := rv4
  refine pv_istore_n (M := mX12_laysHidden) 1 (lo2 := [.ref 123, .int v4, pv_U, pv_U, pv_U, pv_U, pv_U]) dX12_laysHidden_5 6 rfl rfl (by decide) rfl rfl ?_
  have lp12 : ∀ (fuel11 : Nat) (y6 : Int32) (m7 : Nat → Nat → Int32) (n8 : Nat → Nat → Int64), (-1 ≤ y6.toInt) → (y6.toInt ≤ 16) → (2 ≤ (m7 123 50).toInt) → (y6.toInt ≤ LOq m7 0) → (HTp m7 y6.toInt 16 16) → (RT3 m7 gx y6.toInt 16 16) → IV BB m7 → fr (wl [(161, 161, none)]) m m7 → ((y6.toInt - (-1)) : Int).toNat < fuel11 → PV none g mX12_laysHidden (sqV T BB (wl [(161, 161, none)]) r m (fun m' => HTp m' (-1) 16 16 ∧ RT3 m' gx (-1) 16 16)) 4 0 0 6 [.ref 123, .int y6, pv_U, pv_U, pv_U, pv_U, pv_U] [] (mk T m7 n8 r) := by
    intro fuel11
    induction fuel11 with
    | zero => intro y6 m7 n8 b14 b15 b16 b17 b18 b19 I9 K10 z20; omega
    | succ fuel11 ih13 =>
      intro y6 m7 n8 b14 b15 b16 b17 b18 b19 I9 K10 z20
      have z21 : 0 ≤ (m7 123 50).toInt ∧ (m7 123 50).toInt ≤ 4 := I9 123 50
      have kl : LO16 m7 := LO16_of (fun j => I9 126 j)
      have kg6 := (show HTp m7 y6.toInt 16 16 by assumption)
      have kr6 := (show RT3 m7 gx y6.toInt 16 16 by assumption)
      refine pv_iload_n (M := mX12_laysHidden) 1 dX12_laysHidden_6 7 rfl rfl rfl ?_
      refine pv_if_lt (M := mX12_laysHidden) (tgt := 108) dX12_laysHidden_7 10 rfl (by decide) (fun c25 => ?_) (fun c25 => ?_)
      · have c25 := iv_lt (X := y6.toInt) (Y := 0) c25 rfl (by decide)
        exact pv_vret (M := mX12_laysHidden) dX12_laysHidden_108 rfl ⟨_, _, rfl, rfl, I9, K10, ⟨(by have q := kg6; rw [show y6.toInt = -1 by omega] at q; exact q), (by have q := kr6; rw [show y6.toInt = -1 by omega] at q; exact q)⟩⟩
      · have c25 := iv_nlt (X := y6.toInt) (Y := 0) c25 rfl (by decide)
        refine pv_aload_n (M := mX12_laysHidden) 0 dX12_laysHidden_10 11 rfl rfl rfl ?_
        refine pv_iconst (M := mX12_laysHidden) (v := 1) dX12_laysHidden_11 12 rfl (by decide) ?_
        have z26 : (1 : Int32).toInt = 1 := by decide
        refine pv_callv (M := mX12_laysHidden) (as := [.int 1]) (st := []) (kc2 := 0) (ks2 := 0) dX12_laysHidden_12 wd1633 YX12_longOf ⟨wd1635, wd98⟩ (mk_get (tl123 hT)) rfl rfl (s_X12_longOf g hT I9 1 (by decide) (by decide)) rfl rfl (Nat.le_of_ble_eq_true rfl) (by decide) rfl rfl 15 rfl (fun rv h1 q27 => ?_)
        obtain ⟨v28, rfl, rfl, pv28, qv28, rv28⟩ := q27
        replace rv28 : v28.toInt = LOq m7 (1 : Int) := by have q_ := rv28; (try rw [z26] at q_); exact q_
        show PV _ _ _ _ _ _ _ 15 [.ref 123, .int y6, pv_U, pv_U, pv_U, pv_U, pv_U] [.int v28] _
        have k15 : v28.toInt = LOq m7 1 := rv28
        refine pv_istore_n (M := mX12_laysHidden) 2 (lo2 := [.ref 123, .int y6, .int v28, pv_U, pv_U, pv_U, pv_U]) dX12_laysHidden_15 16 rfl rfl (by decide) rfl rfl ?_
        have lp36 : ∀ (fuel35 : Nat) (y30 : Int32) (m31 : Nat → Nat → Int32) (n32 : Nat → Nat → Int64), (-1 ≤ y30.toInt) → (y30.toInt ≤ 16) → (2 ≤ (m31 123 50).toInt) → (y6.toInt ≤ LOq m31 0) → (y30.toInt ≤ LOq m31 1) → (HTp m31 y6.toInt y30.toInt 16) → (RT3 m31 gx y6.toInt y30.toInt 16) → IV BB m31 → fr (wl [(161, 161, none)]) m m31 → ((y30.toInt - (-1)) : Int).toNat < fuel35 → PV none g mX12_laysHidden (sqV T BB (wl [(161, 161, none)]) r m (fun m' => HTp m' (-1) 16 16 ∧ RT3 m' gx (-1) 16 16)) 4 0 0 16 [.ref 123, .int y6, .int y30, pv_U, pv_U, pv_U, pv_U] [] (mk T m31 n32 r) := by
          intro fuel35
          induction fuel35 with
          | zero => intro y30 m31 n32 b38 b39 b40 b41 b42 b43 b44 I33 K34 z45; omega
          | succ fuel35 ih37 =>
            intro y30 m31 n32 b38 b39 b40 b41 b42 b43 b44 I33 K34 z45
            have z46 : 0 ≤ (m31 123 50).toInt ∧ (m31 123 50).toInt ≤ 4 := I33 123 50
            have kl : LO16 m31 := LO16_of (fun j => I33 126 j)
            have kg16 := (show HTp m31 y6.toInt y30.toInt 16 by assumption)
            have kr16 := (show RT3 m31 gx y6.toInt y30.toInt 16 by assumption)
            refine pv_iload_n (M := mX12_laysHidden) 2 dX12_laysHidden_16 17 rfl rfl rfl ?_
            refine pv_if_lt (M := mX12_laysHidden) (tgt := 102) dX12_laysHidden_17 20 rfl (by decide) (fun c50 => ?_) (fun c50 => ?_)
            · have c50 := iv_lt (X := y30.toInt) (Y := 0) c50 rfl (by decide)
              refine iv_inc (M := mX12_laysHidden) (C := (-1)) dX12_laysHidden_102 105 rfl rfl (by decide) rfl rfl (by decide) (by omega) (by omega) (fun v51 ev51 => ?_)
              show PV _ _ _ _ _ _ _ 105 [.ref 123, .int v51, .int y30, pv_U, pv_U, pv_U, pv_U] [] _
              refine pv_goto (M := mX12_laysHidden) (tgt := 6) dX12_laysHidden_105 (by decide) ?_
              refine pv_fg (lo2 := [.ref 123, .int v51, pv_U, pv_U, pv_U, pv_U, pv_U]) ⟨Or.inr rfl, ⟨Or.inr rfl, ⟨Or.inl rfl, ⟨Or.inl rfl, ⟨Or.inl rfl, ⟨Or.inl rfl, ⟨Or.inl rfl, trivial⟩⟩⟩⟩⟩⟩⟩ ?_
              have ku : v51.toInt = y6.toInt - 1 := by omega
              have kb6 : HTp m31 v51.toInt 16 16 := by rw [ku]; exact HTp_b kl (by have q := kg16; rw [show y30.toInt = -1 by omega] at q; exact q)
              have kc6 : RT3 m31 gx v51.toInt 16 16 := RT3_aa kl kr16 (by omega) (by omega)
              exact ih13 v51 m31 n32 (by first | omega | assumption | exact (iv_rng _).2 | exact (iv_rng _).1 | decide) (by first | omega | assumption | exact (iv_rng _).2 | exact (iv_rng _).1 | decide) (by first | omega | assumption | (show 2 ≤ (m31 123 50).toInt; omega) | decide) (by first | omega | assumption | (show v51.toInt ≤ LOq m31 0; omega) | decide) kb6 kc6 I33 K34 (by omega)
            · have c50 := iv_nlt (X := y30.toInt) (Y := 0) c50 rfl (by decide)
              refine pv_aload_n (M := mX12_laysHidden) 0 dX12_laysHidden_20 21 rfl rfl rfl ?_
              refine pv_iconst (M := mX12_laysHidden) (v := 2) dX12_laysHidden_21 22 rfl (by decide) ?_
              have z55 : (2 : Int32).toInt = 2 := by decide
              refine pv_callv (M := mX12_laysHidden) (as := [.int 2]) (st := []) (kc2 := 0) (ks2 := 0) dX12_laysHidden_22 wd1633 YX12_longOf ⟨wd1635, wd98⟩ (mk_get (tl123 hT)) rfl rfl (s_X12_longOf g hT I33 2 (by decide) (by decide)) rfl rfl (Nat.le_of_ble_eq_true rfl) (by decide) rfl rfl 25 rfl (fun rv h1 q56 => ?_)
              obtain ⟨v57, rfl, rfl, pv57, qv57, rv57⟩ := q56
              replace rv57 : v57.toInt = LOq m31 (2 : Int) := by have q_ := rv57; (try rw [z55] at q_); exact q_
              show PV _ _ _ _ _ _ _ 25 [.ref 123, .int y6, .int y30, pv_U, pv_U, pv_U, pv_U] [.int v57] _
              have k25 : v57.toInt = LOq m31 2 := rv57
              refine pv_istore_n (M := mX12_laysHidden) 3 (lo2 := [.ref 123, .int y6, .int y30, .int v57, pv_U, pv_U, pv_U]) dX12_laysHidden_25 26 rfl rfl (by decide) rfl rfl ?_
              have lp65 : ∀ (fuel64 : Nat) (y59 : Int32) (m60 : Nat → Nat → Int32) (n61 : Nat → Nat → Int64), (-1 ≤ y59.toInt) → (y59.toInt ≤ 16) → (2 ≤ (m60 123 50).toInt) → (y6.toInt ≤ LOq m60 0) → (y30.toInt ≤ LOq m60 1) → (y59.toInt ≤ LOq m60 2) → (HTp m60 y6.toInt y30.toInt y59.toInt) → (RT3 m60 gx y6.toInt y30.toInt y59.toInt) → IV BB m60 → fr (wl [(161, 161, none)]) m m60 → ((y59.toInt - (-1)) : Int).toNat < fuel64 → PV none g mX12_laysHidden (sqV T BB (wl [(161, 161, none)]) r m (fun m' => HTp m' (-1) 16 16 ∧ RT3 m' gx (-1) 16 16)) 4 0 0 26 [.ref 123, .int y6, .int y30, .int y59, pv_U, pv_U, pv_U] [] (mk T m60 n61 r) := by
                intro fuel64
                induction fuel64 with
                | zero => intro y59 m60 n61 b67 b68 b69 b70 b71 b72 b73 b74 I62 K63 z75; omega
                | succ fuel64 ih66 =>
                  intro y59 m60 n61 b67 b68 b69 b70 b71 b72 b73 b74 I62 K63 z75
                  have z76 : 0 ≤ (m60 123 50).toInt ∧ (m60 123 50).toInt ≤ 4 := I62 123 50
                  have kl : LO16 m60 := LO16_of (fun j => I62 126 j)
                  have kg26 := (show HTp m60 y6.toInt y30.toInt y59.toInt by assumption)
                  have kr26 := (show RT3 m60 gx y6.toInt y30.toInt y59.toInt by assumption)
                  have kC26 : CHLi m60 gx 8 := CHL_h hp2 (K63 123 50 rfl) (fun j => K63 157 j rfl)
                  have kch3 : (m60 123 50).toInt ≤ 3 := by rw [K63 123 50 rfl]; exact hp1
                  have kI26 := I62
                  refine pv_iload_n (M := mX12_laysHidden) 3 dX12_laysHidden_26 27 rfl rfl rfl ?_
                  refine pv_if_lt (M := mX12_laysHidden) (tgt := 96) dX12_laysHidden_27 30 rfl (by decide) (fun c83 => ?_) (fun c83 => ?_)
                  · have c83 := iv_lt (X := y59.toInt) (Y := 0) c83 rfl (by decide)
                    refine iv_inc (M := mX12_laysHidden) (C := (-1)) dX12_laysHidden_96 99 rfl rfl (by decide) rfl rfl (by decide) (by omega) (by omega) (fun v84 ev84 => ?_)
                    show PV _ _ _ _ _ _ _ 99 [.ref 123, .int y6, .int v84, .int y59, pv_U, pv_U, pv_U] [] _
                    refine pv_goto (M := mX12_laysHidden) (tgt := 16) dX12_laysHidden_99 (by decide) ?_
                    refine pv_fg (lo2 := [.ref 123, .int y6, .int v84, pv_U, pv_U, pv_U, pv_U]) ⟨Or.inr rfl, ⟨Or.inr rfl, ⟨Or.inr rfl, ⟨Or.inl rfl, ⟨Or.inl rfl, ⟨Or.inl rfl, ⟨Or.inl rfl, trivial⟩⟩⟩⟩⟩⟩⟩ ?_
                    have ku : v84.toInt = y30.toInt - 1 := by omega
                    have kb16 : HTp m60 y6.toInt v84.toInt 16 := by rw [ku]; exact HTp_c kl (by have q := kg26; rw [show y59.toInt = -1 by omega] at q; exact q)
                    have kw1 : y6.toInt ≤ LOq m60 0 := by omega
                    have kc16 : RT3 m60 gx y6.toInt v84.toInt 16 := RT3_bb kl kr26 (by omega) (by omega)
                    exact ih37 v84 m60 n61 (by first | omega | assumption | exact (iv_rng _).2 | exact (iv_rng _).1 | decide) (by first | omega | assumption | exact (iv_rng _).2 | exact (iv_rng _).1 | decide) (by first | omega | assumption | (show 2 ≤ (m60 123 50).toInt; omega) | decide) kw1 (by first | omega | assumption | (show v84.toInt ≤ LOq m60 1; omega) | decide) kb16 kc16 I62 K63 (by omega)
                  · have c83 := iv_nlt (X := y59.toInt) (Y := 0) c83 rfl (by decide)
                    have kI : in3 m60 y6.toInt y30.toInt y59.toInt := ⟨by omega, by omega, by omega, by omega, by omega, by omega⟩
                    refine pv_iconst (M := mX12_laysHidden) (v := 0) dX12_laysHidden_30 31 rfl (by decide) ?_
                    refine pv_istore (M := mX12_laysHidden) (lo2 := [.ref 123, .int y6, .int y30, .int y59, .int 0, pv_U, pv_U]) dX12_laysHidden_31 33 rfl (by decide) rfl rfl ?_
                    refine pv_iconst (M := mX12_laysHidden) (v := 0) dX12_laysHidden_33 34 rfl (by decide) ?_
                    refine pv_istore (M := mX12_laysHidden) (lo2 := [.ref 123, .int y6, .int y30, .int y59, .int 0, .int 0, pv_U]) dX12_laysHidden_34 36 rfl (by decide) rfl rfl ?_
                    have lp97 : ∀ (fuel96 : Nat) (y90 : Int32) (y91 : Int32), (0 ≤ y90.toInt) → (y90.toInt ≤ 16) → (0 ≤ y91.toInt) → (y91.toInt ≤ 26) → (HR1 m60 y6.toInt y30.toInt y59.toInt y90.toInt) → (BSQ m60 y6.toInt y30.toInt y59.toInt y91.toInt y90.toInt) → ((26 - y91.toInt) : Int).toNat < fuel96 → PV none g mX12_laysHidden (sqV T BB (wl [(161, 161, none)]) r m (fun m' => HTp m' (-1) 16 16 ∧ RT3 m' gx (-1) 16 16)) 4 0 0 36 [.ref 123, .int y6, .int y30, .int y59, .int y90, .int y91, pv_U] [] (mk T m60 n61 r) := by
                      intro fuel96
                      induction fuel96 with
                      | zero => intro y90 y91 b99 b100 b101 b102 b103 b104 z105; omega
                      | succ fuel96 ih98 =>
                        intro y90 y91 b99 b100 b101 b102 b103 b104 z105
                        have kg36 := (show HR1 m60 y6.toInt y30.toInt y59.toInt y90.toInt by assumption)
                        have kgq := (show BSQ m60 y6.toInt y30.toInt y59.toInt y91.toInt y90.toInt by assumption)
                        refine pv_iload (M := mX12_laysHidden) dX12_laysHidden_36 38 rfl rfl ?_
                        refine pv_bipush (M := mX12_laysHidden) (v := 26) dX12_laysHidden_38 40 rfl (by decide) ?_
                        refine pv_icmp_ge (M := mX12_laysHidden) (tgt := 76) dX12_laysHidden_40 43 rfl (by decide) (fun c108 => ?_) (fun c108 => ?_)
                        · have c108 := iv_le (X := 26) (Y := y91.toInt) c108 (by decide) rfl
                          have kBq : BSQ m60 y6.toInt y30.toInt y59.toInt 26 y90.toInt := by have q := kgq; rw [show y91.toInt = 26 by omega] at q; exact q
                          refine pv_aload_n (M := mX12_laysHidden) 0 dX12_laysHidden_76 77 rfl rfl rfl ?_
                          refine mv_get (M := mX12_laysHidden) (v := .ref 161) dX12_laysHidden_77 FX12 55 wd1228 (by decide) (tl123 hT) rfl rfl 80 rfl ?_
                          refine pv_aload_n (M := mX12_laysHidden) 0 dX12_laysHidden_80 81 rfl rfl rfl ?_
                          refine pv_iload_n (M := mX12_laysHidden) 1 dX12_laysHidden_81 82 rfl rfl rfl ?_
                          refine pv_iload_n (M := mX12_laysHidden) 2 dX12_laysHidden_82 83 rfl rfl rfl ?_
                          refine pv_iload_n (M := mX12_laysHidden) 3 dX12_laysHidden_83 84 rfl rfl rfl ?_
                          refine pv_callv (M := mX12_laysHidden) (as := [.int y6, .int y30, .int y59]) (st := [.ref 161]) (kc2 := 0) (ks2 := 0) dX12_laysHidden_84 wd1652 YX12_hiddenAt ⟨wd1654, wd102⟩ (mk_get (tl123 hT)) rfl rfl (s_X12_hiddenAt g hT I62 y6 (by omega) (by omega) y30 (by omega) (by omega) y59 (by omega) (by omega)) rfl rfl (Nat.le_of_ble_eq_true rfl) (by decide) rfl rfl 87 rfl (fun rv h1 q110 => ?_)
                          obtain ⟨v111, rfl, rfl, pv111, qv111, rv111⟩ := q110
                          replace rv111 : v111.toInt = (17 * y6.toInt + y30.toInt) * 17 + y59.toInt := rv111
                          show PV _ _ _ _ _ _ _ 87 [.ref 123, .int y6, .int y30, .int y59, .int y90, .int y91, pv_U] [.int v111, .ref 161] _
                          have k87 := rv111
                          refine pv_iload (M := mX12_laysHidden) dX12_laysHidden_87 89 rfl rfl ?_
                          refine iv_iast (M := mX12_laysHidden) (X := v111.toInt) (l1 := 0) (l2 := 16) dX12_laysHidden_89 (tl161 hT) rfl (by omega) (by omega) I62 (fun _ => rfl) (by omega) (by omega) 90 rfl (fun m113 e116 I114 => ?_)
                          have K115 := K63.set e116 rfl
                          have w117 : (m113 123 50).toInt = (m60 123 50).toInt := by rw [e116, up2_ne (by omega)]
                          have k90 := (e116).trans (up2_ix (j := hidx y6.toInt y30.toInt y59.toInt) (by unfold hidx; omega))
                          have k90b := HTp_set kg26 k90 (by omega) kI kl kg36
                          have k90c := HSAME.set k90 (by omega)
                          have k90d : ∀ q, LOq m113 q = LOq m60 q := LOq_eq k90c
                          have k90r := RT3_set (C2 := y59.toInt - 1) kl kr26 k90 kI (RT_new kC26 (by omega) kch3 kl (L25Q kI26) kI (RT3_up kl kr26) kBq) rfl
                          refine iv_inc (M := mX12_laysHidden) (C := (-1)) dX12_laysHidden_90 93 rfl rfl (by decide) rfl rfl (by decide) (by omega) (by omega) (fun v123 ev123 => ?_)
                          show PV _ _ _ _ _ _ _ 93 [.ref 123, .int y6, .int y30, .int v123, .int y90, .int y91, pv_U] [] _
                          refine pv_goto (M := mX12_laysHidden) (tgt := 26) dX12_laysHidden_93 (by decide) ?_
                          refine pv_fg (lo2 := [.ref 123, .int y6, .int y30, .int v123, pv_U, pv_U, pv_U]) ⟨Or.inr rfl, ⟨Or.inr rfl, ⟨Or.inr rfl, ⟨Or.inr rfl, ⟨Or.inl rfl, ⟨Or.inl rfl, ⟨Or.inl rfl, trivial⟩⟩⟩⟩⟩⟩⟩ ?_
                          have ku : v123.toInt = y59.toInt - 1 := by omega
                          have kb26 : HTp m113 y6.toInt y30.toInt v123.toInt := by rw [ku]; exact k90b
                          have kq0 := k90d 0
                          have kq1 := k90d 1
                          have kq2 := k90d 2
                          have kw1 : y6.toInt ≤ LOq m113 0 := by omega
                          have kw2 : y30.toInt ≤ LOq m113 1 := by omega
                          have kc26 : RT3 m113 gx y6.toInt y30.toInt v123.toInt := by rw [ku]; exact k90r
                          exact ih66 v123 m113 n61 (by first | omega | assumption | exact (iv_rng _).2 | exact (iv_rng _).1 | decide) (by first | omega | assumption | exact (iv_rng _).2 | exact (iv_rng _).1 | decide) (by first | omega | assumption | (show 2 ≤ (m113 123 50).toInt; omega) | decide) kw1 kw2 (by first | omega | assumption | (show v123.toInt ≤ LOq m113 2; omega) | decide) kb26 kc26 I114 K115 (by omega)
                        · have c108 := iv_nle (X := 26) (Y := y91.toInt) c108 (by decide) rfl
                          have kA : HTp m60 y6.toInt 16 16 := fun a b c h1 h2 => kg26 a b c h1 (by have q1 := kl 1; have q2 := kl 2; have q3 := h1.2.2.2.1; have q4 := h1.2.2.2.2.2; unfold lg3 at *; omega)
                          refine pv_aload_n (M := mX12_laysHidden) 0 dX12_laysHidden_43 44 rfl rfl rfl ?_
                          refine pv_iload_n (M := mX12_laysHidden) 1 dX12_laysHidden_44 45 rfl rfl rfl ?_
                          refine pv_iload_n (M := mX12_laysHidden) 2 dX12_laysHidden_45 46 rfl rfl rfl ?_
                          refine pv_iload_n (M := mX12_laysHidden) 3 dX12_laysHidden_46 47 rfl rfl rfl ?_
                          refine pv_iload (M := mX12_laysHidden) dX12_laysHidden_47 49 rfl rfl ?_
                          refine pv_callv (M := mX12_laysHidden) (as := [.int y6, .int y30, .int y59, .int y91]) (st := []) (kc2 := 0) (ks2 := 0) dX12_laysHidden_49 wd1637 YX12_hiddenBy ⟨wd1639, wd99⟩ (mk_get (tl123 hT)) rfl rfl (s_X12_hiddenBy g hT I62 y6 (by omega) (by omega) y30 (by omega) (by omega) y59 (by omega) (by omega) y91 kA kI (by omega)) rfl rfl (Nat.le_of_ble_eq_true rfl) (by decide) rfl rfl 52 rfl (fun rv h1 q133 => ?_)
                          obtain ⟨v134, rfl, rfl, pv134, qv134, rv134⟩ := q133
                          replace rv134 : HBR m60 y6.toInt y30.toInt y59.toInt y91.toInt v134.toInt ∧ v134.toInt ≤ 16 - y6.toInt := rv134
                          show PV _ _ _ _ _ _ _ 52 [.ref 123, .int y6, .int y30, .int y59, .int y90, .int y91, pv_U] [.int v134] _
                          have k52 := rv134.1
                          have k52b := rv134.2
                          refine pv_istore (M := mX12_laysHidden) (lo2 := [.ref 123, .int y6, .int y30, .int y59, .int y90, .int y91, .int v134]) dX12_laysHidden_52 54 rfl (by decide) rfl rfl ?_
                          refine pv_iload (M := mX12_laysHidden) dX12_laysHidden_54 56 rfl rfl ?_
                          refine pv_iload (M := mX12_laysHidden) dX12_laysHidden_56 58 rfl rfl ?_
                          refine pv_icmp_le (M := mX12_laysHidden) (tgt := 66) dX12_laysHidden_58 61 rfl (by decide) (fun c137 => ?_) (fun c137 => ?_)
                          · have c137 := iv_le (X := v134.toInt) (Y := y90.toInt) c137 rfl rfl
                            refine pv_iload (M := mX12_laysHidden) dX12_laysHidden_66 68 rfl rfl ?_
                            refine pv_istore (M := mX12_laysHidden) (lo2 := [.ref 123, .int y6, .int y30, .int y59, .int y90, .int y91, .int v134]) dX12_laysHidden_68 70 rfl (by decide) rfl rfl ?_
                            refine iv_inc (M := mX12_laysHidden) (C := 1) dX12_laysHidden_70 73 rfl rfl (by decide) rfl rfl (by decide) (by omega) (by omega) (fun v138 ev138 => ?_)
                            show PV _ _ _ _ _ _ _ 73 [.ref 123, .int y6, .int y30, .int y59, .int y90, .int v138, .int v134] [] _
                            refine pv_goto (M := mX12_laysHidden) (tgt := 36) dX12_laysHidden_73 (by decide) ?_
                            refine pv_fg (lo2 := [.ref 123, .int y6, .int y30, .int y59, .int y90, .int v138, pv_U]) ⟨Or.inr rfl, ⟨Or.inr rfl, ⟨Or.inr rfl, ⟨Or.inr rfl, ⟨Or.inr rfl, ⟨Or.inr rfl, ⟨Or.inl rfl, trivial⟩⟩⟩⟩⟩⟩⟩ ?_
                            have kb36 : HR1 m60 y6.toInt y30.toInt y59.toInt y90.toInt := by first | exact HR1_up k52 (by omega) (by omega) k52b | exact kg36
                            have kq36 : BSQ m60 y6.toInt y30.toInt y59.toInt v138.toInt y90.toInt := by rw [show v138.toInt = y91.toInt + 1 by omega]; exact BSQ_step kgq k52 kI (by omega)
                            exact ih98 y90 v138 (by first | omega | assumption | exact (iv_rng _).2 | exact (iv_rng _).1 | decide) (by first | omega | assumption | exact (iv_rng _).2 | exact (iv_rng _).1 | decide) (by first | omega | assumption | exact (iv_rng _).2 | exact (iv_rng _).1 | decide) (by first | omega | assumption | exact (iv_rng _).2 | exact (iv_rng _).1 | decide) kb36 kq36 (by omega)
                          · have c137 := iv_nle (X := v134.toInt) (Y := y90.toInt) c137 rfl rfl
                            refine pv_iload (M := mX12_laysHidden) dX12_laysHidden_61 63 rfl rfl ?_
                            refine pv_goto (M := mX12_laysHidden) (tgt := 68) dX12_laysHidden_63 (by decide) ?_
                            refine pv_istore (M := mX12_laysHidden) (lo2 := [.ref 123, .int y6, .int y30, .int y59, .int v134, .int y91, .int v134]) dX12_laysHidden_68 70 rfl (by decide) rfl rfl ?_
                            refine iv_inc (M := mX12_laysHidden) (C := 1) dX12_laysHidden_70 73 rfl rfl (by decide) rfl rfl (by decide) (by omega) (by omega) (fun v141 ev141 => ?_)
                            show PV _ _ _ _ _ _ _ 73 [.ref 123, .int y6, .int y30, .int y59, .int v134, .int v141, .int v134] [] _
                            refine pv_goto (M := mX12_laysHidden) (tgt := 36) dX12_laysHidden_73 (by decide) ?_
                            refine pv_fg (lo2 := [.ref 123, .int y6, .int y30, .int y59, .int v134, .int v141, pv_U]) ⟨Or.inr rfl, ⟨Or.inr rfl, ⟨Or.inr rfl, ⟨Or.inr rfl, ⟨Or.inr rfl, ⟨Or.inr rfl, ⟨Or.inl rfl, trivial⟩⟩⟩⟩⟩⟩⟩ ?_
                            have kb36 : HR1 m60 y6.toInt y30.toInt y59.toInt v134.toInt := by first | exact HR1_up k52 (by omega) (by omega) k52b | exact kg36
                            have kq36 : BSQ m60 y6.toInt y30.toInt y59.toInt v141.toInt v134.toInt := by rw [show v141.toInt = y91.toInt + 1 by omega]; exact BSQ_step kgq k52 kI (by omega)
                            exact ih98 v134 v141 (by first | omega | assumption | exact (iv_rng _).2 | exact (iv_rng _).1 | decide) (by first | omega | assumption | exact (iv_rng _).2 | exact (iv_rng _).1 | decide) (by first | omega | assumption | exact (iv_rng _).2 | exact (iv_rng _).1 | decide) (by first | omega | assumption | exact (iv_rng _).2 | exact (iv_rng _).1 | decide) kb36 kq36 (by omega)
                    have z144 : (0 : Int32).toInt = 0 := by decide
                    have z145 : (0 : Int32).toInt = 0 := by decide
                    exact lp97 (((26 - 0) : Int).toNat + 1) 0 0 (by first | omega | assumption | exact (iv_rng _).2 | exact (iv_rng _).1 | decide) (by first | omega | assumption | exact (iv_rng _).2 | exact (iv_rng _).1 | decide) (by first | omega | assumption | exact (iv_rng _).2 | exact (iv_rng _).1 | decide) (by first | omega | assumption | exact (iv_rng _).2 | exact (iv_rng _).1 | decide) (by rw [show (0 : Int32).toInt = 0 by decide]; exact HR1_z (by omega)) (by rw [Int32.toInt_zero]; exact BSQ_0) (by omega)
              have kin26 : HTp m31 y6.toInt y30.toInt v57.toInt := HTp_dn kl kg16 (by omega) (by omega)
              have kjn26 : RT3 m31 gx y6.toInt y30.toInt v57.toInt := RT3_c kl kr16 (by omega)
              exact lp65 (((v57.toInt - (-1)) : Int).toNat + 1) v57 m31 n32 (by first | omega | assumption | exact (iv_rng _).2 | exact (iv_rng _).1 | decide) (by first | omega | assumption | exact (iv_rng _).2 | exact (iv_rng _).1 | decide) (by first | omega | assumption | (show 2 ≤ (m31 123 50).toInt; omega) | decide) (by omega) (by omega) (by omega) kin26 kjn26 I33 K34 (by omega)
        have kin16 : HTp m7 y6.toInt v28.toInt 16 := HTp_dn kl kg6 (by omega) (by omega)
        have kjn16 : RT3 m7 gx y6.toInt v28.toInt 16 := RT3_b kl kr6 (by omega)
        exact lp36 (((v28.toInt - (-1)) : Int).toNat + 1) v28 m7 n8 (by first | omega | assumption | exact (iv_rng _).2 | exact (iv_rng _).1 | decide) (by first | omega | assumption | exact (iv_rng _).2 | exact (iv_rng _).1 | decide) (by first | omega | assumption | (show 2 ≤ (m7 123 50).toInt; omega) | decide) (by omega) (by omega) kin16 kjn16 I9 K10 (by omega)
  exact lp12 (((v4.toInt - (-1)) : Int).toNat + 1) v4 m n (by first | omega | assumption | exact (iv_rng _).2 | exact (iv_rng _).1 | decide) (by first | omega | assumption | exact (iv_rng _).2 | exact (iv_rng _).1 | decide) (by first | omega | assumption | (show 2 ≤ (m 123 50).toInt; omega) | decide) (by omega) (HTp_a kl (by omega)) (RT3_a kl (by omega)) I Kp (by omega)

set_option maxHeartbeats 2000000 in
set_option maxRecDepth 20000 in
theorem s_X12_hidden_vh (g : pv_G) {T : List mv_T} {m : Nat → Nat → Int32} {n : Nat → Nat → Int64} {r : Nat → Value} (hT : TX T) (I : IV BB m) (x0 : Int32) (x1 : Int32) : PM g mX12_hidden yX12_hidden (sqI T BB (wl [(123, 123, some 50), (157, 157, none), (161, 161, none)]) r m (-2147483648) 2147483647 (fun m' v => HDR (SPR m x0 2 3) (nQ m x0) (sQ m x0) x1.toInt v.toInt)) 5 0 0 [.ref 123, .int x0, .int x1] (mk T m n r) := by
  have Kp : fr (wl [(123, 123, some 50), (157, 157, none), (161, 161, none)]) m m := fr.rf
  have z138 : 0 ≤ (m 123 50).toInt ∧ (m 123 50).toInt ≤ 4 := I 123 50
  refine PM.of 6 (lo := [.ref 123, .int x0, .int x1, pv_U, pv_U, pv_U, pv_U, pv_U, pv_U]) rfl (by decide) rfl rfl (Nat.le_of_ble_eq_true rfl) ?_
  refine pv_aload_n (M := mX12_hidden) 0 dX12_hidden_0 1 rfl rfl rfl ?_
  refine pv_iload_n (M := mX12_hidden) 1 dX12_hidden_1 2 rfl rfl rfl ?_
  refine pv_iconst (M := mX12_hidden) (v := 2) dX12_hidden_2 3 rfl (by decide) ?_
  refine pv_iconst (M := mX12_hidden) (v := 3) dX12_hidden_3 4 rfl (by decide) ?_
  have z1 : (2 : Int32).toInt = 2 := by decide
  have z2 : (3 : Int32).toInt = 3 := by decide
  refine pv_callv (M := mX12_hidden) (as := [.int x0, .int 2, .int 3]) (st := []) (kc2 := 0) (ks2 := 0) dX12_hidden_4 wd1622 YX12_spreads ⟨wd1624, wd96⟩ (mk_get (tl123 hT)) rfl rfl (s_X12_spreads_ve g hT I x0 2 (by decide) (by decide) 3 (by decide) (by decide)) rfl rfl (Nat.le_of_ble_eq_true rfl) (by decide) rfl rfl 7 rfl (fun rv h1 q3 => ?_)
  obtain ⟨m4, n5, v8, rfl, rfl, I6, K7, pv8, qv8, rv8⟩ := q3
  replace rv8 : (v8.toInt = 0 ∧ ¬ SPR m x0 (2 : Int) (3 : Int) ∧ m4 = m) ∨ (v8.toInt = 1 ∧ SPR m x0 (2 : Int) (3 : Int) ∧ CHLi m4 x0 8 ∧ CHI m4 x0 8 ∧ CHA m4 x0 8) := by have q_ := rv8; (try rw [z1] at q_); (try rw [z2] at q_); exact q_
  have K7c := K7
  have K7 := Kp.trans (K7.sub (wl_sub (by decide)))
  show PV _ _ _ _ _ _ _ 7 [.ref 123, .int x0, .int x1, pv_U, pv_U, pv_U, pv_U, pv_U, pv_U] [.int v8] _
  have k7 := rv8
  refine pv_if_ne (M := mX12_hidden) (tgt := 12) dX12_hidden_7 10 rfl (by decide) (fun c10 => ?_) (fun c10 => ?_)
  · have c10 := iv_ne (X := v8.toInt) (Y := 0) c10 rfl (by decide)
    have k12 := k7.resolve_left (fun q => by omega)
    have kSP := k12.2.1
    have kCL := k12.2.2.1
    have kch := CHL_n kCL kSP
    clear k7 k12
    refine pv_aload_n (M := mX12_hidden) 0 dX12_hidden_12 13 rfl rfl rfl ?_
    refine pv_callv (M := mX12_hidden) (as := []) (st := []) (kc2 := 0) (ks2 := 0) dX12_hidden_13 wd1629 YX12_laysHidden ⟨wd1631, wd97⟩ (mk_get (tl123 hT)) rfl rfl (s_X12_laysHidden_vh g hT I6 x0 (by omega) (by omega) kCL) rfl rfl (Nat.le_of_ble_eq_true rfl) (by decide) rfl rfl 16 rfl (fun rv h1 q16 => ?_)
    obtain ⟨m17, n18, rfl, rfl, I19, K20, rm17⟩ := q16
    replace rm17 : HTp m17 (-1) 16 16 ∧ RT3 m17 x0 (-1) 16 16 := rm17
    have K20c := K20
    have w21 : (m17 123 50).toInt = (m4 123 50).toInt := congrArg Int32.toInt (K20 123 50 rfl)
    have K20 := K7.trans (K20.sub (wl_sub (by decide)))
    show PV _ _ _ _ _ _ _ 16 [.ref 123, .int x0, .int x1, pv_U, pv_U, pv_U, pv_U, pv_U, pv_U] [] _
    have kF := rm17.1
    have kR3 := rm17.2
    have kl : LO16 m17 := LO16_of (fun j => I19 126 j)
    have kCL2 : CHLi m17 x0 8 := CHL_h kCL (K20c 123 50 rfl) (fun j => K20c 157 j rfl)
    have kc2 : 2 ≤ (m17 123 50).toInt ∧ (m17 123 50).toInt ≤ 3 := by rw [K20c 123 50 rfl]; exact kch
    have k6a : ∀ j, m17 126 j = m 126 j := fun j => K20 126 j rfl
    have k7a : ∀ j, m17 127 j = m 127 j := fun j => K20 127 j rfl
    have kT3 := TMQ kCL2 kc2.1 kc2.2 kR3
    have kP3 := PCQ kCL2
    refine pv_aload_n (M := mX12_hidden) 0 dX12_hidden_16 17 rfl rfl rfl ?_
    refine mv_get (M := mX12_hidden) (v := .ref 161) dX12_hidden_17 FX12 55 wd1228 (by decide) (tl123 hT) rfl rfl 20 rfl ?_
    refine pv_iconst (M := mX12_hidden) (v := 0) dX12_hidden_20 21 rfl (by decide) ?_
    refine iv_iald (M := mX12_hidden) (X := 0) (l1 := 0) (l2 := 16) dX12_hidden_21 (tl161 hT) (by decide) (by omega) (by omega) I19 (fun _ => rfl) 22 rfl (fun v31 ev31 pv31 qv31 => ?_)
    have k22 : v31.toInt = (m17 161 0).toInt := congrArg Int32.toInt ev31
    refine pv_istore_n (M := mX12_hidden) 3 (lo2 := [.ref 123, .int x0, .int x1, .int v31, pv_U, pv_U, pv_U, pv_U, pv_U]) dX12_hidden_22 23 rfl rfl (by decide) rfl rfl ?_
    refine pv_iload_n (M := mX12_hidden) 2 dX12_hidden_23 24 rfl rfl rfl ?_
    refine pv_iconst (M := mX12_hidden) (v := (-1)) dX12_hidden_24 25 rfl (by decide) ?_
    refine pv_icmp_ne (M := mX12_hidden) (tgt := 30) dX12_hidden_25 28 rfl (by decide) (fun c33 => ?_) (fun c33 => ?_)
    · have c33 := iv_ne (X := x1.toInt) (Y := (-1)) c33 rfl (by decide)
      refine pv_iload_n (M := mX12_hidden) 2 dX12_hidden_30 31 rfl rfl rfl ?_
      refine pv_iconst (M := mX12_hidden) (v := 0) dX12_hidden_31 32 rfl (by decide) ?_
      refine pv_iload_n (M := mX12_hidden) 3 dX12_hidden_32 33 rfl rfl rfl ?_
      refine pv_iconst (M := mX12_hidden) (v := 1) dX12_hidden_33 34 rfl (by decide) ?_
      refine iv_isub (M := mX12_hidden) (X := v31.toInt) (Y := 1) dX12_hidden_34 35 rfl rfl (by decide) (by omega) (by omega) (fun v34 ev34 => ?_)
      have z35 : (0 : Int32).toInt = 0 := by decide
      refine pv_calls (M := mX12_hidden) (as := [.int x1, .int 0, .int v34]) (st := []) (kc2 := 0) (ks2 := 0) dX12_hidden_35 wd1370 YX12_in wd1371 (s_X12_in_vx g hT I19 x1 0 v34) rfl rfl (Nat.le_of_ble_eq_true rfl) (by decide) rfl rfl 38 rfl (fun rv h1 q36 => ?_)
      obtain ⟨v37, rfl, rfl, pv37, qv37, rv37⟩ := q36
      replace rv37 : (v37 = 0 ∨ ((0 : Int) ≤ x1.toInt ∧ x1.toInt ≤ v34.toInt)) ∧ ((v37.toInt = 1 ∧ (0 : Int) ≤ x1.toInt ∧ x1.toInt ≤ v34.toInt) ∨ (v37.toInt = 0 ∧ (x1.toInt < (0 : Int) ∨ v34.toInt < x1.toInt))) := by have q_ := rv37; (try rw [z35] at q_); exact q_
      show PV _ _ _ _ _ _ _ 38 [.ref 123, .int x0, .int x1, .int v31, pv_U, pv_U, pv_U, pv_U, pv_U] [.int v37] _
      have k38 := rv37.2
      refine pv_if_ne (M := mX12_hidden) (tgt := 43) dX12_hidden_38 41 rfl (by decide) (fun c39 => ?_) (fun c39 => ?_)
      · have pc39 := rv37.1.resolve_left c39
        have c39 := iv_ne (X := v37.toInt) (Y := 0) c39 rfl (by decide)
        refine pv_iconst (M := mX12_hidden) (v := 0) dX12_hidden_43 44 rfl (by decide) ?_
        refine pv_istore (M := mX12_hidden) (lo2 := [.ref 123, .int x0, .int x1, .int v31, .int 0, pv_U, pv_U, pv_U, pv_U]) dX12_hidden_44 46 rfl (by decide) rfl rfl ?_
        refine pv_iconst (M := mX12_hidden) (v := 0) dX12_hidden_46 47 rfl (by decide) ?_
        refine pv_istore (M := mX12_hidden) (lo2 := [.ref 123, .int x0, .int x1, .int v31, .int 0, .int 0, pv_U, pv_U, pv_U]) dX12_hidden_47 49 rfl (by decide) rfl rfl ?_
        refine pv_iconst (M := mX12_hidden) (v := 0) dX12_hidden_49 50 rfl (by decide) ?_
        refine pv_istore (M := mX12_hidden) (lo2 := [.ref 123, .int x0, .int x1, .int v31, .int 0, .int 0, .int 0, pv_U, pv_U]) dX12_hidden_50 52 rfl (by decide) rfl rfl ?_
        refine pv_iconst (M := mX12_hidden) (v := 0) dX12_hidden_52 53 rfl (by decide) ?_
        refine pv_istore (M := mX12_hidden) (lo2 := [.ref 123, .int x0, .int x1, .int v31, .int 0, .int 0, .int 0, .int 0, pv_U]) dX12_hidden_53 55 rfl (by decide) rfl rfl ?_
        have lp49 : ∀ (fuel48 : Nat) (y40 : Int32) (y41 : Int32) (y42 : Int32) (y43 : Int32), (0 ≤ y40.toInt) → (y40.toInt ≤ 16) → (0 ≤ y41.toInt) → (y41.toInt ≤ 16) → (0 ≤ y42.toInt) → (y42.toInt ≤ 16) → (0 ≤ y43.toInt) → (y43.toInt ≤ 15) → (y43.toInt ≤ x1.toInt) → (in3 m17 y40.toInt y41.toInt y42.toInt) → (HE m17 y40.toInt y41.toInt y42.toInt = v31.toInt - y43.toInt) → (PHQ m17 x0 y40.toInt y41.toInt y42.toInt y43.toInt) → ((x1.toInt - y43.toInt) : Int).toNat < fuel48 → PV none g mX12_hidden (sqI T BB (wl [(123, 123, some 50), (157, 157, none), (161, 161, none)]) r m (-2147483648) 2147483647 (fun m' v => HDR (SPR m x0 2 3) (nQ m x0) (sQ m x0) x1.toInt v.toInt)) 5 0 0 55 [.ref 123, .int x0, .int x1, .int v31, .int y40, .int y41, .int y42, .int y43, pv_U] [] (mk T m17 n18 r) := by
          intro fuel48
          induction fuel48 with
          | zero => intro y40 y41 y42 y43 b51 b52 b53 b54 b55 b56 b57 b58 b59 b60 b61 b62 z63; omega
          | succ fuel48 ih50 =>
            intro y40 y41 y42 y43 b51 b52 b53 b54 b55 b56 b57 b58 b59 b60 b61 b62 z63
            have kI := (show in3 m17 y40.toInt y41.toInt y42.toInt by assumption)
            have kT := (show HE m17 y40.toInt y41.toInt y42.toInt = v31.toInt - y43.toInt by assumption)
            have kR := kF _ _ _ kI (Or.inl (by omega))
            have kP : HTp m17 y40.toInt 16 16 := fun a b c h1 h2 => kF a b c h1 (Or.inl (by have q := h1.1; omega))
            have kgP := (show PHQ m17 x0 y40.toInt y41.toInt y42.toInt y43.toInt by assumption)
            refine pv_iconst (M := mX12_hidden) (v := 0) dX12_hidden_55 56 rfl (by decide) ?_
            refine pv_istore (M := mX12_hidden) (lo2 := [.ref 123, .int x0, .int x1, .int v31, .int y40, .int y41, .int y42, .int y43, .int 0]) dX12_hidden_56 58 rfl (by decide) rfl rfl ?_
            have lp75 : ∀ (fuel74 : Nat) (y69 : Int32), (0 ≤ y69.toInt) → (y69.toInt ≤ 25) → (HW1 m17 y40.toInt y41.toInt y42.toInt y69.toInt (HE m17 y40.toInt y41.toInt y42.toInt)) → (NLQ m17 y40.toInt y41.toInt y42.toInt y69.toInt) → ((25 - y69.toInt) : Int).toNat < fuel74 → PV none g mX12_hidden (sqI T BB (wl [(123, 123, some 50), (157, 157, none), (161, 161, none)]) r m (-2147483648) 2147483647 (fun m' v => HDR (SPR m x0 2 3) (nQ m x0) (sQ m x0) x1.toInt v.toInt)) 5 0 0 58 [.ref 123, .int x0, .int x1, .int v31, .int y40, .int y41, .int y42, .int y43, .int y69] [] (mk T m17 n18 r) := by
              intro fuel74
              induction fuel74 with
              | zero => intro y69 b77 b78 b79 b80 z81; omega
              | succ fuel74 ih76 =>
                intro y69 b77 b78 b79 b80 z81
                have kw := (show HW1 m17 y40.toInt y41.toInt y42.toInt y69.toInt (HE m17 y40.toInt y41.toInt y42.toInt) by assumption)
                have kgN := (show NLQ m17 y40.toInt y41.toInt y42.toInt y69.toInt by assumption)
                refine pv_aload_n (M := mX12_hidden) 0 dX12_hidden_58 59 rfl rfl rfl ?_
                refine pv_iload (M := mX12_hidden) dX12_hidden_59 61 rfl rfl ?_
                refine pv_iload (M := mX12_hidden) dX12_hidden_61 63 rfl rfl ?_
                refine pv_iload (M := mX12_hidden) dX12_hidden_63 65 rfl rfl ?_
                refine pv_iload (M := mX12_hidden) dX12_hidden_65 67 rfl rfl ?_
                refine pv_callv (M := mX12_hidden) (as := [.int y40, .int y41, .int y42, .int y69]) (st := []) (kc2 := 0) (ks2 := 0) dX12_hidden_67 wd1637 YX12_hiddenBy ⟨wd1639, wd99⟩ (mk_get (tl123 hT)) rfl rfl (s_X12_hiddenBy g hT I19 y40 (by omega) (by omega) y41 (by omega) (by omega) y42 (by omega) (by omega) y69 kP kI (by omega)) rfl rfl (Nat.le_of_ble_eq_true rfl) (by decide) rfl rfl 70 rfl (fun rv h1 q84 => ?_)
                obtain ⟨v85, rfl, rfl, pv85, qv85, rv85⟩ := q84
                replace rv85 : HBR m17 y40.toInt y41.toInt y42.toInt y69.toInt v85.toInt ∧ v85.toInt ≤ 16 - y40.toInt := rv85
                show PV _ _ _ _ _ _ _ 70 [.ref 123, .int x0, .int x1, .int v31, .int y40, .int y41, .int y42, .int y43, .int y69] [.int v85] _
                have k70 := rv85.1
                refine pv_aload_n (M := mX12_hidden) 0 dX12_hidden_70 71 rfl rfl rfl ?_
                refine mv_get (M := mX12_hidden) (v := .ref 161) dX12_hidden_71 FX12 55 wd1228 (by decide) (tl123 hT) rfl rfl 74 rfl ?_
                refine pv_aload_n (M := mX12_hidden) 0 dX12_hidden_74 75 rfl rfl rfl ?_
                refine pv_iload (M := mX12_hidden) dX12_hidden_75 77 rfl rfl ?_
                refine pv_iload (M := mX12_hidden) dX12_hidden_77 79 rfl rfl ?_
                refine pv_iload (M := mX12_hidden) dX12_hidden_79 81 rfl rfl ?_
                refine pv_callv (M := mX12_hidden) (as := [.int y40, .int y41, .int y42]) (st := [.ref 161, .int v85]) (kc2 := 0) (ks2 := 0) dX12_hidden_81 wd1652 YX12_hiddenAt ⟨wd1654, wd102⟩ (mk_get (tl123 hT)) rfl rfl (s_X12_hiddenAt g hT I19 y40 (by omega) (by omega) y41 (by omega) (by omega) y42 (by omega) (by omega)) rfl rfl (Nat.le_of_ble_eq_true rfl) (by decide) rfl rfl 84 rfl (fun rv h1 q87 => ?_)
                obtain ⟨v88, rfl, rfl, pv88, qv88, rv88⟩ := q87
                replace rv88 : v88.toInt = (17 * y40.toInt + y41.toInt) * 17 + y42.toInt := rv88
                show PV _ _ _ _ _ _ _ 84 [.ref 123, .int x0, .int x1, .int v31, .int y40, .int y41, .int y42, .int y43, .int y69] [.int v88, .ref 161, .int v85] _
                have k84 := rv88
                refine iv_iald (M := mX12_hidden) (X := v88.toInt) (l1 := 0) (l2 := 16) dX12_hidden_84 (tl161 hT) rfl (by omega) (by omega) I19 (fun _ => rfl) 85 rfl (fun v90 ev90 pv90 qv90 => ?_)
                have k85 : v90.toInt = HE m17 y40.toInt y41.toInt y42.toInt := (congrArg Int32.toInt ev90).trans (congrArg (fun z => (m17 161 z).toInt) (by unfold hidx; omega))
                refine pv_icmp_eq (M := mX12_hidden) (tgt := 97) dX12_hidden_85 88 rfl (by decide) (fun c92 => ?_) (fun c92 => ?_)
                · have c92 := iv_eq (X := v85.toInt) (Y := v90.toInt) c92 rfl rfl
                  have kHL : HLX m17 x0 y40.toInt y41.toInt y42.toInt y69.toInt := HLQ kCL2 kc2.1 kc2.2 kl kI k70 (by omega) (by omega) kgN (by omega) (by omega)
                  refine pv_iload (M := mX12_hidden) dX12_hidden_97 99 rfl rfl ?_
                  refine pv_iload_n (M := mX12_hidden) 2 dX12_hidden_99 100 rfl rfl rfl ?_
                  refine pv_icmp_ne (M := mX12_hidden) (tgt := 106) dX12_hidden_100 103 rfl (by decide) (fun c94 => ?_) (fun c94 => ?_)
                  · have c94 := iv_ne (X := y43.toInt) (Y := x1.toInt) c94 rfl rfl
                    refine pv_aload_n (M := mX12_hidden) 0 dX12_hidden_106 107 rfl rfl rfl ?_
                    refine pv_iconst (M := mX12_hidden) (v := 0) dX12_hidden_107 108 rfl (by decide) ?_
                    refine pv_iload (M := mX12_hidden) dX12_hidden_108 110 rfl rfl ?_
                    refine pv_iload (M := mX12_hidden) dX12_hidden_110 112 rfl rfl ?_
                    have z95 : (0 : Int32).toInt = 0 := by decide
                    refine pv_callv (M := mX12_hidden) (as := [.int 0, .int y40, .int y69]) (st := []) (kc2 := 0) (ks2 := 0) dX12_hidden_112 wd1641 YX12_nextOf ⟨wd1643, wd100⟩ (mk_get (tl123 hT)) rfl rfl (s_X12_nextOf g hT I19 0 (by decide) (by decide) y40 (by omega) (by omega) y69) rfl rfl (Nat.le_of_ble_eq_true rfl) (by decide) rfl rfl 115 rfl (fun rv h1 q96 => ?_)
                    obtain ⟨v97, rfl, rfl, pv97, qv97, rv97⟩ := q96
                    replace rv97 : NXR m17 (0 : Int) y40.toInt y69.toInt v97.toInt := by have q_ := rv97; (try rw [z95] at q_); exact q_
                    show PV _ _ _ _ _ _ _ 115 [.ref 123, .int x0, .int x1, .int v31, .int y40, .int y41, .int y42, .int y43, .int y69] [.int v97] _
                    have k115 : NXR m17 0 y40.toInt y69.toInt v97.toInt := rv97
                    refine pv_iconst (M := mX12_hidden) (v := 1) dX12_hidden_115 116 rfl (by decide) ?_
                    refine iv_iadd (M := mX12_hidden) (X := v97.toInt) (Y := 1) dX12_hidden_116 117 rfl rfl (by decide) (by omega) (by omega) (fun v99 ev99 => ?_)
                    refine pv_istore (M := mX12_hidden) (lo2 := [.ref 123, .int x0, .int x1, .int v31, .int v99, .int y41, .int y42, .int y43, .int y69]) dX12_hidden_117 119 rfl (by decide) rfl rfl ?_
                    refine pv_aload_n (M := mX12_hidden) 0 dX12_hidden_119 120 rfl rfl rfl ?_
                    refine pv_iconst (M := mX12_hidden) (v := 1) dX12_hidden_120 121 rfl (by decide) ?_
                    refine pv_iload (M := mX12_hidden) dX12_hidden_121 123 rfl rfl ?_
                    refine pv_iload (M := mX12_hidden) dX12_hidden_123 125 rfl rfl ?_
                    have z100 : (1 : Int32).toInt = 1 := by decide
                    refine pv_callv (M := mX12_hidden) (as := [.int 1, .int y41, .int y69]) (st := []) (kc2 := 0) (ks2 := 0) dX12_hidden_125 wd1641 YX12_nextOf ⟨wd1643, wd100⟩ (mk_get (tl123 hT)) rfl rfl (s_X12_nextOf g hT I19 1 (by decide) (by decide) y41 (by omega) (by omega) y69) rfl rfl (Nat.le_of_ble_eq_true rfl) (by decide) rfl rfl 128 rfl (fun rv h1 q101 => ?_)
                    obtain ⟨v102, rfl, rfl, pv102, qv102, rv102⟩ := q101
                    replace rv102 : NXR m17 (1 : Int) y41.toInt y69.toInt v102.toInt := by have q_ := rv102; (try rw [z100] at q_); exact q_
                    show PV _ _ _ _ _ _ _ 128 [.ref 123, .int x0, .int x1, .int v31, .int v99, .int y41, .int y42, .int y43, .int y69] [.int v102] _
                    have k128 : NXR m17 1 y41.toInt y69.toInt v102.toInt := rv102
                    refine pv_iconst (M := mX12_hidden) (v := 1) dX12_hidden_128 129 rfl (by decide) ?_
                    refine iv_iadd (M := mX12_hidden) (X := v102.toInt) (Y := 1) dX12_hidden_129 130 rfl rfl (by decide) (by omega) (by omega) (fun v104 ev104 => ?_)
                    refine pv_istore (M := mX12_hidden) (lo2 := [.ref 123, .int x0, .int x1, .int v31, .int v99, .int v104, .int y42, .int y43, .int y69]) dX12_hidden_130 132 rfl (by decide) rfl rfl ?_
                    refine pv_iconst (M := mX12_hidden) (v := 2) dX12_hidden_132 133 rfl (by decide) ?_
                    refine pv_aload_n (M := mX12_hidden) 0 dX12_hidden_133 134 rfl rfl rfl ?_
                    refine iv_get (M := mX12_hidden) (l1 := 0) (l2 := 4) dX12_hidden_134 FX12 50 wd1223 (by decide) (tl123 hT) rfl I19 rfl 137 rfl (fun v105 ev105 pv105 qv105 => ?_)
                    have wv105 : v105.toInt = (m17 123 50).toInt := congrArg Int32.toInt ev105
                    refine pv_aload_n (M := mX12_hidden) 0 dX12_hidden_137 138 rfl rfl rfl ?_
                    refine pv_iconst (M := mX12_hidden) (v := 2) dX12_hidden_138 139 rfl (by decide) ?_
                    refine pv_iload (M := mX12_hidden) dX12_hidden_139 141 rfl rfl ?_
                    refine pv_iload (M := mX12_hidden) dX12_hidden_141 143 rfl rfl ?_
                    have z106 : (2 : Int32).toInt = 2 := by decide
                    refine pv_callv (M := mX12_hidden) (as := [.int 2, .int y42, .int y69]) (st := [.int v105, .int 2]) (kc2 := 0) (ks2 := 0) dX12_hidden_143 wd1641 YX12_nextOf ⟨wd1643, wd100⟩ (mk_get (tl123 hT)) rfl rfl (s_X12_nextOf g hT I19 2 (by decide) (by decide) y42 (by omega) (by omega) y69) rfl rfl (Nat.le_of_ble_eq_true rfl) (by decide) rfl rfl 146 rfl (fun rv h1 q107 => ?_)
                    obtain ⟨v108, rfl, rfl, pv108, qv108, rv108⟩ := q107
                    replace rv108 : NXR m17 (2 : Int) y42.toInt y69.toInt v108.toInt := by have q_ := rv108; (try rw [z106] at q_); exact q_
                    show PV _ _ _ _ _ _ _ 146 [.ref 123, .int x0, .int x1, .int v31, .int v99, .int v104, .int y42, .int y43, .int y69] [.int v108, .int v105, .int 2] _
                    have k146 : NXR m17 2 y42.toInt y69.toInt v108.toInt := rv108
                    have kN := HBR_next k70 (by omega) (by omega) kI kl k115 k128 k146
                    have kN1 := kN.1
                    have kN2 := kN.2.1
                    have kN3 := kN.2.2.1
                    have kN4 := kN.2.2.2.1
                    have kN5 := kN.2.2.2.2
                    have z116 : (2 : Int32).toInt = 2 := by decide
                    refine pv_calls (M := mX12_hidden) (as := [.int 2, .int v105, .int v108]) (st := []) (kc2 := 0) (ks2 := 0) dX12_hidden_146 wd1649 YX12_behind wd1650 (s_X12_behind g hT I19 2 (by decide) (by decide) v105 (by omega) (by omega) v108 (by omega) (by omega)) rfl rfl (Nat.le_of_ble_eq_true rfl) (by decide) rfl rfl 149 rfl (fun rv h1 q117 => ?_)
                    obtain ⟨v118, rfl, rfl, pv118, qv118, rv118⟩ := q117
                    replace rv118 : v118.toInt = (if (2 : Int) < v105.toInt then v108.toInt + 1 else 0) := by have q_ := rv118; (try rw [z116] at q_); exact q_
                    show PV _ _ _ _ _ _ _ 149 [.ref 123, .int x0, .int x1, .int v31, .int v99, .int v104, .int y42, .int y43, .int y69] [.int v118] _
                    have k149 := rv118
                    refine pv_istore (M := mX12_hidden) (lo2 := [.ref 123, .int x0, .int x1, .int v31, .int v99, .int v104, .int v118, .int y43, .int y69]) dX12_hidden_149 151 rfl (by decide) rfl rfl ?_
                    refine iv_inc (M := mX12_hidden) (C := 1) dX12_hidden_151 154 rfl rfl (by decide) rfl rfl (by decide) (by omega) (by omega) (fun v120 ev120 => ?_)
                    show PV _ _ _ _ _ _ _ 154 [.ref 123, .int x0, .int x1, .int v31, .int v99, .int v104, .int v118, .int v120, .int y69] [] _
                    refine pv_goto (M := mX12_hidden) (tgt := 55) dX12_hidden_154 (by decide) ?_
                    refine pv_fg (lo2 := [.ref 123, .int x0, .int x1, .int v31, .int v99, .int v104, .int v118, .int v120, pv_U]) ⟨Or.inr rfl, ⟨Or.inr rfl, ⟨Or.inr rfl, ⟨Or.inr rfl, ⟨Or.inr rfl, ⟨Or.inr rfl, ⟨Or.inr rfl, ⟨Or.inr rfl, ⟨Or.inl rfl, trivial⟩⟩⟩⟩⟩⟩⟩⟩⟩ ?_
                    have kIb : in3 m17 v99.toInt v104.toInt v118.toInt := in3_of kN4 (by omega) (by omega) (by omega)
                    have kTb : HE m17 v99.toInt v104.toInt v118.toInt = v31.toInt - v120.toInt := (HE_of (by omega) (by omega) (by omega)).trans (kN5.trans (by omega))
                    have kpb : PHQ m17 x0 v99.toInt v104.toInt v118.toInt v120.toInt := PHQ_next kgP kHL (by omega) kI k115 k128 k146 (by omega) (by omega) (by omega) (by omega)
                    exact ih50 v99 v104 v118 v120 (by first | omega | assumption | exact (iv_rng _).2 | exact (iv_rng _).1 | decide) (by first | omega | assumption | exact (iv_rng _).2 | exact (iv_rng _).1 | decide) (by first | omega | assumption | exact (iv_rng _).2 | exact (iv_rng _).1 | decide) (by first | omega | assumption | exact (iv_rng _).2 | exact (iv_rng _).1 | decide) (by first | omega | assumption | exact (iv_rng _).2 | exact (iv_rng _).1 | decide) (by first | omega | assumption | exact (iv_rng _).2 | exact (iv_rng _).1 | decide) (by first | omega | assumption | exact (iv_rng _).2 | exact (iv_rng _).1 | decide) (by first | omega | assumption | exact (iv_rng _).2 | exact (iv_rng _).1 | decide) (by first | omega | assumption | (show v120.toInt ≤ x1.toInt; omega) | decide) kIb kTb kpb (by omega)
                  · have c94 := iv_eq (X := y43.toInt) (Y := x1.toInt) c94 rfl rfl
                    refine pv_iload (M := mX12_hidden) dX12_hidden_103 105 rfl rfl ?_
                    exact pv_iret (M := mX12_hidden) dX12_hidden_105 rfl rfl ⟨_, _, _, rfl, rfl, I19, K20, (iv_rng y69).1, (iv_rng y69).2, (HDR_hit kSP k6a k7a kP3 kT3 kgP kHL (by omega) (by omega) (by omega) rfl)⟩
                · have c92 := iv_ne (X := v85.toInt) (Y := v90.toInt) c92 rfl rfl
                  refine pv_iload (M := mX12_hidden) dX12_hidden_88 90 rfl rfl ?_
                  refine pv_iconst (M := mX12_hidden) (v := 1) dX12_hidden_90 91 rfl (by decide) ?_
                  refine iv_iadd (M := mX12_hidden) (X := y69.toInt) (Y := 1) dX12_hidden_91 92 rfl rfl (by decide) (by omega) (by omega) (fun v124 ev124 => ?_)
                  refine pv_istore (M := mX12_hidden) (lo2 := [.ref 123, .int x0, .int x1, .int v31, .int y40, .int y41, .int y42, .int y43, .int v124]) dX12_hidden_92 94 rfl (by decide) rfl rfl ?_
                  refine pv_goto (M := mX12_hidden) (tgt := 58) dX12_hidden_94 (by decide) ?_
                  have kwb : HW1 m17 y40.toInt y41.toInt y42.toInt v124.toInt (HE m17 y40.toInt y41.toInt y42.toInt) := by rw [show v124.toInt = y69.toInt + 1 by omega]; exact HW1.step kw k70 (by omega) kI
                  have kx : v124.toInt ≤ 25 := kwb.le
                  have knb : NLQ m17 y40.toInt y41.toInt y42.toInt v124.toInt := by rw [show v124.toInt = y69.toInt + 1 by omega]; exact NLQ_step kgN k70 kI (by omega)
                  exact ih76 v124 (by first | omega | assumption | exact (iv_rng _).2 | exact (iv_rng _).1 | decide) (by first | omega | assumption | exact (iv_rng _).2 | exact (iv_rng _).1 | decide) kwb knb (by omega)
            have z128 : (0 : Int32).toInt = 0 := by decide
            have kw0 : HW1 m17 y40.toInt y41.toInt y42.toInt (0 : Int32).toInt (HE m17 y40.toInt y41.toInt y42.toInt) := by rw [Int32.toInt_zero]; exact HW1.start kR (by omega)
            exact lp75 (((25 - 0) : Int).toNat + 1) 0 (by first | omega | assumption | exact (iv_rng _).2 | exact (iv_rng _).1 | decide) (by first | omega | assumption | exact (iv_rng _).2 | exact (iv_rng _).1 | decide) kw0 (by rw [Int32.toInt_zero]; exact NLQ_0) (by omega)
        have z130 : (0 : Int32).toInt = 0 := by decide
        have z131 : (0 : Int32).toInt = 0 := by decide
        have z132 : (0 : Int32).toInt = 0 := by decide
        have z133 : (0 : Int32).toInt = 0 := by decide
        have kI0 : in3 m17 (0 : Int32).toInt (0 : Int32).toInt (0 : Int32).toInt := by rw [Int32.toInt_zero]; exact ⟨by omega, (kl 0).1, by omega, (kl 1).1, by omega, (kl 2).1⟩
        have kT0 : HE m17 (0 : Int32).toInt (0 : Int32).toInt (0 : Int32).toInt = v31.toInt - (0 : Int32).toInt := by unfold HE; rw [show hidx (0 : Int32).toInt (0 : Int32).toInt (0 : Int32).toInt = 0 by decide, Int32.toInt_zero]; omega
        exact lp49 (((x1.toInt - 0) : Int).toNat + 1) 0 0 0 0 (by first | omega | assumption | exact (iv_rng _).2 | exact (iv_rng _).1 | decide) (by first | omega | assumption | exact (iv_rng _).2 | exact (iv_rng _).1 | decide) (by first | omega | assumption | exact (iv_rng _).2 | exact (iv_rng _).1 | decide) (by first | omega | assumption | exact (iv_rng _).2 | exact (iv_rng _).1 | decide) (by first | omega | assumption | exact (iv_rng _).2 | exact (iv_rng _).1 | decide) (by first | omega | assumption | exact (iv_rng _).2 | exact (iv_rng _).1 | decide) (by first | omega | assumption | exact (iv_rng _).2 | exact (iv_rng _).1 | decide) (by first | omega | assumption | exact (iv_rng _).2 | exact (iv_rng _).1 | decide) (by first | omega | assumption | (show 0 ≤ x1.toInt; omega) | decide) kI0 kT0 (by rw [Int32.toInt_zero]; exact PHQ_0) (by omega)
      · have c39 := iv_eq (X := v37.toInt) (Y := 0) c39 rfl (by decide)
        refine pv_iconst (M := mX12_hidden) (v := (-1)) dX12_hidden_41 42 rfl (by decide) ?_
        have z136 : ((-1) : Int32).toInt = (-1) := by decide
        exact pv_iret (M := mX12_hidden) dX12_hidden_42 rfl rfl ⟨_, _, _, rfl, rfl, I19, K20, by decide, by decide, (if z : x1.toInt < -1 then Or.inl ⟨Or.inl z, by decide⟩ else HDR_s kSP (by omega) k6a k7a kP3 kT3 (Or.inr (Or.inl ⟨by omega, by omega, by decide⟩)))⟩
    · have c33 := iv_eq (X := x1.toInt) (Y := (-1)) c33 rfl (by decide)
      refine pv_iload_n (M := mX12_hidden) 3 dX12_hidden_28 29 rfl rfl rfl ?_
      exact pv_iret (M := mX12_hidden) dX12_hidden_29 rfl rfl ⟨_, _, _, rfl, rfl, I19, K20, (iv_rng v31).1, (iv_rng v31).2, (HDR_s kSP (by omega) k6a k7a kP3 kT3 (Or.inl ⟨by omega, by omega⟩))⟩
  · have c10 := iv_eq (X := v8.toInt) (Y := 0) c10 rfl (by decide)
    refine pv_iconst (M := mX12_hidden) (v := (-1)) dX12_hidden_10 11 rfl (by decide) ?_
    have z137 : ((-1) : Int32).toInt = (-1) := by decide
    exact pv_iret (M := mX12_hidden) dX12_hidden_11 rfl rfl ⟨_, _, _, rfl, rfl, I6, K7, by decide, by decide, (Or.inl ⟨Or.inr (k7.resolve_right (fun q => by omega)).2.1, by decide⟩)⟩
