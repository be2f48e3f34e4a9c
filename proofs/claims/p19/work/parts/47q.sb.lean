set_option maxHeartbeats 2000000 in
set_option maxRecDepth 20000 in
theorem s_X12_spreads_ve (g : pv_G) {T : List mv_T} {m : Nat → Nat → Int32} {n : Nat → Nat → Int64} {r : Nat → Value} (hT : TX T) (I : IV BB m) (x0 : Int32) (x1 : Int32) (hl1 : 2 ≤ x1.toInt) (hh1 : x1.toInt ≤ 2) (x2 : Int32) (hl2 : 2 ≤ x2.toInt) (hh2 : x2.toInt ≤ 4) : PM g mX12_spreads yX12_spreads (sqIn T BB (wl [(123, 123, some 50), (157, 157, none)]) r m 0 1 (fun m' n' v => nE n n' ∧ ((v.toInt = 0 ∧ ¬ SPR m x0 x1.toInt x2.toInt ∧ m' = m) ∨ (v.toInt = 1 ∧ SPR m x0 x1.toInt x2.toInt ∧ CHLi m' x0 8 ∧ CHI m' x0 8 ∧ CHA m' x0 8)))) 2 0 0 [.ref 123, .int x0, .int x1, .int x2] (mk T m n r) := by
  have Kp : fr (wl [(123, 123, some 50), (157, 157, none)]) m m := fr.rf
  have NKp : nE n n := nE.rf
  have z91 : 0 ≤ (m 123 50).toInt ∧ (m 123 50).toInt ≤ 4 := I 123 50
  refine PM.of 1 (lo := [.ref 123, .int x0, .int x1, .int x2, pv_U]) rfl (by decide) rfl rfl (Nat.le_of_ble_eq_true rfl) ?_
  refine pv_iload_n (M := mX12_spreads) 1 dX12_spreads_0 1 rfl rfl rfl ?_
  refine pv_iconst (M := mX12_spreads) (v := 0) dX12_spreads_1 2 rfl (by decide) ?_
  refine pv_sipush (M := mX12_spreads) (v := 255) dX12_spreads_2 5 rfl (by decide) ?_
  have z1 : (0 : Int32).toInt = 0 := by decide
  have z2 : (255 : Int32).toInt = 255 := by decide
  refine pv_calls (M := mX12_spreads) (as := [.int x0, .int 0, .int 255]) (st := []) (kc2 := 0) (ks2 := 0) dX12_spreads_5 wd1370 YX12_in wd1371 (s_X12_in_vx g hT I x0 0 255) rfl rfl (Nat.le_of_ble_eq_true rfl) (by decide) rfl rfl 8 rfl (fun rv h1 q3 => ?_)
  obtain ⟨v4, rfl, rfl, pv4, qv4, rv4⟩ := q3
  replace rv4 : (v4 = 0 ∨ ((0 : Int) ≤ x0.toInt ∧ x0.toInt ≤ (255 : Int))) ∧ ((v4.toInt = 1 ∧ (0 : Int) ≤ x0.toInt ∧ x0.toInt ≤ (255 : Int)) ∨ (v4.toInt = 0 ∧ (x0.toInt < (0 : Int) ∨ (255 : Int) < x0.toInt))) := by have q_ := rv4; (try rw [z1] at q_); (try rw [z2] at q_); exact q_
  show PV _ _ _ _ _ _ _ 8 [.ref 123, .int x0, .int x1, .int x2, pv_U] [.int v4] _
  have k8 := rv4.2
  refine pv_if_eq (M := mX12_spreads) (tgt := 38) dX12_spreads_8 11 rfl (by decide) (fun c6 => ?_) (fun c6 => ?_)
  · have c6 := iv_eq (X := v4.toInt) (Y := 0) c6 rfl (by decide)
    refine pv_iconst (M := mX12_spreads) (v := 0) dX12_spreads_38 39 rfl (by decide) ?_
    have z7 : (0 : Int32).toInt = 0 := by decide
    exact pv_iret (M := mX12_spreads) dX12_spreads_39 rfl rfl ⟨_, _, _, rfl, rfl, I, Kp, by decide, by decide, ⟨NKp, (Or.inl ⟨by decide, fun q => by have q1 := q.1; have q2 := q.2.1; have q3 := q.2.2.1; have q4 := q.2.2.2.1; have q5 := q.2.2.2.2; omega, rfl⟩)⟩⟩
  · have pc6 := rv4.1.resolve_left c6
    have c6 := iv_ne (X := v4.toInt) (Y := 0) c6 rfl (by decide)
    refine pv_iload_n (M := mX12_spreads) 1 dX12_spreads_11 12 rfl rfl rfl ?_
    refine pv_aload_n (M := mX12_spreads) 0 dX12_spreads_12 13 rfl rfl rfl ?_
    refine iv_get (M := mX12_spreads) (l1 := 0) (l2 := 255) dX12_spreads_13 FX12 4 wd1177 (by decide) (tl123 hT) rfl I rfl 16 rfl (fun v8 ev8 pv8 qv8 => ?_)
    have k16 := ev8
    refine pv_iconst (M := mX12_spreads) (v := (-1)) dX12_spreads_16 17 rfl (by decide) ?_
    refine iv_xorU (M := mX12_spreads) dX12_spreads_17 18 rfl (fun v10 ev10 => ?_)
    have k18 := ev10
    refine iv_andU (M := mX12_spreads) dX12_spreads_18 19 rfl (fun v12 ev12 => ?_)
    have k19 : (x0 &&& (m 123 4 ^^^ -1)).toInt = v12.toInt := by rw [ev12, k18, k16]
    refine pv_if_ne (M := mX12_spreads) (tgt := 38) dX12_spreads_19 22 rfl (by decide) (fun c14 => ?_) (fun c14 => ?_)
    · have c14 := iv_ne (X := v12.toInt) (Y := 0) c14 rfl (by decide)
      refine pv_iconst (M := mX12_spreads) (v := 0) dX12_spreads_38 39 rfl (by decide) ?_
      have z15 : (0 : Int32).toInt = 0 := by decide
      exact pv_iret (M := mX12_spreads) dX12_spreads_39 rfl rfl ⟨_, _, _, rfl, rfl, I, Kp, by decide, by decide, ⟨NKp, (Or.inl ⟨by decide, fun q => by have q1 := q.1; have q2 := q.2.1; have q3 := q.2.2.1; have q4 := q.2.2.2.1; have q5 := q.2.2.2.2; omega, rfl⟩)⟩⟩
    · have c14 := iv_eq (X := v12.toInt) (Y := 0) c14 rfl (by decide)
      refine pv_iload_n (M := mX12_spreads) 1 dX12_spreads_22 23 rfl rfl rfl ?_
      refine pv_calls (M := mX12_spreads) (as := [.int x0]) (st := []) (kc2 := 0) (ks2 := 0) dX12_spreads_23 wd1626 YX12_bits wd1627 (s_X12_bits g hT I x0) rfl rfl (Nat.le_of_ble_eq_true rfl) (by decide) rfl rfl 26 rfl (fun rv h1 q16 => ?_)
      obtain ⟨v17, rfl, rfl, pv17, qv17, rv17⟩ := q16
      replace rv17 : v17.toInt = bF x0 8 := rv17
      show PV _ _ _ _ _ _ _ 26 [.ref 123, .int x0, .int x1, .int x2, pv_U] [.int v17] _
      have k26 := rv17
      refine pv_iload_n (M := mX12_spreads) 2 dX12_spreads_26 27 rfl rfl rfl ?_
      refine pv_icmp_lt (M := mX12_spreads) (tgt := 38) dX12_spreads_27 30 rfl (by decide) (fun c19 => ?_) (fun c19 => ?_)
      · have c19 := iv_lt (X := v17.toInt) (Y := x1.toInt) c19 rfl rfl
        refine pv_iconst (M := mX12_spreads) (v := 0) dX12_spreads_38 39 rfl (by decide) ?_
        have z20 : (0 : Int32).toInt = 0 := by decide
        exact pv_iret (M := mX12_spreads) dX12_spreads_39 rfl rfl ⟨_, _, _, rfl, rfl, I, Kp, by decide, by decide, ⟨NKp, (Or.inl ⟨by decide, fun q => by have q1 := q.1; have q2 := q.2.1; have q3 := q.2.2.1; have q4 := q.2.2.2.1; have q5 := q.2.2.2.2; omega, rfl⟩)⟩⟩
      · have c19 := iv_nlt (X := v17.toInt) (Y := x1.toInt) c19 rfl rfl
        refine pv_iload_n (M := mX12_spreads) 1 dX12_spreads_30 31 rfl rfl rfl ?_
        refine pv_calls (M := mX12_spreads) (as := [.int x0]) (st := []) (kc2 := 0) (ks2 := 0) dX12_spreads_31 wd1626 YX12_bits wd1627 (s_X12_bits g hT I x0) rfl rfl (Nat.le_of_ble_eq_true rfl) (by decide) rfl rfl 34 rfl (fun rv h1 q21 => ?_)
        obtain ⟨v22, rfl, rfl, pv22, qv22, rv22⟩ := q21
        replace rv22 : v22.toInt = bF x0 8 := rv22
        show PV _ _ _ _ _ _ _ 34 [.ref 123, .int x0, .int x1, .int x2, pv_U] [.int v22] _
        have k34 := rv22
        refine pv_iload_n (M := mX12_spreads) 3 dX12_spreads_34 35 rfl rfl rfl ?_
        refine pv_icmp_le (M := mX12_spreads) (tgt := 40) dX12_spreads_35 38 rfl (by decide) (fun c24 => ?_) (fun c24 => ?_)
        · have c24 := iv_le (X := v22.toInt) (Y := x2.toInt) c24 rfl rfl
          refine pv_aload_n (M := mX12_spreads) 0 dX12_spreads_40 41 rfl rfl rfl ?_
          refine pv_iconst (M := mX12_spreads) (v := 0) dX12_spreads_41 42 rfl (by decide) ?_
          refine iv_put (M := mX12_spreads) (l1 := 0) (l2 := 4) dX12_spreads_42 FX12 50 wd1223 (by decide) rfl (tl123 hT) rfl rfl rfl I rfl (by decide) (by decide) 45 rfl (fun m25 e28 I26 => ?_)
          have K27 := Kp.set e28 rfl
          have NK27 := NKp
          have w29 : (m25 123 50).toInt = 0 := by rw [e28, up2_eq] <;> rfl
          refine pv_iconst (M := mX12_spreads) (v := 0) dX12_spreads_45 46 rfl (by decide) ?_
          refine pv_istore (M := mX12_spreads) (lo2 := [.ref 123, .int x0, .int x1, .int x2, .int 0]) dX12_spreads_46 48 rfl (by decide) rfl rfl ?_
          have lp36 : ∀ (fuel35 : Nat) (y30 : Int32) (m31 : Nat → Nat → Int32) (n32 : Nat → Nat → Int64), (0 ≤ y30.toInt) → (y30.toInt ≤ 8) → ((m31 123 50).toInt = bF x0 y30.toInt.toNat) → (CHI m31 x0 y30.toInt ∧ CHA m31 x0 y30.toInt) → (CHLi m31 x0 y30.toInt.toNat) → IV BB m31 → fr (wl [(123, 123, some 50), (157, 157, none)]) m m31 → nE n n32 → ((8 - y30.toInt) : Int).toNat < fuel35 → PV none g mX12_spreads (sqIn T BB (wl [(123, 123, some 50), (157, 157, none)]) r m 0 1 (fun m' n' v => nE n n' ∧ ((v.toInt = 0 ∧ ¬ SPR m x0 x1.toInt x2.toInt ∧ m' = m) ∨ (v.toInt = 1 ∧ SPR m x0 x1.toInt x2.toInt ∧ CHLi m' x0 8 ∧ CHI m' x0 8 ∧ CHA m' x0 8)))) 2 0 0 48 [.ref 123, .int x0, .int x1, .int x2, .int y30] [] (mk T m31 n32 r) := by
            intro fuel35
            induction fuel35 with
            | zero => intro y30 m31 n32 b38 b39 b40 b41 b42 I33 K34 NK34 z43; omega
            | succ fuel35 ih37 =>
              intro y30 m31 n32 b38 b39 b40 b41 b42 I33 K34 NK34 z43
              have z44 : 0 ≤ (m31 123 50).toInt ∧ (m31 123 50).toInt ≤ 4 := I33 123 50
              have kg1 := (show (m31 123 50).toInt = bF x0 y30.toInt.toNat by assumption)
              have kg2 := (show CHI m31 x0 y30.toInt ∧ CHA m31 x0 y30.toInt by assumption)
              have kg3 := (show CHLi m31 x0 y30.toInt.toNat by assumption)
              refine pv_iload (M := mX12_spreads) dX12_spreads_48 50 rfl rfl ?_
              refine pv_bipush (M := mX12_spreads) (v := 8) dX12_spreads_50 52 rfl (by decide) ?_
              refine pv_icmp_ge (M := mX12_spreads) (tgt := 94) dX12_spreads_52 55 rfl (by decide) (fun c48 => ?_) (fun c48 => ?_)
              · have c48 := iv_le (X := 8) (Y := y30.toInt) c48 (by decide) rfl
                refine pv_iconst (M := mX12_spreads) (v := 1) dX12_spreads_94 95 rfl (by decide) ?_
                have z49 : (1 : Int32).toInt = 1 := by decide
                exact pv_iret (M := mX12_spreads) dX12_spreads_95 rfl rfl ⟨_, _, _, rfl, rfl, I33, K34, by decide, by decide, ⟨NK34, (Or.inr ⟨by decide, ⟨by omega, by omega, by omega, by omega, by omega⟩, (by have q := kg3; rw [show y30.toInt.toNat = 8 by omega] at q; exact q), (by have q := kg2.1; rw [show y30.toInt = 8 by omega] at q; exact q), (by have q := kg2.2; rw [show y30.toInt = 8 by omega] at q; exact q)⟩)⟩⟩
              · have c48 := iv_nle (X := 8) (Y := y30.toInt) c48 (by decide) rfl
                refine pv_iload_n (M := mX12_spreads) 1 dX12_spreads_55 56 rfl rfl rfl ?_
                refine pv_iload (M := mX12_spreads) dX12_spreads_56 58 rfl rfl ?_
                refine iv_shrU (M := mX12_spreads) dX12_spreads_58 59 rfl (fun v50 ev50 => ?_)
                have k59 := ev50
                refine pv_iconst (M := mX12_spreads) (v := 1) dX12_spreads_59 60 rfl (by decide) ?_
                refine iv_iandm (M := mX12_spreads) dX12_spreads_60 61 rfl 1 (by decide) (by decide) (fun v52 ev52 pv52 qv52 => ?_)
                have qv52 : v52.toInt < 2 := qv52
                have k61 := bt_of k59 ev52
                have k61b := bF_s (d := x0) (j := y30.toInt) (k := y30.toInt + 1) (by omega) rfl
                have k61c := bF_le x0 8 (y30.toInt + 1).toNat (by omega)
                refine pv_if_ne (M := mX12_spreads) (tgt := 67) dX12_spreads_61 64 rfl (by decide) (fun c56 => ?_) (fun c56 => ?_)
                · have c56 := iv_ne (X := v52.toInt) (Y := 0) c56 rfl (by decide)
                  refine pv_aload_n (M := mX12_spreads) 0 dX12_spreads_67 68 rfl rfl rfl ?_
                  refine mv_get (M := mX12_spreads) (v := .ref 157) dX12_spreads_68 FX12 51 wd1224 (by decide) (tl123 hT) rfl rfl 71 rfl ?_
                  refine pv_aload_n (M := mX12_spreads) 0 dX12_spreads_71 72 rfl rfl rfl ?_
                  refine iv_get (M := mX12_spreads) (l1 := 0) (l2 := 4) dX12_spreads_72 FX12 50 wd1223 (by decide) (tl123 hT) rfl I33 rfl 75 rfl (fun v57 ev57 pv57 qv57 => ?_)
                  have wv57 : v57.toInt = (m31 123 50).toInt := congrArg Int32.toInt ev57
                  have k75 : v57.toInt = (m31 123 50).toInt := congrArg Int32.toInt ev57
                  refine pv_iload (M := mX12_spreads) dX12_spreads_75 77 rfl rfl ?_
                  refine iv_iast (M := mX12_spreads) (X := v57.toInt) (l1 := 0) (l2 := 7) dX12_spreads_77 (tl157 hT) rfl (by omega) (by omega) I33 (fun _ => rfl) (by omega) (by omega) 78 rfl (fun m59 e62 I60 => ?_)
                  have K61 := K34.set e62 rfl
                  have NK61 := NK34
                  have w63 : (m59 123 50).toInt = (m31 123 50).toInt := by rw [e62, up2_ne (by omega)]
                  have k78 := (e62).trans (up2_ix (j := (m31 123 50).toInt.toNat) (by omega))
                  refine pv_aload_n (M := mX12_spreads) 0 dX12_spreads_78 79 rfl rfl rfl ?_
                  refine pv_aload_n (M := mX12_spreads) 0 dX12_spreads_79 80 rfl rfl rfl ?_
                  refine iv_get (M := mX12_spreads) (l1 := 0) (l2 := 4) dX12_spreads_80 FX12 50 wd1223 (by decide) (tl123 hT) rfl I60 rfl 83 rfl (fun v65 ev65 pv65 qv65 => ?_)
                  have wv65 : v65.toInt = (m59 123 50).toInt := congrArg Int32.toInt ev65
                  have k83 : v65.toInt = (m31 123 50).toInt := by rw [ev65, k78, up2_ne (by omega)]
                  refine pv_iconst (M := mX12_spreads) (v := 1) dX12_spreads_83 84 rfl (by decide) ?_
                  refine iv_iadd (M := mX12_spreads) (X := v65.toInt) (Y := 1) dX12_spreads_84 85 rfl rfl (by decide) (by omega) (by omega) (fun v67 ev67 => ?_)
                  refine iv_put (M := mX12_spreads) (l1 := 0) (l2 := 4) dX12_spreads_85 FX12 50 wd1223 (by decide) rfl (tl123 hT) rfl rfl rfl I60 rfl (by omega) (by omega) 88 rfl (fun m68 e71 I69 => ?_)
                  have K70 := K61.set e71 rfl
                  have NK70 := NK61
                  have w72 : (m68 123 50).toInt = v67.toInt := by rw [e71, up2_eq]
                  try have k88 := CH_add kg2 (by omega) (by omega) (by omega) k78 (rfl) e71 (by omega) (rfl)
                  try have k88c := CHL_yes (j := y30.toInt + 1) (by omega) kg3 (by omega) rfl k78 rfl e71 (by omega)
                  refine iv_inc (M := mX12_spreads) (C := 1) dX12_spreads_88 91 rfl rfl (by decide) rfl rfl (by decide) (by omega) (by omega) (fun v75 ev75 => ?_)
                  show PV _ _ _ _ _ _ _ 91 [.ref 123, .int x0, .int x1, .int x2, .int v75] [] _
                  refine pv_goto (M := mX12_spreads) (tgt := 48) dX12_spreads_91 (by decide) ?_
                  have ku : v75.toInt = y30.toInt + 1 := by omega
                  have kb2 : CHI m68 x0 v75.toInt ∧ CHA m68 x0 v75.toInt := by rw [ku]; first | exact k88 | exact CH_skip kg2 (by omega) rfl
                  have kb1 : (m68 123 50).toInt = bF x0 v75.toInt.toNat := by rw [ku]; first | omega | (rw [e71, up2_eq]; omega)
                  have kb3 : CHLi m68 x0 v75.toInt.toNat := by rw [ku]; first | exact k88c | exact CHL_no (by omega) kg3 (by omega) rfl
                  exact ih37 v75 m68 n32 (by first | omega | assumption | exact (iv_rng _).2 | exact (iv_rng _).1 | decide) (by first | omega | assumption | exact (iv_rng _).2 | exact (iv_rng _).1 | decide) kb1 kb2 kb3 I69 K70 NK70 (by omega)
                · have c56 := iv_eq (X := v52.toInt) (Y := 0) c56 rfl (by decide)
                  refine pv_goto (M := mX12_spreads) (tgt := 88) dX12_spreads_64 (by decide) ?_
                  try have k88 := CH_add kg2 (by omega) (by omega) (by omega) k78 (rfl) e28 (by omega) (rfl)
                  try have k88c := CHL_yes (j := y30.toInt + 1) (by omega) kg3 (by omega) rfl k78 rfl e28 (by omega)
                  refine iv_inc (M := mX12_spreads) (C := 1) dX12_spreads_88 91 rfl rfl (by decide) rfl rfl (by decide) (by omega) (by omega) (fun v82 ev82 => ?_)
                  show PV _ _ _ _ _ _ _ 91 [.ref 123, .int x0, .int x1, .int x2, .int v82] [] _
                  refine pv_goto (M := mX12_spreads) (tgt := 48) dX12_spreads_91 (by decide) ?_
                  have ku : v82.toInt = y30.toInt + 1 := by omega
                  have kb2 : CHI m31 x0 v82.toInt ∧ CHA m31 x0 v82.toInt := by rw [ku]; first | exact k88 | exact CH_skip kg2 (by omega) rfl
                  have kb1 : (m31 123 50).toInt = bF x0 v82.toInt.toNat := by rw [ku]; first | omega | (rw [e28, up2_eq]; omega)
                  have kb3 : CHLi m31 x0 v82.toInt.toNat := by rw [ku]; first | exact k88c | exact CHL_no (by omega) kg3 (by omega) rfl
                  exact ih37 v82 m31 n32 (by first | omega | assumption | exact (iv_rng _).2 | exact (iv_rng _).1 | decide) (by first | omega | assumption | exact (iv_rng _).2 | exact (iv_rng _).1 | decide) kb1 kb2 kb3 I33 K34 NK34 (by omega)
          have z87 : (0 : Int32).toInt = 0 := by decide
          have ke1 : (m25 123 50).toInt = 0 := by rw [e28, up2_eq]; decide
          have ke2 : CHI m25 x0 0 ∧ CHA m25 x0 0 := ⟨fun q hq => by omega, fun i a b => by omega⟩
          exact lp36 (((8 - 0) : Int).toNat + 1) 0 m25 n (by first | omega | assumption | exact (iv_rng _).2 | exact (iv_rng _).1 | decide) (by first | omega | assumption | exact (iv_rng _).2 | exact (iv_rng _).1 | decide) (by rw [ke1, show (0 : Int32).toInt.toNat = 0 by decide]; rfl) (by rw [Int32.toInt_zero]; exact ke2) (by rw [Int32.toInt_zero]; exact CHL_0 ke1) I26 K27 NK27 (by omega)
        · have c24 := iv_nle (X := v22.toInt) (Y := x2.toInt) c24 rfl rfl
          refine pv_iconst (M := mX12_spreads) (v := 0) dX12_spreads_38 39 rfl (by decide) ?_
          have z90 : (0 : Int32).toInt = 0 := by decide
          exact pv_iret (M := mX12_spreads) dX12_spreads_39 rfl rfl ⟨_, _, _, rfl, rfl, I, Kp, by decide, by decide, ⟨NKp, (Or.inl ⟨by decide, fun q => by have q1 := q.1; have q2 := q.2.1; have q3 := q.2.2.1; have q4 := q.2.2.2.1; have q5 := q.2.2.2.2; omega, rfl⟩)⟩⟩

set_option maxHeartbeats 2000000 in
set_option maxRecDepth 20000 in
theorem s_X12_isTooLong_ve (g : pv_G) {T : List mv_T} {m : Nat → Nat → Int32} {n : Nat → Nat → Int64} {r : Nat → Value} (hT : TX T) (I : IV BB m) : PM g mX12_isTooLong yX12_isTooLong (sqP (mk T m n r) 0 1 (fun v => (v.toInt = 1 ∧ ∃ q : Nat, (q : Int) < (m 123 50).toInt ∧ 12 < LOq m q) ∨ (v.toInt = 0 ∧ LO12 m))) 2 0 0 [.ref 123] (mk T m n r) := by
  have Kp : fr (wl []) m m := fr.rf
  have z25 : 0 ≤ (m 123 50).toInt ∧ (m 123 50).toInt ≤ 4 := I 123 50
  refine PM.of 1 (lo := [.ref 123, pv_U]) rfl (by decide) rfl rfl (Nat.le_of_ble_eq_true rfl) ?_
  refine pv_iconst (M := mX12_isTooLong) (v := 0) dX12_isTooLong_0 1 rfl (by decide) ?_
  refine pv_istore_n (M := mX12_isTooLong) 1 (lo2 := [.ref 123, .int 0]) dX12_isTooLong_1 2 rfl rfl (by decide) rfl rfl ?_
  have lp7 : ∀ (fuel6 : Nat) (y1 : Int32), (0 ≤ y1.toInt) → (y1.toInt ≤ 4) → (∀ q : Int, 0 ≤ q → q < y1.toInt → LOq m q ≤ 12) → ((4 - y1.toInt) : Int).toNat < fuel6 → PV none g mX12_isTooLong (sqP (mk T m n r) 0 1 (fun v => (v.toInt = 1 ∧ ∃ q : Nat, (q : Int) < (m 123 50).toInt ∧ 12 < LOq m q) ∨ (v.toInt = 0 ∧ LO12 m))) 2 0 0 2 [.ref 123, .int y1] [] (mk T m n r) := by
    intro fuel6
    induction fuel6 with
    | zero => intro y1 b9 b10 b11 z12; omega
    | succ fuel6 ih8 =>
      intro y1 b9 b10 b11 z12
      have kg := (show ∀ q : Int, 0 ≤ q → q < y1.toInt → LOq m q ≤ 12 by assumption)
      refine pv_iload_n (M := mX12_isTooLong) 1 dX12_isTooLong_2 3 rfl rfl rfl ?_
      refine pv_aload_n (M := mX12_isTooLong) 0 dX12_isTooLong_3 4 rfl rfl rfl ?_
      refine iv_get (M := mX12_isTooLong) (l1 := 0) (l2 := 4) dX12_isTooLong_4 FX12 50 wd1223 (by decide) (tl123 hT) rfl I rfl 7 rfl (fun v14 ev14 pv14 qv14 => ?_)
      have wv14 : v14.toInt = (m 123 50).toInt := congrArg Int32.toInt ev14
      refine pv_icmp_ge (M := mX12_isTooLong) (tgt := 28) dX12_isTooLong_7 10 rfl (by decide) (fun c15 => ?_) (fun c15 => ?_)
      · have c15 := iv_le (X := v14.toInt) (Y := y1.toInt) c15 rfl rfl
        refine pv_iconst (M := mX12_isTooLong) (v := 0) dX12_isTooLong_28 29 rfl (by decide) ?_
        have z16 : (0 : Int32).toInt = 0 := by decide
        exact pv_iret (M := mX12_isTooLong) dX12_isTooLong_29 rfl rfl ⟨_, rfl, rfl, by decide, by decide, (Or.inr ⟨by decide, (fun q hq => ⟨(LO16_of (fun j => I 126 j) q).1, if z : q < y1.toInt then kg q hq z else by unfold LOq; rw [if_neg (by omega)]; omega⟩)⟩)⟩
      · have c15 := iv_nle (X := v14.toInt) (Y := y1.toInt) c15 rfl rfl
        refine pv_aload_n (M := mX12_isTooLong) 0 dX12_isTooLong_10 11 rfl rfl rfl ?_
        refine pv_iload_n (M := mX12_isTooLong) 1 dX12_isTooLong_11 12 rfl rfl rfl ?_
        refine pv_callv (M := mX12_isTooLong) (as := [.int y1]) (st := []) (kc2 := 0) (ks2 := 0) dX12_isTooLong_12 wd1633 YX12_longOf ⟨wd1635, wd98⟩ (mk_get (tl123 hT)) rfl rfl (s_X12_longOf g hT I y1 (by omega) (by omega)) rfl rfl (Nat.le_of_ble_eq_true rfl) (by decide) rfl rfl 15 rfl (fun rv h1 q17 => ?_)
        obtain ⟨v18, rfl, rfl, pv18, qv18, rv18⟩ := q17
        replace rv18 : v18.toInt = LOq m y1.toInt := rv18
        show PV _ _ _ _ _ _ _ 15 [.ref 123, .int y1] [.int v18] _
        have k15 : v18.toInt = LOq m y1.toInt := rv18
        refine pv_bipush (M := mX12_isTooLong) (v := 12) dX12_isTooLong_15 17 rfl (by decide) ?_
        refine pv_icmp_le (M := mX12_isTooLong) (tgt := 22) dX12_isTooLong_17 20 rfl (by decide) (fun c20 => ?_) (fun c20 => ?_)
        · have c20 := iv_le (X := v18.toInt) (Y := 12) c20 rfl (by decide)
          refine iv_inc (M := mX12_isTooLong) (C := 1) dX12_isTooLong_22 25 rfl rfl (by decide) rfl rfl (by decide) (by omega) (by omega) (fun v21 ev21 => ?_)
          show PV _ _ _ _ _ _ _ 25 [.ref 123, .int v21] [] _
          refine pv_goto (M := mX12_isTooLong) (tgt := 2) dX12_isTooLong_25 (by decide) ?_
          have kb : ∀ q : Int, 0 ≤ q → q < v21.toInt → LOq m q ≤ 12 := fun q a b => if z : q = y1.toInt then by rw [z, ← k15]; omega else kg q a (by omega)
          exact ih8 v21 (by first | omega | assumption | exact (iv_rng _).2 | exact (iv_rng _).1 | decide) (by first | omega | assumption | exact (iv_rng _).2 | exact (iv_rng _).1 | decide) kb (by omega)
        · have c20 := iv_nle (X := v18.toInt) (Y := 12) c20 rfl (by decide)
          refine pv_iconst (M := mX12_isTooLong) (v := 1) dX12_isTooLong_20 21 rfl (by decide) ?_
          have z23 : (1 : Int32).toInt = 1 := by decide
          exact pv_iret (M := mX12_isTooLong) dX12_isTooLong_21 rfl rfl ⟨_, rfl, rfl, by decide, by decide, (Or.inl ⟨by decide, ⟨y1.toInt.toNat, by omega, by rw [show ((y1.toInt.toNat : Nat) : Int) = y1.toInt by omega, ← k15]; omega⟩⟩)⟩
  have z24 : (0 : Int32).toInt = 0 := by decide
  exact lp7 (((4 - 0) : Int).toNat + 1) 0 (by first | omega | assumption | exact (iv_rng _).2 | exact (iv_rng _).1 | decide) (by first | omega | assumption | exact (iv_rng _).2 | exact (iv_rng _).1 | decide) (fun q a b => by rw [Int32.toInt_zero] at b; omega) (by omega)

set_option maxHeartbeats 2000000 in
set_option maxRecDepth 20000 in
theorem s_X12_bound_ve (g : pv_G) {T : List mv_T} {m : Nat → Nat → Int32} {n : Nat → Nat → Int64} {r : Nat → Value} (hT : TX T) (I : IV BB m) (x0 : Int32) : PM g mX12_bound yX12_bound (sqIn T BB (wl [(123, 123, some 50), (157, 157, none), (158, 158, none), (159, 159, none), (163, 163, none)]) r m (-2147483648) 2147483647 (fun m' n' v => nM n n' ∧ (BDV (SPR m x0 2 4) (¬ TOO m x0) (SHR m) x0 v.toInt))) 5 0 0 [.ref 123, .int x0] (mk T m n r) := by
  have Kp : fr (wl [(123, 123, some 50), (157, 157, none), (158, 158, none), (159, 159, none), (163, 163, none)]) m m := fr.rf
  have NKp : nM n n := nM.rf
  refine PM.of 3 (lo := [.ref 123, .int x0, pv_U, pv_U, pv_U]) rfl (by decide) rfl rfl (Nat.le_of_ble_eq_true rfl) ?_
  refine pv_aload_n (M := mX12_bound) 0 dX12_bound_0 1 rfl rfl rfl ?_
  refine pv_iload_n (M := mX12_bound) 1 dX12_bound_1 2 rfl rfl rfl ?_
  refine pv_iconst (M := mX12_bound) (v := 2) dX12_bound_2 3 rfl (by decide) ?_
  refine pv_iconst (M := mX12_bound) (v := 4) dX12_bound_3 4 rfl (by decide) ?_
  have z1 : (2 : Int32).toInt = 2 := by decide
  have z2 : (4 : Int32).toInt = 4 := by decide
  refine pv_callv (M := mX12_bound) (as := [.int x0, .int 2, .int 4]) (st := []) (kc2 := 0) (ks2 := 0) dX12_bound_4 wd1622 YX12_spreads ⟨wd1624, wd96⟩ (mk_get (tl123 hT)) rfl rfl (s_X12_spreads_ve g hT I x0 2 (by decide) (by decide) 4 (by decide) (by decide)) rfl rfl (Nat.le_of_ble_eq_true rfl) (by decide) rfl rfl 7 rfl (fun rv h1 q3 => ?_)
  obtain ⟨m4, n5, v8, rfl, rfl, I6, K7, pv8, qv8, rv8⟩ := q3
  have NK7c := rv8.1
  replace rv8 := rv8.2
  replace rv8 : (v8.toInt = 0 ∧ ¬ SPR m x0 (2 : Int) (4 : Int) ∧ m4 = m) ∨ (v8.toInt = 1 ∧ SPR m x0 (2 : Int) (4 : Int) ∧ CHLi m4 x0 8 ∧ CHI m4 x0 8 ∧ CHA m4 x0 8) := by have q_ := rv8; (try rw [z1] at q_); (try rw [z2] at q_); exact q_
  have K7c := K7
  have NK7 := nM.trans NKp (nE_M NK7c)
  have K7 := Kp.trans (K7.sub (wl_sub (by decide)))
  show PV _ _ _ _ _ _ _ 7 [.ref 123, .int x0, pv_U, pv_U, pv_U] [.int v8] _
  have k7 := rv8
  refine pv_if_ne (M := mX12_bound) (tgt := 12) dX12_bound_7 10 rfl (by decide) (fun c10 => ?_) (fun c10 => ?_)
  · have c10 := iv_ne (X := v8.toInt) (Y := 0) c10 rfl (by decide)
    have k12 := k7.resolve_left (fun q => by omega)
    have kSP := k12.2.1
    have kCL := k12.2.2.1
    refine pv_aload_n (M := mX12_bound) 0 dX12_bound_12 13 rfl rfl rfl ?_
    refine pv_callv (M := mX12_bound) (as := []) (st := []) (kc2 := 0) (ks2 := 0) dX12_bound_13 wd1660 YX12_isTooLong ⟨wd1662, wd103⟩ (mk_get (tl123 hT)) rfl rfl (s_X12_isTooLong_ve g hT I6) rfl rfl (Nat.le_of_ble_eq_true rfl) (by decide) rfl rfl 16 rfl (fun rv h1 q14 => ?_)
    obtain ⟨v15, rfl, rfl, pv15, qv15, rv15⟩ := q14
    replace rv15 : (v15.toInt = 1 ∧ ∃ q : Nat, (q : Int) < (m4 123 50).toInt ∧ 12 < LOq m4 q) ∨ (v15.toInt = 0 ∧ LO12 m4) := rv15
    show PV _ _ _ _ _ _ _ 16 [.ref 123, .int x0, pv_U, pv_U, pv_U] [.int v15] _
    have k16 := rv15
    refine pv_if_eq (M := mX12_bound) (tgt := 22) dX12_bound_16 19 rfl (by decide) (fun c17 => ?_) (fun c17 => ?_)
    · have c17 := iv_eq (X := v15.toInt) (Y := 0) c17 rfl (by decide)
      have kl := (k16.resolve_left (fun q => by omega)).2
      have kD0 := D12_of k12.2.2.2.2 kl
      have kD : D12 m x0 := fun k a b c => by rw [← K7 126 k.toNat rfl]; exact kD0 k a b c
      have kC0 := k12.2.2.2.1
      have kTO : ¬ TOO m x0 := fun ⟨k, hk, h12⟩ => by have z := mbs_lt hk; have y := mbs_am hk; rw [amv_bt] at y; have b := bt_b x0 k; have q := kD k (by omega) (by omega) (by omega); rw [show ((k : Nat) : Int).toNat = k by omega] at q; omega
      clear k7 k12 k16
      refine pv_iconst (M := mX12_bound) (v := 0) dX12_bound_22 23 rfl (by decide) ?_
      refine pv_istore_n (M := mX12_bound) 2 (lo2 := [.ref 123, .int x0, .int 0, pv_U, pv_U]) dX12_bound_23 24 rfl rfl (by decide) rfl rfl ?_
      refine pv_iconst (M := mX12_bound) (v := 0) dX12_bound_24 25 rfl (by decide) ?_
      refine pv_istore_n (M := mX12_bound) 3 (lo2 := [.ref 123, .int x0, .int 0, .int 0, pv_U]) dX12_bound_25 26 rfl rfl (by decide) rfl rfl ?_
      have lp31 : ∀ (fuel30 : Nat) (y24 : Int32) (y25 : Int32) (m26 : Nat → Nat → Int32) (n27 : Nat → Nat → Int64), (0 ≤ y24.toInt) → (y24.toInt ≤ 1000000000) → (0 ≤ y25.toInt) → (y25.toInt ≤ 8) → (CHI m26 x0 8) → (BMP (SHR m) x0 y24.toInt y25.toInt 0) → IV BB m26 → fr (wl [(123, 123, some 50), (157, 157, none), (158, 158, none), (159, 159, none), (163, 163, none)]) m m26 → nM n n27 → ((8 - y25.toInt) : Int).toNat < fuel30 → PV none g mX12_bound (sqIn T BB (wl [(123, 123, some 50), (157, 157, none), (158, 158, none), (159, 159, none), (163, 163, none)]) r m (-2147483648) 2147483647 (fun m' n' v => nM n n' ∧ (BDV (SPR m x0 2 4) (¬ TOO m x0) (SHR m) x0 v.toInt))) 5 0 0 26 [.ref 123, .int x0, .int y24, .int y25, pv_U] [] (mk T m26 n27 r) := by
        intro fuel30
        induction fuel30 with
        | zero => intro y24 y25 m26 n27 b33 b34 b35 b36 b37 b38 I28 K29 NK29 z39; omega
        | succ fuel30 ih32 =>
          intro y24 y25 m26 n27 b33 b34 b35 b36 b37 b38 I28 K29 NK29 z39
          have kg26 := (show CHI m26 x0 8 by assumption)
          have kgm26 := (show BMP (SHR m) x0 y24.toInt y25.toInt 0 by assumption)
          refine pv_iload_n (M := mX12_bound) 3 dX12_bound_26 27 rfl rfl rfl ?_
          refine pv_bipush (M := mX12_bound) (v := 8) dX12_bound_27 29 rfl (by decide) ?_
          refine pv_icmp_ge (M := mX12_bound) (tgt := 116) dX12_bound_29 32 rfl (by decide) (fun c42 => ?_) (fun c42 => ?_)
          · have c42 := iv_le (X := 8) (Y := y25.toInt) c42 (by decide) rfl
            refine pv_iload_n (M := mX12_bound) 2 dX12_bound_116 117 rfl rfl rfl ?_
            exact pv_iret (M := mX12_bound) dX12_bound_117 rfl rfl ⟨_, _, _, rfl, rfl, I28, K29, (iv_rng y24).1, (iv_rng y24).2, ⟨NK29, (Or.inr (Or.inr ⟨kSP, kTO, BMP_end kgm26 (by omega)⟩))⟩⟩
          · have c42 := iv_nle (X := 8) (Y := y25.toInt) c42 (by decide) rfl
            refine pv_iload_n (M := mX12_bound) 3 dX12_bound_32 33 rfl rfl rfl ?_
            refine pv_iconst (M := mX12_bound) (v := 1) dX12_bound_33 34 rfl (by decide) ?_
            refine iv_iadd (M := mX12_bound) (X := y25.toInt) (Y := 1) dX12_bound_34 35 rfl rfl (by decide) (by omega) (by omega) (fun v43 ev43 => ?_)
            refine pv_istore (M := mX12_bound) (lo2 := [.ref 123, .int x0, .int y24, .int y25, .int v43]) dX12_bound_35 37 rfl (by decide) rfl rfl ?_
            have lp51 : ∀ (fuel50 : Nat) (y44 : Int32) (y45 : Int32) (m46 : Nat → Nat → Int32) (n47 : Nat → Nat → Int64), (0 ≤ y44.toInt) → (y44.toInt ≤ 1000000000) → (1 ≤ y45.toInt) → (y45.toInt ≤ 8) → (CHI m46 x0 8) → (y25.toInt < y45.toInt) → (BMP (SHR m) x0 y44.toInt y25.toInt y45.toInt) → IV BB m46 → fr (wl [(123, 123, some 50), (157, 157, none), (158, 158, none), (159, 159, none), (163, 163, none)]) m m46 → nM n n47 → ((8 - y45.toInt) : Int).toNat < fuel50 → PV none g mX12_bound (sqIn T BB (wl [(123, 123, some 50), (157, 157, none), (158, 158, none), (159, 159, none), (163, 163, none)]) r m (-2147483648) 2147483647 (fun m' n' v => nM n n' ∧ (BDV (SPR m x0 2 4) (¬ TOO m x0) (SHR m) x0 v.toInt))) 5 0 0 37 [.ref 123, .int x0, .int y44, .int y25, .int y45] [] (mk T m46 n47 r) := by
              intro fuel50
              induction fuel50 with
              | zero => intro y44 y45 m46 n47 b53 b54 b55 b56 b57 b58 b59 I48 K49 NK49 z60; omega
              | succ fuel50 ih52 =>
                intro y44 y45 m46 n47 b53 b54 b55 b56 b57 b58 b59 I48 K49 NK49 z60
                have kg37 := (show CHI m46 x0 8 by assumption)
                have kgm37 := (show BMP (SHR m) x0 y44.toInt y25.toInt y45.toInt by assumption)
                have K37 : m46 123 4 = m 123 4 := K49 123 4 rfl
                refine pv_iload (M := mX12_bound) dX12_bound_37 39 rfl rfl ?_
                refine pv_bipush (M := mX12_bound) (v := 8) dX12_bound_39 41 rfl (by decide) ?_
                refine pv_icmp_ge (M := mX12_bound) (tgt := 110) dX12_bound_41 44 rfl (by decide) (fun c64 => ?_) (fun c64 => ?_)
                · have c64 := iv_le (X := 8) (Y := y45.toInt) c64 (by decide) rfl
                  refine iv_inc (M := mX12_bound) (C := 1) dX12_bound_110 113 rfl rfl (by decide) rfl rfl (by decide) (by omega) (by omega) (fun v65 ev65 => ?_)
                  show PV _ _ _ _ _ _ _ 113 [.ref 123, .int x0, .int y44, .int v65, .int y45] [] _
                  refine pv_goto (M := mX12_bound) (tgt := 26) dX12_bound_113 (by decide) ?_
                  refine pv_fg (lo2 := [.ref 123, .int x0, .int y44, .int v65, pv_U]) ⟨Or.inr rfl, ⟨Or.inr rfl, ⟨Or.inr rfl, ⟨Or.inr rfl, ⟨Or.inl rfl, trivial⟩⟩⟩⟩⟩ ?_
                  have kb26 := kg37
                  have kbm26 : BMP (SHR m) x0 y44.toInt v65.toInt 0 := BMP_row kgm37 (by omega) (by omega)
                  exact ih32 y44 v65 m46 n47 (by first | omega | assumption | exact (iv_rng _).2 | exact (iv_rng _).1 | decide) (by first | omega | assumption | exact (iv_rng _).2 | exact (iv_rng _).1 | decide) (by first | omega | assumption | exact (iv_rng _).2 | exact (iv_rng _).1 | decide) (by first | omega | assumption | exact (iv_rng _).2 | exact (iv_rng _).1 | decide) kb26 kbm26 I48 K49 NK49 (by omega)
                · have c64 := iv_nle (X := 8) (Y := y45.toInt) c64 (by decide) rfl
                  refine pv_iload_n (M := mX12_bound) 1 dX12_bound_44 45 rfl rfl rfl ?_
                  refine pv_iload_n (M := mX12_bound) 3 dX12_bound_45 46 rfl rfl rfl ?_
                  refine iv_shrU (M := mX12_bound) dX12_bound_46 47 rfl (fun v68 ev68 => ?_)
                  have k47 := ev68
                  refine pv_iconst (M := mX12_bound) (v := 1) dX12_bound_47 48 rfl (by decide) ?_
                  refine iv_iandm (M := mX12_bound) dX12_bound_48 49 rfl 1 (by decide) (by decide) (fun v70 ev70 pv70 qv70 => ?_)
                  have qv70 : v70.toInt < 2 := qv70
                  have k49 := bt_of k47 ev70
                  refine pv_if_eq (M := mX12_bound) (tgt := 104) dX12_bound_49 52 rfl (by decide) (fun c72 => ?_) (fun c72 => ?_)
                  · have c72 := iv_eq (X := v70.toInt) (Y := 0) c72 rfl (by decide)
                    refine iv_inc (M := mX12_bound) (C := 1) dX12_bound_104 107 rfl rfl (by decide) rfl rfl (by decide) (by omega) (by omega) (fun v73 ev73 => ?_)
                    show PV _ _ _ _ _ _ _ 107 [.ref 123, .int x0, .int y44, .int y25, .int v73] [] _
                    refine pv_goto (M := mX12_bound) (tgt := 37) dX12_bound_107 (by decide) ?_
                    have kb37 : CHI m46 x0 8 := by first | exact kC2 | exact kg37
                    have kbm37 : BMP (SHR m) x0 y44.toInt y25.toInt v73.toInt := by first | exact BMP_hit kgm37 (by omega) (by omega) (by omega) (by omega) (by omega) kSR (by omega) (by omega) | exact BMP_skip kgm37 (by omega) (by omega)
                    exact ih52 y44 v73 m46 n47 (by first | omega | assumption | exact (iv_rng _).2 | exact (iv_rng _).1 | decide) (by first | omega | assumption | exact (iv_rng _).2 | exact (iv_rng _).1 | decide) (by first | omega | assumption | exact (iv_rng _).2 | exact (iv_rng _).1 | decide) (by first | omega | assumption | exact (iv_rng _).2 | exact (iv_rng _).1 | decide) kb37 (by first | omega | assumption | (show y25.toInt < v73.toInt; omega) | decide) kbm37 I48 K49 NK49 (by omega)
                  · have c72 := iv_ne (X := v70.toInt) (Y := 0) c72 rfl (by decide)
                    refine pv_iload_n (M := mX12_bound) 1 dX12_bound_52 53 rfl rfl rfl ?_
                    refine pv_iload (M := mX12_bound) dX12_bound_53 55 rfl rfl ?_
                    refine iv_shrU (M := mX12_bound) dX12_bound_55 56 rfl (fun v76 ev76 => ?_)
                    have k56 := ev76
                    refine pv_iconst (M := mX12_bound) (v := 1) dX12_bound_56 57 rfl (by decide) ?_
                    refine iv_iandm (M := mX12_bound) dX12_bound_57 58 rfl 1 (by decide) (by decide) (fun v78 ev78 pv78 qv78 => ?_)
                    have qv78 : v78.toInt < 2 := qv78
                    have k58 := bt_of k56 ev78
                    refine pv_if_ne (M := mX12_bound) (tgt := 64) dX12_bound_58 61 rfl (by decide) (fun c80 => ?_) (fun c80 => ?_)
                    · have c80 := iv_ne (X := v78.toInt) (Y := 0) c80 rfl (by decide)
                      refine pv_aload_n (M := mX12_bound) 0 dX12_bound_64 65 rfl rfl rfl ?_
                      refine pv_iconst (M := mX12_bound) (v := 1) dX12_bound_65 66 rfl (by decide) ?_
                      refine pv_iload_n (M := mX12_bound) 3 dX12_bound_66 67 rfl rfl rfl ?_
                      refine iv_shlU (M := mX12_bound) dX12_bound_67 68 rfl (fun v81 ev81 => ?_)
                      have pv81 : 1 ≤ v81.toInt ∧ v81.toInt ≤ 128 := by rw [ev81]; exact iv_sh17 (by omega) (by omega)
                      have k68 := ev81
                      refine pv_iconst (M := mX12_bound) (v := 1) dX12_bound_68 69 rfl (by decide) ?_
                      refine pv_iload (M := mX12_bound) dX12_bound_69 71 rfl rfl ?_
                      refine iv_shlU (M := mX12_bound) dX12_bound_71 72 rfl (fun v83 ev83 => ?_)
                      have pv83 : 1 ≤ v83.toInt ∧ v83.toInt ≤ 128 := by rw [ev83]; exact iv_sh17 (by omega) (by omega)
                      have k72 := ev83
                      refine iv_orU (M := mX12_bound) dX12_bound_72 73 rfl (fun v85 ev85 => ?_)
                      have pv85 : 0 ≤ v85.toInt ∧ v85.toInt ≤ 255 := by rw [ev85]; exact iv_or8 (by omega) (by omega) (by omega) (by omega)
                      have k73 := ev85
                      have kpx : v85 = pxy y25.toInt.toNat y45.toInt.toNat := by rw [ev85, k68, k72]; unfold pxy; rw [ofn (by omega), ofn (by omega)]
                      refine pv_iconst (M := mX12_bound) (v := 2) dX12_bound_73 74 rfl (by decide) ?_
                      refine pv_iconst (M := mX12_bound) (v := 2) dX12_bound_74 75 rfl (by decide) ?_
                      have kpx2 : SPR m v85 2 2 := by rw [kpx]; exact SPR_pair kSP (by omega) (by omega) (by rw [show ((y25.toInt.toNat : Nat) : Int) = y25.toInt by omega]; omega) (by rw [show ((y45.toInt.toNat : Nat) : Int) = y45.toInt by omega]; omega)
                      have z89 : (2 : Int32).toInt = 2 := by decide
                      have z90 : (2 : Int32).toInt = 2 := by decide
                      refine pv_callv (M := mX12_bound) (as := [.int v85, .int 2, .int 2]) (st := []) (kc2 := 0) (ks2 := 0) dX12_bound_75 wd1622 YX12_spreads ⟨wd1624, wd96⟩ (mk_get (tl123 hT)) rfl rfl (s_X12_spreads_ve g hT I48 v85 2 (by decide) (by decide) 2 (by decide) (by decide)) rfl rfl (Nat.le_of_ble_eq_true rfl) (by decide) rfl rfl 78 rfl (fun rv h1 q91 => ?_)
                      obtain ⟨m92, n93, v96, rfl, rfl, I94, K95, pv96, qv96, rv96⟩ := q91
                      have NK95c := rv96.1
                      replace rv96 := rv96.2
                      replace rv96 : (v96.toInt = 0 ∧ ¬ SPR m46 v85 (2 : Int) (2 : Int) ∧ m92 = m46) ∨ (v96.toInt = 1 ∧ SPR m46 v85 (2 : Int) (2 : Int) ∧ CHLi m92 v85 8 ∧ CHI m92 v85 8 ∧ CHA m92 v85 8) := by have q_ := rv96; (try rw [z89] at q_); (try rw [z90] at q_); exact q_
                      have K95c := K95
                      have NK95 := nM.trans NK49 (nE_M NK95c)
                      have K95 := K49.trans (K95.sub (wl_sub (by decide)))
                      show PV _ _ _ _ _ _ _ 78 [.ref 123, .int x0, .int y44, .int y25, .int y45] [.int v96] _
                      have k78 := rv96
                      have k78b := k78.resolve_left (fun z => z.2.1 (by have w := kpx2; unfold SPR at w ⊢; rw [K37]; exact w))
                      have kC : CHI m92 x0 8 := CHI_pair k68 k72 k73 k78b.2.2.2.1 ⟨by omega, by omega⟩ ⟨by omega, by omega⟩ (by omega) (by omega)
                      have kCL2 := k78b.2.2.1
                      have kl2 : LO12 m92 := LO12_of kC kD (fun j => K95 126 j rfl) (fun j => (I94 126 j).1)
                      refine pv_pop (M := mX12_bound) dX12_bound_78 79 rfl rfl ?_
                      refine pv_aload_n (M := mX12_bound) 0 dX12_bound_79 80 rfl rfl rfl ?_
                      refine pv_callv (M := mX12_bound) (as := []) (st := []) (kc2 := 0) (ks2 := 0) dX12_bound_80 wd1664 YX12_laysShort ⟨wd1666, wd104⟩ (mk_get (tl123 hT)) rfl rfl (s_X12_laysShort_ve g hT I94 kl2) rfl rfl (Nat.le_of_ble_eq_true rfl) (by decide) rfl rfl 83 rfl (fun rv h1 q102 => ?_)
                      obtain ⟨m103, n104, rfl, rfl, I105, K106, rm103⟩ := q102
                      have NK106c := rm103.1
                      replace rm103 := rm103.2
                      replace rm103 : SHp m103 (-1) 16 16 16 ∧ SHm m103 (-1) 16 16 16 := rm103
                      have K106c := K106
                      have NK106 := nM.trans NK95 NK106c
                      have K106 := K95.trans (K106.sub (wl_sub (by decide)))
                      show PV _ _ _ _ _ _ _ 83 [.ref 123, .int x0, .int y44, .int y25, .int y45] [] _
                      have kC2 : CHI m103 x0 8 := CHI_eq kC (K106c 123 50 rfl) (fun j => K106c 157 j rfl)
                      have k83 := rm103
                      have kCL3 : CHLi m103 (pxy y25.toInt.toNat y45.toInt.toNat) 8 := by rw [← kpx]; exact ⟨by rw [K106c 123 50 rfl]; exact kCL2.1, fun q k z => by rw [K106c 157 q rfl]; exact kCL2.2 q k z⟩
                      have kSR : SHR m (pxy y25.toInt.toNat y45.toInt.toNat) (m103 163 0).toInt := SHR_eq (fun j => (K106 126 j rfl).symm) (fun j => (K106 127 j rfl).symm) (SHR_tb I105 kCL3 k83.1 k83.2 rfl)
                      refine pv_aload_n (M := mX12_bound) 0 dX12_bound_83 84 rfl rfl rfl ?_
                      refine mv_get (M := mX12_bound) (v := .ref 163) dX12_bound_84 FX12 57 wd1230 (by decide) (tl123 hT) rfl rfl 87 rfl ?_
                      refine pv_iconst (M := mX12_bound) (v := 0) dX12_bound_87 88 rfl (by decide) ?_
                      refine iv_iald (M := mX12_bound) (X := 0) (l1 := 0) (l2 := 1000000000) dX12_bound_88 (tl163 hT) (by decide) (by omega) (by omega) I105 (fun _ => rfl) 89 rfl (fun v111 ev111 pv111 qv111 => ?_)
                      refine pv_iload_n (M := mX12_bound) 2 dX12_bound_89 90 rfl rfl rfl ?_
                      have k90 : v111.toInt = (m103 163 0).toInt := congrArg Int32.toInt ev111
                      refine pv_icmp_le (M := mX12_bound) (tgt := 102) dX12_bound_90 93 rfl (by decide) (fun c113 => ?_) (fun c113 => ?_)
                      · have c113 := iv_le (X := v111.toInt) (Y := y44.toInt) c113 rfl rfl
                        refine pv_iload_n (M := mX12_bound) 2 dX12_bound_102 103 rfl rfl rfl ?_
                        refine pv_istore_n (M := mX12_bound) 2 (lo2 := [.ref 123, .int x0, .int y44, .int y25, .int y45]) dX12_bound_103 104 rfl rfl (by decide) rfl rfl ?_
                        refine iv_inc (M := mX12_bound) (C := 1) dX12_bound_104 107 rfl rfl (by decide) rfl rfl (by decide) (by omega) (by omega) (fun v114 ev114 => ?_)
                        show PV _ _ _ _ _ _ _ 107 [.ref 123, .int x0, .int y44, .int y25, .int v114] [] _
                        refine pv_goto (M := mX12_bound) (tgt := 37) dX12_bound_107 (by decide) ?_
                        have kb37 : CHI m103 x0 8 := by first | exact kC2 | exact kg37
                        have kbm37 : BMP (SHR m) x0 y44.toInt y25.toInt v114.toInt := by first | exact BMP_hit kgm37 (by omega) (by omega) (by omega) (by omega) (by omega) kSR (by omega) (by omega) | exact BMP_skip kgm37 (by omega) (by omega)
                        exact ih52 y44 v114 m103 n104 (by first | omega | assumption | exact (iv_rng _).2 | exact (iv_rng _).1 | decide) (by first | omega | assumption | exact (iv_rng _).2 | exact (iv_rng _).1 | decide) (by first | omega | assumption | exact (iv_rng _).2 | exact (iv_rng _).1 | decide) (by first | omega | assumption | exact (iv_rng _).2 | exact (iv_rng _).1 | decide) kb37 (by first | omega | assumption | (show y25.toInt < v114.toInt; omega) | decide) kbm37 I105 K106 NK106 (by omega)
                      · have c113 := iv_nle (X := v111.toInt) (Y := y44.toInt) c113 rfl rfl
                        refine pv_aload_n (M := mX12_bound) 0 dX12_bound_93 94 rfl rfl rfl ?_
                        refine mv_get (M := mX12_bound) (v := .ref 163) dX12_bound_94 FX12 57 wd1230 (by decide) (tl123 hT) rfl rfl 97 rfl ?_
                        refine pv_iconst (M := mX12_bound) (v := 0) dX12_bound_97 98 rfl (by decide) ?_
                        refine iv_iald (M := mX12_bound) (X := 0) (l1 := 0) (l2 := 1000000000) dX12_bound_98 (tl163 hT) (by decide) (by omega) (by omega) I105 (fun _ => rfl) 99 rfl (fun v117 ev117 pv117 qv117 => ?_)
                        have k99 : v117.toInt = (m103 163 0).toInt := congrArg Int32.toInt ev117
                        refine pv_goto (M := mX12_bound) (tgt := 103) dX12_bound_99 (by decide) ?_
                        refine pv_istore_n (M := mX12_bound) 2 (lo2 := [.ref 123, .int x0, .int v117, .int y25, .int y45]) dX12_bound_103 104 rfl rfl (by decide) rfl rfl ?_
                        refine iv_inc (M := mX12_bound) (C := 1) dX12_bound_104 107 rfl rfl (by decide) rfl rfl (by decide) (by omega) (by omega) (fun v119 ev119 => ?_)
                        show PV _ _ _ _ _ _ _ 107 [.ref 123, .int x0, .int v117, .int y25, .int v119] [] _
                        refine pv_goto (M := mX12_bound) (tgt := 37) dX12_bound_107 (by decide) ?_
                        have kb37 : CHI m103 x0 8 := by first | exact kC2 | exact kg37
                        have kbm37 : BMP (SHR m) x0 v117.toInt y25.toInt v119.toInt := by first | exact BMP_hit kgm37 (by omega) (by omega) (by omega) (by omega) (by omega) kSR (by omega) (by omega) | exact BMP_skip kgm37 (by omega) (by omega)
                        exact ih52 v117 v119 m103 n104 (by first | omega | assumption | exact (iv_rng _).2 | exact (iv_rng _).1 | decide) (by first | omega | assumption | exact (iv_rng _).2 | exact (iv_rng _).1 | decide) (by first | omega | assumption | exact (iv_rng _).2 | exact (iv_rng _).1 | decide) (by first | omega | assumption | exact (iv_rng _).2 | exact (iv_rng _).1 | decide) kb37 (by first | omega | assumption | (show y25.toInt < v119.toInt; omega) | decide) kbm37 I105 K106 NK106 (by omega)
                    · have c80 := iv_eq (X := v78.toInt) (Y := 0) c80 rfl (by decide)
                      refine pv_goto (M := mX12_bound) (tgt := 104) dX12_bound_61 (by decide) ?_
                      refine iv_inc (M := mX12_bound) (C := 1) dX12_bound_104 107 rfl rfl (by decide) rfl rfl (by decide) (by omega) (by omega) (fun v122 ev122 => ?_)
                      show PV _ _ _ _ _ _ _ 107 [.ref 123, .int x0, .int y44, .int y25, .int v122] [] _
                      refine pv_goto (M := mX12_bound) (tgt := 37) dX12_bound_107 (by decide) ?_
                      have kb37 : CHI m46 x0 8 := by first | exact kC2 | exact kg37
                      have kbm37 : BMP (SHR m) x0 y44.toInt y25.toInt v122.toInt := by first | exact BMP_hit kgm37 (by omega) (by omega) (by omega) (by omega) (by omega) kSR (by omega) (by omega) | exact BMP_skip kgm37 (by omega) (by omega)
                      exact ih52 y44 v122 m46 n47 (by first | omega | assumption | exact (iv_rng _).2 | exact (iv_rng _).1 | decide) (by first | omega | assumption | exact (iv_rng _).2 | exact (iv_rng _).1 | decide) (by first | omega | assumption | exact (iv_rng _).2 | exact (iv_rng _).1 | decide) (by first | omega | assumption | exact (iv_rng _).2 | exact (iv_rng _).1 | decide) kb37 (by first | omega | assumption | (show y25.toInt < v122.toInt; omega) | decide) kbm37 I48 K49 NK49 (by omega)
            exact lp51 (((8 - v43.toInt) : Int).toNat + 1) y24 v43 m26 n27 (by first | omega | assumption | exact (iv_rng _).2 | exact (iv_rng _).1 | decide) (by first | omega | assumption | exact (iv_rng _).2 | exact (iv_rng _).1 | decide) (by first | omega | assumption | exact (iv_rng _).2 | exact (iv_rng _).1 | decide) (by first | omega | assumption | exact (iv_rng _).2 | exact (iv_rng _).1 | decide) kg26 (by first | omega | assumption | (show y25.toInt < v43.toInt; omega) | decide) (BMP_in kgm26 (by omega)) I28 K29 NK29 (by omega)
      have z125 : (0 : Int32).toInt = 0 := by decide
      have z126 : (0 : Int32).toInt = 0 := by decide
      exact lp31 (((8 - 0) : Int).toNat + 1) 0 0 m4 n5 (by first | omega | assumption | exact (iv_rng _).2 | exact (iv_rng _).1 | decide) (by first | omega | assumption | exact (iv_rng _).2 | exact (iv_rng _).1 | decide) (by first | omega | assumption | exact (iv_rng _).2 | exact (iv_rng _).1 | decide) (by first | omega | assumption | exact (iv_rng _).2 | exact (iv_rng _).1 | decide) kC0 (by rw [Int32.toInt_zero]; exact BMP_0) I6 K7 NK7 (by omega)
    · have c17 := iv_ne (X := v15.toInt) (Y := 0) c17 rfl (by decide)
      refine pv_bipush (M := mX12_bound) (v := (-2)) dX12_bound_19 21 rfl (by decide) ?_
      have z127 : ((-2) : Int32).toInt = (-2) := by decide
      exact pv_iret (M := mX12_bound) dX12_bound_21 rfl rfl ⟨_, _, _, rfl, rfl, I6, K7, by decide, by decide, ⟨NK7, (Or.inr (Or.inl ⟨kSP, fun z => z (by obtain ⟨q, hq, h12⟩ := (k16.resolve_right (fun q => by omega)).2; rw [CHL_LO kCL] at h12; unfold nmr at h12; cases hz : (mbs x0 8)[q]? with | none => (rw [hz] at h12; exact absurd h12 (show ¬ (12 : Int) < 0 by decide)) | some k => (rw [hz] at h12; exact ⟨k, List.mem_of_getElem? hz, by rw [← K7 126 k rfl]; exact h12⟩)), by decide⟩))⟩⟩
  · have c10 := iv_eq (X := v8.toInt) (Y := 0) c10 rfl (by decide)
    refine pv_iconst (M := mX12_bound) (v := (-1)) dX12_bound_10 11 rfl (by decide) ?_
    have z128 : ((-1) : Int32).toInt = (-1) := by decide
    exact pv_iret (M := mX12_bound) dX12_bound_11 rfl rfl ⟨_, _, _, rfl, rfl, I6, K7, by decide, by decide, ⟨NK7, (Or.inl ⟨(k7.resolve_right (fun q => by omega)).2.1, by decide⟩)⟩⟩
