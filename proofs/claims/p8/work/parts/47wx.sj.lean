set_option maxHeartbeats 2000000 in
set_option maxRecDepth 20000 in
theorem s_X11_left_va (g : pv_G) {T : List mv_T} {m : Nat → Nat → Int32} {n : Nat → Nat → Int64} {r : Nat → Value} {la lb : Nat} (hT : TX T) (I : IV BB m) (R : RX T r la lb) (x0 : Int32) (x1 : Int32) (x2 : Int32) : PM g mX11_left yX11_left (sqP (mk T m n r) (-2147483648) 2147483647 (fun v => LFT ((0 ≤ x0.toInt ∧ x0.toInt < (m 0 2).toInt) ∧ 0 ≤ x1.toInt ∧ x1.toInt < (m (4 + 7 * x0.toInt.toNat + 3) 1).toInt) x2 (m (4 + 7 * x0.toInt.toNat + 4) x1.toInt.toNat) (m (4 + 7 * x0.toInt.toNat + 5) x1.toInt.toNat) v)) 3 0 0 [.ref 0, .int x0, .int x1, .int x2] (mk T m n r) := by
  have Kp : fr (wl []) m m := fr.rf
  have R0 := R
  have zR := R.2.2.2.2.1.1
  have zR2 := R.2.2.2.2.2.1
  refine PM.of 0 (lo := [.ref 0, .int x0, .int x1, .int x2]) rfl (by decide) rfl rfl (Nat.le_of_ble_eq_true rfl) ?_
  refine pv_aload_n (M := mX11_left) 0 dX11_left_0 1 rfl rfl rfl ?_
  refine pv_iload_n (M := mX11_left) 1 dX11_left_1 2 rfl rfl rfl ?_
  refine pv_iload_n (M := mX11_left) 2 dX11_left_2 3 rfl rfl rfl ?_
  refine pv_callv (M := mX11_left) (as := [.int x0, .int x1]) (st := []) (kc2 := 0) (ks2 := 0) dX11_left_3 wd696 YX11_isPlace ⟨wd698, wd15⟩ (mk_get (tl0 hT)) rfl rfl (s_X11_isPlace_va g hT I R x0 x1) rfl rfl (Nat.le_of_ble_eq_true rfl) (by decide) rfl rfl 6 rfl (fun rv h1 q1 => ?_)
  obtain ⟨v2, rfl, rfl, pv2, qv2, rv2⟩ := q1
  replace rv2 : (v2 = 0 ∨ ((0 ≤ x0.toInt ∧ x0.toInt ≤ 7) ∧ (0 ≤ x1.toInt ∧ x1.toInt ≤ 39))) ∧ ((v2.toInt = 1 ∧ ((0 ≤ x0.toInt ∧ x0.toInt < (m 0 2).toInt) ∧ 0 ≤ x1.toInt ∧ x1.toInt < (m (4 + 7 * x0.toInt.toNat + 3) 1).toInt)) ∨ (v2.toInt = 0 ∧ ¬ ((0 ≤ x0.toInt ∧ x0.toInt < (m 0 2).toInt) ∧ 0 ≤ x1.toInt ∧ x1.toInt < (m (4 + 7 * x0.toInt.toNat + 3) 1).toInt))) := rv2
  show PV _ _ _ _ _ _ _ 6 [.ref 0, .int x0, .int x1, .int x2] [.int v2] _
  have k6 := rv2.2
  refine pv_if_ne (M := mX11_left) (tgt := 11) dX11_left_6 9 rfl (by decide) (fun c4 => ?_) (fun c4 => ?_)
  · have pc4 := rv2.1.resolve_left c4
    have c4 := iv_ne (X := v2.toInt) (Y := 0) c4 rfl (by decide)
    refine pv_iload_n (M := mX11_left) 3 dX11_left_11 12 rfl rfl rfl ?_
    refine pv_if_ne (M := mX11_left) (tgt := 29) dX11_left_12 15 rfl (by decide) (fun c5 => ?_) (fun c5 => ?_)
    · have c5 := iv_ne (X := x2.toInt) (Y := 0) c5 rfl (by decide)
      refine pv_iload_n (M := mX11_left) 3 dX11_left_29 30 rfl rfl rfl ?_
      refine pv_iconst (M := mX11_left) (v := 1) dX11_left_30 31 rfl (by decide) ?_
      refine pv_icmp_ne (M := mX11_left) (tgt := 47) dX11_left_31 34 rfl (by decide) (fun c6 => ?_) (fun c6 => ?_)
      · have c6 := iv_ne (X := x2.toInt) (Y := 1) c6 rfl (by decide)
        refine pv_iconst (M := mX11_left) (v := (-1)) dX11_left_47 48 rfl (by decide) ?_
        have z7 : ((-1) : Int32).toInt = (-1) := by decide
        exact pv_iret (M := mX11_left) dX11_left_48 rfl rfl ⟨_, rfl, rfl, by decide, by decide, (by (try dsimp only); first | exact Or.inr (Or.inr (Or.inl ⟨by omega, by omega, (k44.resolve_right (fun q => by have q1 := q.1; omega)).2.2⟩)) | exact Or.inr (Or.inr (Or.inr ⟨by omega, by omega, by omega, by decide⟩)))⟩
      · have c6 := iv_eq (X := x2.toInt) (Y := 1) c6 rfl (by decide)
        refine pv_aload_n (M := mX11_left) 0 dX11_left_34 35 rfl rfl rfl ?_
        refine mv_get (M := mX11_left) (v := .ref 3) dX11_left_35 FX11 1 wd408 (by decide) (tl0 hT) rfl rfl 38 rfl ?_
        refine pv_iload_n (M := mX11_left) 1 dX11_left_38 39 rfl rfl rfl ?_
        refine iv_qblank (M := mX11_left) (X := x0.toInt) dX11_left_39 hT R rfl (by omega) (by omega) 40 rfl (fun b8 eb8 hb8 => ?_)
        have zb8 := hb8.2.2.2.2.2.2.2
        refine pv_iload_n (M := mX11_left) 2 dX11_left_40 41 rfl rfl rfl ?_
        have k41 : b8 = 4 + 7 * x0.toInt.toNat := by omega
        refine pv_callv (M := mX11_left) (as := [.int x1]) (st := []) (kc2 := 0) (ks2 := 0) dX11_left_41 wd708 YX0_ownAt ⟨wd709, wd710⟩ (mk_get hb8.1) rfl rfl (s_X0_ownAt_vz g hT I b8 hb8 x1) rfl rfl (Nat.le_of_ble_eq_true rfl) (by decide) rfl rfl 44 rfl (fun rv h1 q10 => ?_)
        obtain ⟨v11, rfl, rfl, pv11, qv11, rv11⟩ := q10
        replace rv11 : (0 ≤ x1.toInt ∧ x1.toInt < (m (b8 + 3) 1).toInt ∧ v11 = m (b8 + 5) x1.toInt.toNat) ∨ ((x1.toInt < 0 ∨ (m (b8 + 3) 1).toInt ≤ x1.toInt) ∧ v11.toInt = -1) := rv11
        show PV _ _ _ _ _ _ _ 44 [.ref 0, .int x0, .int x1, .int x2] [.int v11] _
        have k44 := rv11
        rw [k41] at k44
        refine pv_goto (M := mX11_left) (tgt := 48) dX11_left_44 (by decide) ?_
        exact pv_iret (M := mX11_left) dX11_left_48 rfl rfl ⟨_, rfl, rfl, (iv_rng v11).1, (iv_rng v11).2, (by (try dsimp only); first | exact Or.inr (Or.inr (Or.inl ⟨by omega, by omega, (k44.resolve_right (fun q => by have q1 := q.1; omega)).2.2⟩)) | exact Or.inr (Or.inr (Or.inr ⟨by omega, by omega, by omega, by decide⟩)))⟩
    · have c5 := iv_eq (X := x2.toInt) (Y := 0) c5 rfl (by decide)
      refine pv_aload_n (M := mX11_left) 0 dX11_left_15 16 rfl rfl rfl ?_
      refine mv_get (M := mX11_left) (v := .ref 3) dX11_left_16 FX11 1 wd408 (by decide) (tl0 hT) rfl rfl 19 rfl ?_
      refine pv_iload_n (M := mX11_left) 1 dX11_left_19 20 rfl rfl rfl ?_
      refine iv_qblank (M := mX11_left) (X := x0.toInt) dX11_left_20 hT R rfl (by omega) (by omega) 21 rfl (fun b14 eb14 hb14 => ?_)
      have zb14 := hb14.2.2.2.2.2.2.2
      refine mv_get (M := mX11_left) (v := .ref (b14 + 3)) dX11_left_21 FX0 1 wd210 (by decide) hb14.1 rfl rfl 24 rfl ?_
      refine pv_iload_n (M := mX11_left) 2 dX11_left_24 25 rfl rfl rfl ?_
      have k25 : (b14 + 3) = 4 + 7 * x0.toInt.toNat + 3 := by omega
      refine pv_callv (M := mX11_left) (as := [.int x1]) (st := []) (kc2 := 0) (ks2 := 0) dX11_left_25 wd704 YX8_at ⟨wd705, wd706⟩ (mk_get hb14.2.2.1.1) rfl rfl (s_X8_at_vz g hT I (b14 + 3) 40 hb14.2.2.1 x1) rfl rfl (Nat.le_of_ble_eq_true rfl) (by decide) rfl rfl 28 rfl (fun rv h1 q16 => ?_)
      obtain ⟨v17, rfl, rfl, pv17, qv17, rv17⟩ := q16
      replace rv17 : (0 ≤ x1.toInt ∧ x1.toInt < (m (b14 + 3) 1).toInt ∧ v17 = m ((b14 + 3) + 1) x1.toInt.toNat) ∨ ((x1.toInt < 0 ∨ (m (b14 + 3) 1).toInt ≤ x1.toInt) ∧ v17.toInt = -1) := rv17
      show PV _ _ _ _ _ _ _ 28 [.ref 0, .int x0, .int x1, .int x2] [.int v17] _
      have k28 := rv17
      rw [k25] at k28
      exact pv_iret (M := mX11_left) dX11_left_28 rfl rfl ⟨_, rfl, rfl, (iv_rng v17).1, (iv_rng v17).2, (Or.inr (Or.inl ⟨by omega, by omega, (k28.resolve_right (fun q => by have q1 := q.1; omega)).2.2⟩))⟩
  · have c4 := iv_eq (X := v2.toInt) (Y := 0) c4 rfl (by decide)
    refine pv_iconst (M := mX11_left) (v := (-1)) dX11_left_9 10 rfl (by decide) ?_
    have z20 : ((-1) : Int32).toInt = (-1) := by decide
    exact pv_iret (M := mX11_left) dX11_left_10 rfl rfl ⟨_, rfl, rfl, by decide, by decide, (Or.inl ⟨by omega, by decide⟩)⟩

set_option maxHeartbeats 2000000 in
set_option maxRecDepth 20000 in
theorem s_X12_left_va (g : pv_G) {T : List mv_T} {m : Nat → Nat → Int32} {n : Nat → Nat → Int64} {r : Nat → Value} (hT : TX T) (I : IV BB m) (x0 : Int32) (x1 : Int32) (x2 : Int32) : PM g mX12_left yX12_left (sqP (mk T m n r) (-2147483648) 2147483647 (fun v => LFR ((0 ≤ x0.toInt ∧ x0.toInt < (m 123 0).toInt) ∧ (0 ≤ x1.toInt ∧ x1.toInt < nu m x0.toInt 0) ∧ 0 ≤ x2.toInt ∧ x2.toInt ≤ 1) m x0.toInt.toNat x1.toInt.toNat x2 v)) 2 0 0 [.ref 123, .int x0, .int x1, .int x2] (mk T m n r) := by
  have Kp : fr (wl []) m m := fr.rf
  have z28 : 0 ≤ (m 123 0).toInt ∧ (m 123 0).toInt ≤ 8 := I 123 0
  refine PM.of 1 (lo := [.ref 123, .int x0, .int x1, .int x2, pv_U]) rfl (by decide) rfl rfl (Nat.le_of_ble_eq_true rfl) ?_
  refine pv_aload_n (M := mX12_left) 0 dX12_left_0 1 rfl rfl rfl ?_
  refine pv_iload_n (M := mX12_left) 1 dX12_left_1 2 rfl rfl rfl ?_
  refine pv_callv (M := mX12_left) (as := [.int x0]) (st := []) (kc2 := 0) (ks2 := 0) dX12_left_2 wd1389 YX12_isBlank ⟨wd1391, wd55⟩ (mk_get (tl123 hT)) rfl rfl (s_X12_isBlank_vx g hT I x0) rfl rfl (Nat.le_of_ble_eq_true rfl) (by decide) rfl rfl 5 rfl (fun rv h1 q1 => ?_)
  obtain ⟨v2, rfl, rfl, pv2, qv2, rv2⟩ := q1
  replace rv2 : (v2 = 0 ∨ (0 ≤ x0.toInt ∧ x0.toInt ≤ 7)) ∧ ((v2.toInt = 1 ∧ 0 ≤ x0.toInt ∧ x0.toInt < (m 123 0).toInt) ∨ (v2.toInt = 0 ∧ (x0.toInt < 0 ∨ (m 123 0).toInt ≤ x0.toInt))) := rv2
  show PV _ _ _ _ _ _ _ 5 [.ref 123, .int x0, .int x1, .int x2, pv_U] [.int v2] _
  have k5 := rv2.2
  refine pv_if_eq (M := mX12_left) (tgt := 30) dX12_left_5 8 rfl (by decide) (fun c4 => ?_) (fun c4 => ?_)
  · have c4 := iv_eq (X := v2.toInt) (Y := 0) c4 rfl (by decide)
    refine pv_iconst (M := mX12_left) (v := (-1)) dX12_left_30 31 rfl (by decide) ?_
    have z5 : ((-1) : Int32).toInt = (-1) := by decide
    exact pv_iret (M := mX12_left) dX12_left_31 rfl rfl ⟨_, rfl, rfl, by decide, by decide, (Or.inl ⟨by omega, by decide⟩)⟩
  · have pc4 := rv2.1.resolve_left c4
    have c4 := iv_ne (X := v2.toInt) (Y := 0) c4 rfl (by decide)
    refine pv_iload_n (M := mX12_left) 2 dX12_left_8 9 rfl rfl rfl ?_
    refine pv_if_lt (M := mX12_left) (tgt := 30) dX12_left_9 12 rfl (by decide) (fun c6 => ?_) (fun c6 => ?_)
    · have c6 := iv_lt (X := x1.toInt) (Y := 0) c6 rfl (by decide)
      refine pv_iconst (M := mX12_left) (v := (-1)) dX12_left_30 31 rfl (by decide) ?_
      have z7 : ((-1) : Int32).toInt = (-1) := by decide
      exact pv_iret (M := mX12_left) dX12_left_31 rfl rfl ⟨_, rfl, rfl, by decide, by decide, (Or.inl ⟨by omega, by decide⟩)⟩
    · have c6 := iv_nlt (X := x1.toInt) (Y := 0) c6 rfl (by decide)
      refine pv_iload_n (M := mX12_left) 2 dX12_left_12 13 rfl rfl rfl ?_
      refine pv_aload_n (M := mX12_left) 0 dX12_left_13 14 rfl rfl rfl ?_
      refine pv_iload_n (M := mX12_left) 1 dX12_left_14 15 rfl rfl rfl ?_
      refine pv_callv (M := mX12_left) (as := [.int x0]) (st := [.int x1]) (kc2 := 0) (ks2 := 0) dX12_left_15 wd1393 YX12_leftMany ⟨wd1395, wd56⟩ (mk_get (tl123 hT)) rfl rfl (s_X12_leftMany g hT I x0 (by omega) (by omega)) rfl rfl (Nat.le_of_ble_eq_true rfl) (by decide) rfl rfl 18 rfl (fun rv h1 q8 => ?_)
      obtain ⟨v9, rfl, rfl, pv9, qv9, rv9⟩ := q8
      replace rv9 : v9.toInt = nu m x0.toInt 0 := rv9
      show PV _ _ _ _ _ _ _ 18 [.ref 123, .int x0, .int x1, .int x2, pv_U] [.int v9, .int x1] _
      have k18 : v9.toInt = nu m x0.toInt 0 := rv9
      refine pv_icmp_ge (M := mX12_left) (tgt := 30) dX12_left_18 21 rfl (by decide) (fun c11 => ?_) (fun c11 => ?_)
      · have c11 := iv_le (X := v9.toInt) (Y := x1.toInt) c11 rfl rfl
        refine pv_iconst (M := mX12_left) (v := (-1)) dX12_left_30 31 rfl (by decide) ?_
        have z12 : ((-1) : Int32).toInt = (-1) := by decide
        exact pv_iret (M := mX12_left) dX12_left_31 rfl rfl ⟨_, rfl, rfl, by decide, by decide, (Or.inl ⟨by omega, by decide⟩)⟩
      · have c11 := iv_nle (X := v9.toInt) (Y := x1.toInt) c11 rfl rfl
        refine pv_iload_n (M := mX12_left) 3 dX12_left_21 22 rfl rfl rfl ?_
        refine pv_iconst (M := mX12_left) (v := 0) dX12_left_22 23 rfl (by decide) ?_
        refine pv_iconst (M := mX12_left) (v := 1) dX12_left_23 24 rfl (by decide) ?_
        have z13 : (0 : Int32).toInt = 0 := by decide
        have z14 : (1 : Int32).toInt = 1 := by decide
        refine pv_calls (M := mX12_left) (as := [.int x2, .int 0, .int 1]) (st := []) (kc2 := 0) (ks2 := 0) dX12_left_24 wd1370 YX12_in wd1371 (s_X12_in_vx g hT I x2 0 1) rfl rfl (Nat.le_of_ble_eq_true rfl) (by decide) rfl rfl 27 rfl (fun rv h1 q15 => ?_)
        obtain ⟨v16, rfl, rfl, pv16, qv16, rv16⟩ := q15
        replace rv16 : (v16 = 0 ∨ ((0 : Int) ≤ x2.toInt ∧ x2.toInt ≤ (1 : Int))) ∧ ((v16.toInt = 1 ∧ (0 : Int) ≤ x2.toInt ∧ x2.toInt ≤ (1 : Int)) ∨ (v16.toInt = 0 ∧ (x2.toInt < (0 : Int) ∨ (1 : Int) < x2.toInt))) := by have q_ := rv16; (try rw [z13] at q_); (try rw [z14] at q_); exact q_
        show PV _ _ _ _ _ _ _ 27 [.ref 123, .int x0, .int x1, .int x2, pv_U] [.int v16] _
        have k27 := rv16.2
        refine pv_if_ne (M := mX12_left) (tgt := 32) dX12_left_27 30 rfl (by decide) (fun c18 => ?_) (fun c18 => ?_)
        · have pc18 := rv16.1.resolve_left c18
          have c18 := iv_ne (X := v16.toInt) (Y := 0) c18 rfl (by decide)
          refine pv_aload_n (M := mX12_left) 0 dX12_left_32 33 rfl rfl rfl ?_
          refine pv_iload_n (M := mX12_left) 1 dX12_left_33 34 rfl rfl rfl ?_
          refine pv_iload_n (M := mX12_left) 2 dX12_left_34 35 rfl rfl rfl ?_
          refine pv_callv (M := mX12_left) (as := [.int x0, .int x1]) (st := []) (kc2 := 0) (ks2 := 0) dX12_left_35 wd1397 YX12_numberAt ⟨wd1399, wd57⟩ (mk_get (tl123 hT)) rfl rfl (s_X12_numberAt_vz g hT I x0 (by omega) (by omega) x1 (by omega) (by omega) (by first | omega | assumption | exact (iv_rng _).2 | exact (iv_rng _).1 | decide)) rfl rfl (Nat.le_of_ble_eq_true rfl) (by decide) rfl rfl 38 rfl (fun rv h1 q19 => ?_)
          obtain ⟨v20, rfl, rfl, pv20, qv20, rv20⟩ := q19
          replace rv20 : (v20.toInt < (m 124 x0.toInt.toNat).toInt ∧ (m 128 (40 * x0.toInt + v20.toInt).toNat).toInt = 0) ∧ IsN (m 128) (40 * x0.toInt.toNat) (m 124 x0.toInt.toNat).toInt.toNat x1.toInt.toNat v20.toInt.toNat := rv20
          show PV _ _ _ _ _ _ _ 38 [.ref 123, .int x0, .int x1, .int x2, pv_U] [.int v20] _
          have k38 := rv20.2
          refine pv_istore (M := mX12_left) (lo2 := [.ref 123, .int x0, .int x1, .int x2, .int v20]) dX12_left_38 40 rfl (by decide) rfl rfl ?_
          refine pv_iload_n (M := mX12_left) 3 dX12_left_40 41 rfl rfl rfl ?_
          refine pv_if_ne (M := mX12_left) (tgt := 59) dX12_left_41 44 rfl (by decide) (fun c22 => ?_) (fun c22 => ?_)
          · have c22 := iv_ne (X := x2.toInt) (Y := 0) c22 rfl (by decide)
            refine pv_iload (M := mX12_left) dX12_left_59 61 rfl rfl ?_
            exact pv_iret (M := mX12_left) dX12_left_61 rfl rfl ⟨_, rfl, rfl, (iv_rng v20).1, (iv_rng v20).2, (Or.inr ⟨by omega, v20.toInt.toNat, k38, by first | exact Or.inl ⟨by omega, k56⟩ | exact Or.inr ⟨by omega, by omega⟩⟩)⟩
          · have c22 := iv_eq (X := x2.toInt) (Y := 0) c22 rfl (by decide)
            refine pv_aload_n (M := mX12_left) 0 dX12_left_44 45 rfl rfl rfl ?_
            refine mv_get (M := mX12_left) (v := .ref 125) dX12_left_45 FX12 6 wd1179 (by decide) (tl123 hT) rfl rfl 48 rfl ?_
            refine pv_bipush (M := mX12_left) (v := 40) dX12_left_48 50 rfl (by decide) ?_
            refine pv_iload_n (M := mX12_left) 1 dX12_left_50 51 rfl rfl rfl ?_
            refine iv_imul (M := mX12_left) (X := 40) (Y := x0.toInt) dX12_left_51 52 rfl (by decide) rfl (by omega) (by omega) (fun v23 ev23 => ?_)
            refine pv_iload (M := mX12_left) dX12_left_52 54 rfl rfl ?_
            refine iv_iadd (M := mX12_left) (X := v23.toInt) (Y := v20.toInt) dX12_left_54 55 rfl rfl rfl (by omega) (by omega) (fun v24 ev24 => ?_)
            refine iv_iald (M := mX12_left) (X := v24.toInt) (l1 := 0) (l2 := 25) dX12_left_55 (tl125 hT) rfl (by omega) (by omega) I (fun _ => rfl) 56 rfl (fun v25 ev25 pv25 qv25 => ?_)
            have k56 : v25 = m 125 (40 * x0.toInt.toNat + v20.toInt.toNat) := ev25.trans (congrArg (m 125) (by omega))
            refine pv_goto (M := mX12_left) (tgt := 61) dX12_left_56 (by decide) ?_
            exact pv_iret (M := mX12_left) dX12_left_61 rfl rfl ⟨_, rfl, rfl, (iv_rng v25).1, (iv_rng v25).2, (Or.inr ⟨by omega, v20.toInt.toNat, k38, by first | exact Or.inl ⟨by omega, k56⟩ | exact Or.inr ⟨by omega, by omega⟩⟩)⟩
        · have c18 := iv_eq (X := v16.toInt) (Y := 0) c18 rfl (by decide)
          refine pv_iconst (M := mX12_left) (v := (-1)) dX12_left_30 31 rfl (by decide) ?_
          have z27 : ((-1) : Int32).toInt = (-1) := by decide
          exact pv_iret (M := mX12_left) dX12_left_31 rfl rfl ⟨_, rfl, rfl, by decide, by decide, (Or.inl ⟨by omega, by decide⟩)⟩

set_option maxHeartbeats 2000000 in
set_option maxRecDepth 20000 in
theorem s_X11_may_va (g : pv_G) {T : List mv_T} {m : Nat → Nat → Int32} {n : Nat → Nat → Int64} {r : Nat → Value} {la lb : Nat} (hT : TX T) (I : IV BB m) (R : RX T r la lb) (x0 : Int32) (x1 : Int32) (x2 : Int32) (x3 : Int32) (t : Int → Int) (hp0 : RSA m) (hp1 : LAWc m la t (m la 7).toInt.toNat) : PM g mX11_may yX11_may (sqI T BB wN r m (-2147483648) 2147483647 (fun m' v => MAY ((0 ≤ x0.toInt ∧ x0.toInt < (m 0 2).toInt) ∧ (0 ≤ x1.toInt ∧ x1.toInt < (m (4 + 7 * x0.toInt.toNat + 3) 1).toInt) ∧ (0 ≤ x2.toInt ∧ x2.toInt ≤ 7) ∧ 0 ≤ x3.toInt ∧ x3.toInt ≤ 1) x3 (FFc m la t x0.toInt.toNat x1.toInt.toNat x2.toInt) (FBc m la t x0.toInt.toNat x1.toInt.toNat x2.toInt) (fun v => PRc m la t x0.toInt.toNat x1.toInt.toNat x2.toInt v) v)) 7 0 0 [.ref 0, .int x0, .int x1, .int x2, .int x3] (mk T m n r) := by
  have Kp : fr wN m m := fr.rf
  have R0 := R
  have zR := R.2.2.2.2.1.1
  have zR2 := R.2.2.2.2.2.1
  refine PM.of 0 (lo := [.ref 0, .int x0, .int x1, .int x2, .int x3]) rfl (by decide) rfl rfl (Nat.le_of_ble_eq_true rfl) ?_
  refine pv_aload_n (M := mX11_may) 0 dX11_may_0 1 rfl rfl rfl ?_
  refine pv_iload_n (M := mX11_may) 1 dX11_may_1 2 rfl rfl rfl ?_
  refine pv_iload_n (M := mX11_may) 2 dX11_may_2 3 rfl rfl rfl ?_
  refine pv_callv (M := mX11_may) (as := [.int x0, .int x1]) (st := []) (kc2 := 0) (ks2 := 0) dX11_may_3 wd696 YX11_isPlace ⟨wd698, wd15⟩ (mk_get (tl0 hT)) rfl rfl (s_X11_isPlace_va g hT I R x0 x1) rfl rfl (Nat.le_of_ble_eq_true rfl) (by decide) rfl rfl 6 rfl (fun rv h1 q1 => ?_)
  obtain ⟨v2, rfl, rfl, pv2, qv2, rv2⟩ := q1
  replace rv2 : (v2 = 0 ∨ ((0 ≤ x0.toInt ∧ x0.toInt ≤ 7) ∧ (0 ≤ x1.toInt ∧ x1.toInt ≤ 39))) ∧ ((v2.toInt = 1 ∧ ((0 ≤ x0.toInt ∧ x0.toInt < (m 0 2).toInt) ∧ 0 ≤ x1.toInt ∧ x1.toInt < (m (4 + 7 * x0.toInt.toNat + 3) 1).toInt)) ∨ (v2.toInt = 0 ∧ ¬ ((0 ≤ x0.toInt ∧ x0.toInt < (m 0 2).toInt) ∧ 0 ≤ x1.toInt ∧ x1.toInt < (m (4 + 7 * x0.toInt.toNat + 3) 1).toInt))) := rv2
  show PV _ _ _ _ _ _ _ 6 [.ref 0, .int x0, .int x1, .int x2, .int x3] [.int v2] _
  have k6 := rv2.2
  refine pv_if_eq (M := mX11_may) (tgt := 27) dX11_may_6 9 rfl (by decide) (fun c4 => ?_) (fun c4 => ?_)
  · have c4 := iv_eq (X := v2.toInt) (Y := 0) c4 rfl (by decide)
    refine pv_iconst (M := mX11_may) (v := (-1)) dX11_may_27 28 rfl (by decide) ?_
    have z5 : ((-1) : Int32).toInt = (-1) := by decide
    exact pv_iret (M := mX11_may) dX11_may_28 rfl rfl ⟨_, _, _, rfl, rfl, I, Kp, by decide, by decide, (Or.inl ⟨by omega, by decide⟩)⟩
  · have pc4 := rv2.1.resolve_left c4
    have c4 := iv_ne (X := v2.toInt) (Y := 0) c4 rfl (by decide)
    refine pv_iload_n (M := mX11_may) 3 dX11_may_9 10 rfl rfl rfl ?_
    refine pv_calls (M := mX11_may) (as := [.int x2]) (st := []) (kc2 := 0) (ks2 := 0) dX11_may_10 wd716 YX11_isClerk wd717 (s_X11_isClerk_va g hT I x2) rfl rfl (Nat.le_of_ble_eq_true rfl) (by decide) rfl rfl 13 rfl (fun rv h1 q6 => ?_)
    obtain ⟨v7, rfl, rfl, pv7, qv7, rv7⟩ := q6
    replace rv7 : (v7 = 0 ∨ (0 ≤ x2.toInt ∧ x2.toInt ≤ 7)) ∧ ((v7.toInt = 1 ∧ 0 ≤ x2.toInt ∧ x2.toInt ≤ 7) ∨ (v7.toInt = 0 ∧ (x2.toInt < 0 ∨ 7 < x2.toInt))) := rv7
    show PV _ _ _ _ _ _ _ 13 [.ref 0, .int x0, .int x1, .int x2, .int x3] [.int v7] _
    have k13 := rv7.2
    refine pv_if_eq (M := mX11_may) (tgt := 27) dX11_may_13 16 rfl (by decide) (fun c9 => ?_) (fun c9 => ?_)
    · have c9 := iv_eq (X := v7.toInt) (Y := 0) c9 rfl (by decide)
      refine pv_iconst (M := mX11_may) (v := (-1)) dX11_may_27 28 rfl (by decide) ?_
      have z10 : ((-1) : Int32).toInt = (-1) := by decide
      exact pv_iret (M := mX11_may) dX11_may_28 rfl rfl ⟨_, _, _, rfl, rfl, I, Kp, by decide, by decide, (Or.inl ⟨by omega, by decide⟩)⟩
    · have pc9 := rv7.1.resolve_left c9
      have c9 := iv_ne (X := v7.toInt) (Y := 0) c9 rfl (by decide)
      refine pv_iload (M := mX11_may) dX11_may_16 18 rfl rfl ?_
      refine pv_if_lt (M := mX11_may) (tgt := 27) dX11_may_18 21 rfl (by decide) (fun c11 => ?_) (fun c11 => ?_)
      · have c11 := iv_lt (X := x3.toInt) (Y := 0) c11 rfl (by decide)
        refine pv_iconst (M := mX11_may) (v := (-1)) dX11_may_27 28 rfl (by decide) ?_
        have z12 : ((-1) : Int32).toInt = (-1) := by decide
        exact pv_iret (M := mX11_may) dX11_may_28 rfl rfl ⟨_, _, _, rfl, rfl, I, Kp, by decide, by decide, (Or.inl ⟨by omega, by decide⟩)⟩
      · have c11 := iv_nlt (X := x3.toInt) (Y := 0) c11 rfl (by decide)
        refine pv_iload (M := mX11_may) dX11_may_21 23 rfl rfl ?_
        refine pv_iconst (M := mX11_may) (v := 1) dX11_may_23 24 rfl (by decide) ?_
        refine pv_icmp_le (M := mX11_may) (tgt := 29) dX11_may_24 27 rfl (by decide) (fun c13 => ?_) (fun c13 => ?_)
        · have c13 := iv_le (X := x3.toInt) (Y := 1) c13 rfl (by decide)
          refine pv_aload_n (M := mX11_may) 0 dX11_may_29 30 rfl rfl rfl ?_
          refine pv_iload_n (M := mX11_may) 1 dX11_may_30 31 rfl rfl rfl ?_
          refine pv_iload_n (M := mX11_may) 2 dX11_may_31 32 rfl rfl rfl ?_
          refine pv_iload_n (M := mX11_may) 2 dX11_may_32 33 rfl rfl rfl ?_
          refine pv_iconst (M := mX11_may) (v := 1) dX11_may_33 34 rfl (by decide) ?_
          refine iv_iadd (M := mX11_may) (X := x1.toInt) (Y := 1) dX11_may_34 35 rfl rfl (by decide) (by omega) (by omega) (fun v14 ev14 => ?_)
          refine pv_iload_n (M := mX11_may) 3 dX11_may_35 36 rfl rfl rfl ?_
          refine pv_callv (M := mX11_may) (as := [.int x0, .int x1, .int v14, .int x2]) (st := []) (kc2 := 0) (ks2 := 0) dX11_may_36 wd719 YX11_askLaw ⟨wd721, wd17⟩ (mk_get (tl0 hT)) rfl rfl (s_X11_askLaw_va g hT I R x0 (by omega) (by omega) x1 (by omega) (by omega) v14 (by omega) (by omega) x2 (by omega) (by omega) t (hp0 _ (by omega)) hp1 (by omega)) rfl rfl (Nat.le_of_ble_eq_true rfl) (by decide) rfl rfl 39 rfl (fun rv h1 q15 => ?_)
          obtain ⟨m16, n17, rfl, rfl, I18, K19, rm16⟩ := q15
          replace rm16 : ∀ p : Nat, x1.toInt ≤ (p : Int) → (p : Int) < v14.toInt → ASK m la t x0.toInt.toNat p x2.toInt (m16 108 p) (m16 109 p) := rm16
          have K19c := K19
          have K19 := Kp.trans (K19.sub (fun _ _ q => q))
          show PV _ _ _ _ _ _ _ 39 [.ref 0, .int x0, .int x1, .int x2, .int x3] [] _
          have k39 := rm16 x1.toInt.toNat (by omega) (by omega)
          refine pv_iload (M := mX11_may) dX11_may_39 41 rfl rfl ?_
          refine pv_if_ne (M := mX11_may) (tgt := 62) dX11_may_41 44 rfl (by decide) (fun c21 => ?_) (fun c21 => ?_)
          · have c21 := iv_ne (X := x3.toInt) (Y := 0) c21 rfl (by decide)
            refine pv_aload_n (M := mX11_may) 0 dX11_may_62 63 rfl rfl rfl ?_
            refine mv_get (M := mX11_may) (v := .ref 107) dX11_may_63 FX11 10 wd417 (by decide) (tl0 hT) rfl rfl 66 rfl ?_
            refine mv_get (M := mX11_may) (v := .ref 109) dX11_may_66 FX2 1 wd349 (by decide) (tl107 hT) rfl rfl 69 rfl ?_
            refine pv_iload_n (M := mX11_may) 2 dX11_may_69 70 rfl rfl rfl ?_
            refine iv_iald (M := mX11_may) (X := x1.toInt) (l1 := (-2147483648)) (l2 := 2147483647) dX11_may_70 (tl109 hT) rfl (by omega) (by omega) I18 (fun _ => rfl) 71 rfl (fun v22 ev22 pv22 qv22 => ?_)
            have k71 : v22 = m16 109 x1.toInt.toNat := ev22
            exact pv_iret (M := mX11_may) dX11_may_71 rfl rfl ⟨_, _, _, rfl, rfl, I18, K19, (iv_rng v22).1, (iv_rng v22).2, (Or.inr (Or.inr ⟨by omega, by omega, by rw [k71]; exact k39.2⟩))⟩
          · have c21 := iv_eq (X := x3.toInt) (Y := 0) c21 rfl (by decide)
            refine pv_aload_n (M := mX11_may) 0 dX11_may_44 45 rfl rfl rfl ?_
            refine mv_get (M := mX11_may) (v := .ref 107) dX11_may_45 FX11 10 wd417 (by decide) (tl0 hT) rfl rfl 48 rfl ?_
            refine mv_get (M := mX11_may) (v := .ref 108) dX11_may_48 FX2 0 wd347 (by decide) (tl107 hT) rfl rfl 51 rfl ?_
            refine pv_iload_n (M := mX11_may) 2 dX11_may_51 52 rfl rfl rfl ?_
            refine iv_zald (M := mX11_may) (X := x1.toInt) (l1 := 0) (l2 := 1) dX11_may_52 (tl108 hT) rfl (by omega) (by omega) I18 (fun _ => rfl) 53 rfl (fun v24 ev24 pv24 qv24 => ?_)
            have k53 : v24 = m16 108 x1.toInt.toNat := ev24
            refine pv_if_eq (M := mX11_may) (tgt := 60) dX11_may_53 56 rfl (by decide) (fun c26 => ?_) (fun c26 => ?_)
            · have c26 := iv_eq (X := v24.toInt) (Y := 0) c26 rfl (by decide)
              refine pv_iconst (M := mX11_may) (v := 0) dX11_may_60 61 rfl (by decide) ?_
              have z27 : (0 : Int32).toInt = 0 := by decide
              exact pv_iret (M := mX11_may) dX11_may_61 rfl rfl ⟨_, _, _, rfl, rfl, I18, K19, by decide, by decide, (by (try dsimp only); first | exact Or.inr (Or.inl ⟨by omega, by omega, Or.inl ⟨by decide, (k39.1.resolve_right (fun q => by have q1 := q.1; rw [← k53] at q1; omega)).2⟩⟩) | exact Or.inr (Or.inl ⟨by omega, by omega, Or.inr ⟨by decide, (k39.1.resolve_left (fun q => by have q1 := q.1; rw [← k53] at q1; omega)).2⟩⟩))⟩
            · have c26 := iv_ne (X := v24.toInt) (Y := 0) c26 rfl (by decide)
              refine pv_iconst (M := mX11_may) (v := 1) dX11_may_56 57 rfl (by decide) ?_
              refine pv_goto (M := mX11_may) (tgt := 61) dX11_may_57 (by decide) ?_
              have z28 : (1 : Int32).toInt = 1 := by decide
              exact pv_iret (M := mX11_may) dX11_may_61 rfl rfl ⟨_, _, _, rfl, rfl, I18, K19, by decide, by decide, (by (try dsimp only); first | exact Or.inr (Or.inl ⟨by omega, by omega, Or.inl ⟨by decide, (k39.1.resolve_right (fun q => by have q1 := q.1; rw [← k53] at q1; omega)).2⟩⟩) | exact Or.inr (Or.inl ⟨by omega, by omega, Or.inr ⟨by decide, (k39.1.resolve_left (fun q => by have q1 := q.1; rw [← k53] at q1; omega)).2⟩⟩))⟩
        · have c13 := iv_nle (X := x3.toInt) (Y := 1) c13 rfl (by decide)
          refine pv_iconst (M := mX11_may) (v := (-1)) dX11_may_27 28 rfl (by decide) ?_
          have z29 : ((-1) : Int32).toInt = (-1) := by decide
          exact pv_iret (M := mX11_may) dX11_may_28 rfl rfl ⟨_, _, _, rfl, rfl, I, Kp, by decide, by decide, (Or.inl ⟨by omega, by decide⟩)⟩

set_option maxHeartbeats 2000000 in
set_option maxRecDepth 20000 in
theorem s_X12_may_va (g : pv_G) {T : List mv_T} {m : Nat → Nat → Int32} {n : Nat → Nat → Int64} {r : Nat → Value} (hT : TX T) (I : IV BB m) (x0 : Int32) (x1 : Int32) (x2 : Int32) (x3 : Int32) (t : Int → Int) (hp0 : LX m) (hp1 : LAWr m t (m 123 20).toInt.toNat) : PM g mX12_may yX12_may (sqI T BB (wl [(141, 141, none), (142, 142, none)]) r m (-2147483648) 2147483647 (fun m' v => MAY ((0 ≤ x0.toInt ∧ x0.toInt < (m 123 0).toInt) ∧ (0 ≤ x1.toInt ∧ x1.toInt < nu m x0.toInt 0) ∧ (0 ≤ x2.toInt ∧ x2.toInt ≤ 7) ∧ 0 ≤ x3.toInt ∧ x3.toInt ≤ 1) x3 (FFr m t x0.toInt.toNat x1.toInt.toNat x2.toInt) (FBr m t x0.toInt.toNat x1.toInt.toNat x2.toInt) (fun v => PRr m t x0.toInt.toNat x1.toInt.toNat x2.toInt v) v)) 4 0 0 [.ref 123, .int x0, .int x1, .int x2, .int x3] (mk T m n r) := by
  have Kp : fr (wl [(141, 141, none), (142, 142, none)]) m m := fr.rf
  have kLX := hp0
  have z47 : 0 ≤ (m 123 0).toInt ∧ (m 123 0).toInt ≤ 8 := I 123 0
  refine PM.of 0 (lo := [.ref 123, .int x0, .int x1, .int x2, .int x3]) rfl (by decide) rfl rfl (Nat.le_of_ble_eq_true rfl) ?_
  refine pv_aload_n (M := mX12_may) 0 dX12_may_0 1 rfl rfl rfl ?_
  refine pv_iload_n (M := mX12_may) 1 dX12_may_1 2 rfl rfl rfl ?_
  refine pv_callv (M := mX12_may) (as := [.int x0]) (st := []) (kc2 := 0) (ks2 := 0) dX12_may_2 wd1389 YX12_isBlank ⟨wd1391, wd55⟩ (mk_get (tl123 hT)) rfl rfl (s_X12_isBlank_vx g hT I x0) rfl rfl (Nat.le_of_ble_eq_true rfl) (by decide) rfl rfl 5 rfl (fun rv h1 q1 => ?_)
  obtain ⟨v2, rfl, rfl, pv2, qv2, rv2⟩ := q1
  replace rv2 : (v2 = 0 ∨ (0 ≤ x0.toInt ∧ x0.toInt ≤ 7)) ∧ ((v2.toInt = 1 ∧ 0 ≤ x0.toInt ∧ x0.toInt < (m 123 0).toInt) ∨ (v2.toInt = 0 ∧ (x0.toInt < 0 ∨ (m 123 0).toInt ≤ x0.toInt))) := rv2
  show PV _ _ _ _ _ _ _ 5 [.ref 123, .int x0, .int x1, .int x2, .int x3] [.int v2] _
  have k5 := rv2.2
  refine pv_if_eq (M := mX12_may) (tgt := 38) dX12_may_5 8 rfl (by decide) (fun c4 => ?_) (fun c4 => ?_)
  · have c4 := iv_eq (X := v2.toInt) (Y := 0) c4 rfl (by decide)
    refine pv_iconst (M := mX12_may) (v := (-1)) dX12_may_38 39 rfl (by decide) ?_
    have z5 : ((-1) : Int32).toInt = (-1) := by decide
    exact pv_iret (M := mX12_may) dX12_may_39 rfl rfl ⟨_, _, _, rfl, rfl, I, Kp, by decide, by decide, (Or.inl ⟨by omega, by decide⟩)⟩
  · have pc4 := rv2.1.resolve_left c4
    have c4 := iv_ne (X := v2.toInt) (Y := 0) c4 rfl (by decide)
    refine pv_iload_n (M := mX12_may) 2 dX12_may_8 9 rfl rfl rfl ?_
    refine pv_if_lt (M := mX12_may) (tgt := 38) dX12_may_9 12 rfl (by decide) (fun c6 => ?_) (fun c6 => ?_)
    · have c6 := iv_lt (X := x1.toInt) (Y := 0) c6 rfl (by decide)
      refine pv_iconst (M := mX12_may) (v := (-1)) dX12_may_38 39 rfl (by decide) ?_
      have z7 : ((-1) : Int32).toInt = (-1) := by decide
      exact pv_iret (M := mX12_may) dX12_may_39 rfl rfl ⟨_, _, _, rfl, rfl, I, Kp, by decide, by decide, (Or.inl ⟨by omega, by decide⟩)⟩
    · have c6 := iv_nlt (X := x1.toInt) (Y := 0) c6 rfl (by decide)
      refine pv_iload_n (M := mX12_may) 2 dX12_may_12 13 rfl rfl rfl ?_
      refine pv_aload_n (M := mX12_may) 0 dX12_may_13 14 rfl rfl rfl ?_
      refine pv_iload_n (M := mX12_may) 1 dX12_may_14 15 rfl rfl rfl ?_
      refine pv_callv (M := mX12_may) (as := [.int x0]) (st := [.int x1]) (kc2 := 0) (ks2 := 0) dX12_may_15 wd1393 YX12_leftMany ⟨wd1395, wd56⟩ (mk_get (tl123 hT)) rfl rfl (s_X12_leftMany g hT I x0 (by omega) (by omega)) rfl rfl (Nat.le_of_ble_eq_true rfl) (by decide) rfl rfl 18 rfl (fun rv h1 q8 => ?_)
      obtain ⟨v9, rfl, rfl, pv9, qv9, rv9⟩ := q8
      replace rv9 : v9.toInt = nu m x0.toInt 0 := rv9
      show PV _ _ _ _ _ _ _ 18 [.ref 123, .int x0, .int x1, .int x2, .int x3] [.int v9, .int x1] _
      have k18 : v9.toInt = nu m x0.toInt 0 := rv9
      refine pv_icmp_ge (M := mX12_may) (tgt := 38) dX12_may_18 21 rfl (by decide) (fun c11 => ?_) (fun c11 => ?_)
      · have c11 := iv_le (X := v9.toInt) (Y := x1.toInt) c11 rfl rfl
        refine pv_iconst (M := mX12_may) (v := (-1)) dX12_may_38 39 rfl (by decide) ?_
        have z12 : ((-1) : Int32).toInt = (-1) := by decide
        exact pv_iret (M := mX12_may) dX12_may_39 rfl rfl ⟨_, _, _, rfl, rfl, I, Kp, by decide, by decide, (Or.inl ⟨by omega, by decide⟩)⟩
      · have c11 := iv_nle (X := v9.toInt) (Y := x1.toInt) c11 rfl rfl
        refine pv_iload_n (M := mX12_may) 3 dX12_may_21 22 rfl rfl rfl ?_
        refine pv_calls (M := mX12_may) (as := [.int x2]) (st := []) (kc2 := 0) (ks2 := 0) dX12_may_22 wd1496 YX12_isClerk wd1497 (s_X12_isClerk_va g hT I x2) rfl rfl (Nat.le_of_ble_eq_true rfl) (by decide) rfl rfl 25 rfl (fun rv h1 q13 => ?_)
        obtain ⟨v14, rfl, rfl, pv14, qv14, rv14⟩ := q13
        replace rv14 : (v14 = 0 ∨ (0 ≤ x2.toInt ∧ x2.toInt ≤ 7)) ∧ ((v14.toInt = 1 ∧ 0 ≤ x2.toInt ∧ x2.toInt ≤ 7) ∨ (v14.toInt = 0 ∧ (x2.toInt < 0 ∨ 7 < x2.toInt))) := rv14
        show PV _ _ _ _ _ _ _ 25 [.ref 123, .int x0, .int x1, .int x2, .int x3] [.int v14] _
        have k25 := rv14.2
        refine pv_if_eq (M := mX12_may) (tgt := 38) dX12_may_25 28 rfl (by decide) (fun c16 => ?_) (fun c16 => ?_)
        · have c16 := iv_eq (X := v14.toInt) (Y := 0) c16 rfl (by decide)
          refine pv_iconst (M := mX12_may) (v := (-1)) dX12_may_38 39 rfl (by decide) ?_
          have z17 : ((-1) : Int32).toInt = (-1) := by decide
          exact pv_iret (M := mX12_may) dX12_may_39 rfl rfl ⟨_, _, _, rfl, rfl, I, Kp, by decide, by decide, (Or.inl ⟨by omega, by decide⟩)⟩
        · have pc16 := rv14.1.resolve_left c16
          have c16 := iv_ne (X := v14.toInt) (Y := 0) c16 rfl (by decide)
          refine pv_iload (M := mX12_may) dX12_may_28 30 rfl rfl ?_
          refine pv_iconst (M := mX12_may) (v := 0) dX12_may_30 31 rfl (by decide) ?_
          refine pv_iconst (M := mX12_may) (v := 1) dX12_may_31 32 rfl (by decide) ?_
          have z18 : (0 : Int32).toInt = 0 := by decide
          have z19 : (1 : Int32).toInt = 1 := by decide
          refine pv_calls (M := mX12_may) (as := [.int x3, .int 0, .int 1]) (st := []) (kc2 := 0) (ks2 := 0) dX12_may_32 wd1370 YX12_in wd1371 (s_X12_in_vx g hT I x3 0 1) rfl rfl (Nat.le_of_ble_eq_true rfl) (by decide) rfl rfl 35 rfl (fun rv h1 q20 => ?_)
          obtain ⟨v21, rfl, rfl, pv21, qv21, rv21⟩ := q20
          replace rv21 : (v21 = 0 ∨ ((0 : Int) ≤ x3.toInt ∧ x3.toInt ≤ (1 : Int))) ∧ ((v21.toInt = 1 ∧ (0 : Int) ≤ x3.toInt ∧ x3.toInt ≤ (1 : Int)) ∨ (v21.toInt = 0 ∧ (x3.toInt < (0 : Int) ∨ (1 : Int) < x3.toInt))) := by have q_ := rv21; (try rw [z18] at q_); (try rw [z19] at q_); exact q_
          show PV _ _ _ _ _ _ _ 35 [.ref 123, .int x0, .int x1, .int x2, .int x3] [.int v21] _
          have k35 := rv21.2
          refine pv_if_ne (M := mX12_may) (tgt := 40) dX12_may_35 38 rfl (by decide) (fun c23 => ?_) (fun c23 => ?_)
          · have pc23 := rv21.1.resolve_left c23
            have c23 := iv_ne (X := v21.toInt) (Y := 0) c23 rfl (by decide)
            refine pv_iload (M := mX12_may) dX12_may_40 42 rfl rfl ?_
            refine pv_iconst (M := mX12_may) (v := 1) dX12_may_42 43 rfl (by decide) ?_
            refine pv_icmp_ne (M := mX12_may) (tgt := 56) dX12_may_43 46 rfl (by decide) (fun c24 => ?_) (fun c24 => ?_)
            · have c24 := iv_ne (X := x3.toInt) (Y := 1) c24 rfl (by decide)
              refine pv_aload_n (M := mX12_may) 0 dX12_may_56 57 rfl rfl rfl ?_
              refine pv_iload_n (M := mX12_may) 1 dX12_may_57 58 rfl rfl rfl ?_
              refine pv_iload_n (M := mX12_may) 2 dX12_may_58 59 rfl rfl rfl ?_
              refine pv_iload_n (M := mX12_may) 3 dX12_may_59 60 rfl rfl rfl ?_
              refine pv_callv (M := mX12_may) (as := [.int x0, .int x1, .int x2]) (st := []) (kc2 := 0) (ks2 := 0) dX12_may_60 wd1522 YX12_mayStrike ⟨wd1524, wd82⟩ (mk_get (tl123 hT)) rfl rfl (s_X12_mayStrike_vz g hT I x0 (by omega) (by omega) x1 (by omega) (by omega) x2 t (by first | omega | assumption | exact (iv_rng _).2 | exact (iv_rng _).1 | decide) (by first | omega | assumption | exact (iv_rng _).2 | exact (iv_rng _).1 | decide) hp1) rfl rfl (Nat.le_of_ble_eq_true rfl) (by decide) rfl rfl 63 rfl (fun rv h1 q25 => ?_)
              obtain ⟨m26, n27, v30, rfl, rfl, I28, K29, pv30, qv30, rv30⟩ := q25
              replace rv30 : (FCT (m26 142) (m 128) (m 125) (40 * x0.toInt.toNat) (40 * x0.toInt.toNat) (m 124 x0.toInt.toNat).toInt.toNat x1.toInt x2.toInt (m 123 1).toInt x0.toInt) ∧ ((v30.toInt = 1 ∧ ¬ FRB t (m 123 20).toInt.toNat (frn m26)) ∨ (v30.toInt = 0 ∧ FRB t (m 123 20).toInt.toNat (frn m26))) := rv30
              have K29c := K29
              have kLX : LX m26 := LX_eq kLX (K29c 123 20 rfl) (fun j => K29c 136 j rfl) (fun j => K29c 138 j rfl) (fun j => K29c 139 j rfl) (fun j => K29c 140 j rfl)
              have w31 : (m26 123 0).toInt = (m 123 0).toInt := congrArg Int32.toInt (K29 123 0 rfl)
              have K29 := Kp.trans (K29.sub (fun _ _ q => q))
              show PV _ _ _ _ _ _ _ 63 [.ref 123, .int x0, .int x1, .int x2, .int x3] [.int v30] _
              have k63 := rv30
              have k63f : FCr m x0.toInt.toNat x1.toInt.toNat x2.toInt (frn m26) := FCr_of k63.1 rfl (by omega) (fun _ => rfl) (fun _ => rfl) (fun _ => rfl) (by omega) rfl
              refine pv_if_eq (M := mX12_may) (tgt := 70) dX12_may_63 66 rfl (by decide) (fun c34 => ?_) (fun c34 => ?_)
              · have c34 := iv_eq (X := v30.toInt) (Y := 0) c34 rfl (by decide)
                refine pv_iconst (M := mX12_may) (v := 0) dX12_may_70 71 rfl (by decide) ?_
                have z35 : (0 : Int32).toInt = 0 := by decide
                exact pv_iret (M := mX12_may) dX12_may_71 rfl rfl ⟨_, _, _, rfl, rfl, I28, K29, by decide, by decide, (by (try dsimp only); first | exact Or.inr (Or.inr ⟨by omega, by omega, k53p⟩) | exact Or.inr (Or.inl ⟨by omega, by omega, Or.inl ⟨by decide, _, k63f, (k63.2.resolve_right (fun q => by have q1 := q.1; omega)).2⟩⟩) | exact Or.inr (Or.inl ⟨by omega, by omega, Or.inr ⟨by decide, _, k63f, (k63.2.resolve_left (fun q => by have q1 := q.1; omega)).2⟩⟩))⟩
              · have c34 := iv_ne (X := v30.toInt) (Y := 0) c34 rfl (by decide)
                refine pv_iconst (M := mX12_may) (v := 1) dX12_may_66 67 rfl (by decide) ?_
                refine pv_goto (M := mX12_may) (tgt := 71) dX12_may_67 (by decide) ?_
                have z36 : (1 : Int32).toInt = 1 := by decide
                exact pv_iret (M := mX12_may) dX12_may_71 rfl rfl ⟨_, _, _, rfl, rfl, I28, K29, by decide, by decide, (by (try dsimp only); first | exact Or.inr (Or.inr ⟨by omega, by omega, k53p⟩) | exact Or.inr (Or.inl ⟨by omega, by omega, Or.inl ⟨by decide, _, k63f, (k63.2.resolve_right (fun q => by have q1 := q.1; omega)).2⟩⟩) | exact Or.inr (Or.inl ⟨by omega, by omega, Or.inr ⟨by decide, _, k63f, (k63.2.resolve_left (fun q => by have q1 := q.1; omega)).2⟩⟩))⟩
            · have c24 := iv_eq (X := x3.toInt) (Y := 1) c24 rfl (by decide)
              refine pv_aload_n (M := mX12_may) 0 dX12_may_46 47 rfl rfl rfl ?_
              refine pv_iload_n (M := mX12_may) 1 dX12_may_47 48 rfl rfl rfl ?_
              refine pv_iload_n (M := mX12_may) 2 dX12_may_48 49 rfl rfl rfl ?_
              refine pv_iload_n (M := mX12_may) 3 dX12_may_49 50 rfl rfl rfl ?_
              refine pv_callv (M := mX12_may) (as := [.int x0, .int x1, .int x2]) (st := []) (kc2 := 0) (ks2 := 0) dX12_may_50 wd1499 YX12_priceOf ⟨wd1501, wd77⟩ (mk_get (tl123 hT)) rfl rfl (s_X12_priceOf_vz g hT I x0 (by omega) (by omega) x1 (by omega) (by omega) x2 t (by first | omega | assumption | exact (iv_rng _).2 | exact (iv_rng _).1 | decide) (by first | omega | assumption | exact (iv_rng _).2 | exact (iv_rng _).1 | decide) hp1) rfl rfl (Nat.le_of_ble_eq_true rfl) (by decide) rfl rfl 53 rfl (fun rv h1 q37 => ?_)
              obtain ⟨m38, n39, v42, rfl, rfl, I40, K41, pv42, qv42, rv42⟩ := q37
              replace rv42 : (FCT (m38 142) (m 128) (m 125) (40 * x0.toInt.toNat) (40 * x0.toInt.toNat) (m 124 x0.toInt.toNat).toInt.toNat x1.toInt x2.toInt (m 123 1).toInt x0.toInt) ∧ v42.toInt = prc t (frn m38) (m 123 20).toInt.toNat 0 := rv42
              have K41c := K41
              have kLX : LX m38 := LX_eq kLX (K41c 123 20 rfl) (fun j => K41c 136 j rfl) (fun j => K41c 138 j rfl) (fun j => K41c 139 j rfl) (fun j => K41c 140 j rfl)
              have w43 : (m38 123 0).toInt = (m 123 0).toInt := congrArg Int32.toInt (K41 123 0 rfl)
              have K41 := Kp.trans (K41.sub (fun _ _ q => q))
              show PV _ _ _ _ _ _ _ 53 [.ref 123, .int x0, .int x1, .int x2, .int x3] [.int v42] _
              have k53 := rv42
              have k53p : PRr m t x0.toInt.toNat x1.toInt.toNat x2.toInt v42 := ⟨_, FCr_of k53.1 rfl (by omega) (fun _ => rfl) (fun _ => rfl) (fun _ => rfl) (by omega) rfl, k53.2⟩
              refine pv_goto (M := mX12_may) (tgt := 71) dX12_may_53 (by decide) ?_
              exact pv_iret (M := mX12_may) dX12_may_71 rfl rfl ⟨_, _, _, rfl, rfl, I40, K41, (iv_rng v42).1, (iv_rng v42).2, (by (try dsimp only); first | exact Or.inr (Or.inr ⟨by omega, by omega, k53p⟩) | exact Or.inr (Or.inl ⟨by omega, by omega, Or.inl ⟨by decide, _, k63f, (k63.2.resolve_right (fun q => by have q1 := q.1; omega)).2⟩⟩) | exact Or.inr (Or.inl ⟨by omega, by omega, Or.inr ⟨by decide, _, k63f, (k63.2.resolve_left (fun q => by have q1 := q.1; omega)).2⟩⟩))⟩
          · have c23 := iv_eq (X := v21.toInt) (Y := 0) c23 rfl (by decide)
            refine pv_iconst (M := mX12_may) (v := (-1)) dX12_may_38 39 rfl (by decide) ?_
            have z46 : ((-1) : Int32).toInt = (-1) := by decide
            exact pv_iret (M := mX12_may) dX12_may_39 rfl rfl ⟨_, _, _, rfl, rfl, I, Kp, by decide, by decide, (Or.inl ⟨by omega, by decide⟩)⟩

set_option maxHeartbeats 2000000 in
set_option maxRecDepth 20000 in
theorem s_X1_numberOf_vt (g : pv_G) {T : List mv_T} {m : Nat → Nat → Int32} {n : Nat → Nat → Int64} {r : Nat → Value} (hT : TX T) (I : IV BB m) (x0 : Int32) (x1 : Int32) : PM g mX1_numberOf yX1_numberOf (sqP (mk T m n r) (-2147483648) 2147483647 (fun v => ((0 ≤ x0.toInt ∧ x0.toInt < (m 97 6).toInt) ∧ (0 ≤ x1.toInt ∧ x1.toInt < (m 102 x0.toInt.toNat).toInt) ∧ v = m 103 (9 * x0.toInt.toNat + x1.toInt.toNat)) ∨ (¬ ((0 ≤ x0.toInt ∧ x0.toInt < (m 97 6).toInt) ∧ 0 ≤ x1.toInt ∧ x1.toInt < (m 102 x0.toInt.toNat).toInt) ∧ v.toInt = -1000))) 1 0 0 [.ref 97, .int x0, .int x1] (mk T m n r) := by
  have Kp : fr (wl []) m m := fr.rf
  have z20 : 0 ≤ (m 97 6).toInt ∧ (m 97 6).toInt ≤ 60 := I 97 6
  refine PM.of 1 (lo := [.ref 97, .int x0, .int x1, pv_U]) rfl (by decide) rfl rfl (Nat.le_of_ble_eq_true rfl) ?_
  refine pv_iload_n (M := mX1_numberOf) 1 dX1_numberOf_0 1 rfl rfl rfl ?_
  refine pv_if_lt (M := mX1_numberOf) (tgt := 30) dX1_numberOf_1 4 rfl (by decide) (fun c1 => ?_) (fun c1 => ?_)
  · have c1 := iv_lt (X := x0.toInt) (Y := 0) c1 rfl (by decide)
    refine pv_iconst (M := mX1_numberOf) (v := 0) dX1_numberOf_30 31 rfl (by decide) ?_
    refine pv_istore_n (M := mX1_numberOf) 3 (lo2 := [.ref 97, .int x0, .int x1, .int 0]) dX1_numberOf_31 32 rfl rfl (by decide) rfl rfl ?_
    refine pv_iload_n (M := mX1_numberOf) 3 dX1_numberOf_32 33 rfl rfl rfl ?_
    refine pv_if_eq (M := mX1_numberOf) (tgt := 50) dX1_numberOf_33 36 rfl (by decide) (fun _ => ?_) (fun q => absurd (by decide) q)
    refine pv_sipush (M := mX1_numberOf) (v := (-1000)) dX1_numberOf_50 53 rfl (by decide) ?_
    have z3 : ((-1000) : Int32).toInt = (-1000) := by decide
    exact pv_iret (M := mX1_numberOf) dX1_numberOf_53 rfl rfl ⟨_, rfl, rfl, by decide, by decide, (by (try dsimp only); first | exact Or.inl ⟨⟨by omega, by omega⟩, ⟨by omega, by omega⟩, elit.trans (congrArg (m 103) (by omega))⟩ | exact Or.inr ⟨by omega, by decide⟩)⟩
  · have c1 := iv_nlt (X := x0.toInt) (Y := 0) c1 rfl (by decide)
    refine pv_iload_n (M := mX1_numberOf) 1 dX1_numberOf_4 5 rfl rfl rfl ?_
    refine pv_aload_n (M := mX1_numberOf) 0 dX1_numberOf_5 6 rfl rfl rfl ?_
    refine iv_get (M := mX1_numberOf) (l1 := 0) (l2 := 60) dX1_numberOf_6 FX1 6 wd309 (by decide) (tl97 hT) rfl I rfl 9 rfl (fun v4 ev4 pv4 qv4 => ?_)
    have wv4 : v4.toInt = (m 97 6).toInt := congrArg Int32.toInt ev4
    refine pv_icmp_ge (M := mX1_numberOf) (tgt := 30) dX1_numberOf_9 12 rfl (by decide) (fun c5 => ?_) (fun c5 => ?_)
    · have c5 := iv_le (X := v4.toInt) (Y := x0.toInt) c5 rfl rfl
      refine pv_iconst (M := mX1_numberOf) (v := 0) dX1_numberOf_30 31 rfl (by decide) ?_
      refine pv_istore_n (M := mX1_numberOf) 3 (lo2 := [.ref 97, .int x0, .int x1, .int 0]) dX1_numberOf_31 32 rfl rfl (by decide) rfl rfl ?_
      refine pv_iload_n (M := mX1_numberOf) 3 dX1_numberOf_32 33 rfl rfl rfl ?_
      refine pv_if_eq (M := mX1_numberOf) (tgt := 50) dX1_numberOf_33 36 rfl (by decide) (fun _ => ?_) (fun q => absurd (by decide) q)
      refine pv_sipush (M := mX1_numberOf) (v := (-1000)) dX1_numberOf_50 53 rfl (by decide) ?_
      have z7 : ((-1000) : Int32).toInt = (-1000) := by decide
      exact pv_iret (M := mX1_numberOf) dX1_numberOf_53 rfl rfl ⟨_, rfl, rfl, by decide, by decide, (by (try dsimp only); first | exact Or.inl ⟨⟨by omega, by omega⟩, ⟨by omega, by omega⟩, elit.trans (congrArg (m 103) (by omega))⟩ | exact Or.inr ⟨by omega, by decide⟩)⟩
    · have c5 := iv_nle (X := v4.toInt) (Y := x0.toInt) c5 rfl rfl
      refine pv_iload_n (M := mX1_numberOf) 2 dX1_numberOf_12 13 rfl rfl rfl ?_
      refine pv_if_lt (M := mX1_numberOf) (tgt := 30) dX1_numberOf_13 16 rfl (by decide) (fun c8 => ?_) (fun c8 => ?_)
      · have c8 := iv_lt (X := x1.toInt) (Y := 0) c8 rfl (by decide)
        refine pv_iconst (M := mX1_numberOf) (v := 0) dX1_numberOf_30 31 rfl (by decide) ?_
        refine pv_istore_n (M := mX1_numberOf) 3 (lo2 := [.ref 97, .int x0, .int x1, .int 0]) dX1_numberOf_31 32 rfl rfl (by decide) rfl rfl ?_
        refine pv_iload_n (M := mX1_numberOf) 3 dX1_numberOf_32 33 rfl rfl rfl ?_
        refine pv_if_eq (M := mX1_numberOf) (tgt := 50) dX1_numberOf_33 36 rfl (by decide) (fun _ => ?_) (fun q => absurd (by decide) q)
        refine pv_sipush (M := mX1_numberOf) (v := (-1000)) dX1_numberOf_50 53 rfl (by decide) ?_
        have z10 : ((-1000) : Int32).toInt = (-1000) := by decide
        exact pv_iret (M := mX1_numberOf) dX1_numberOf_53 rfl rfl ⟨_, rfl, rfl, by decide, by decide, (by (try dsimp only); first | exact Or.inl ⟨⟨by omega, by omega⟩, ⟨by omega, by omega⟩, elit.trans (congrArg (m 103) (by omega))⟩ | exact Or.inr ⟨by omega, by decide⟩)⟩
      · have c8 := iv_nlt (X := x1.toInt) (Y := 0) c8 rfl (by decide)
        refine pv_iload_n (M := mX1_numberOf) 2 dX1_numberOf_16 17 rfl rfl rfl ?_
        refine pv_aload_n (M := mX1_numberOf) 0 dX1_numberOf_17 18 rfl rfl rfl ?_
        refine mv_get (M := mX1_numberOf) (v := .ref 102) dX1_numberOf_18 FX1 4 wd306 (by decide) (tl97 hT) rfl rfl 21 rfl ?_
        refine pv_iload_n (M := mX1_numberOf) 1 dX1_numberOf_21 22 rfl rfl rfl ?_
        refine iv_iald (M := mX1_numberOf) (X := x0.toInt) (l1 := 0) (l2 := 9) dX1_numberOf_22 (tl102 hT) rfl (by omega) (by omega) I (fun _ => rfl) 23 rfl (fun v11 ev11 pv11 qv11 => ?_)
        have k23 : v11.toInt = (m 102 x0.toInt.toNat).toInt := congrArg Int32.toInt ev11
        refine pv_icmp_ge (M := mX1_numberOf) (tgt := 30) dX1_numberOf_23 26 rfl (by decide) (fun c13 => ?_) (fun c13 => ?_)
        · have c13 := iv_le (X := v11.toInt) (Y := x1.toInt) c13 rfl rfl
          refine pv_iconst (M := mX1_numberOf) (v := 0) dX1_numberOf_30 31 rfl (by decide) ?_
          refine pv_istore_n (M := mX1_numberOf) 3 (lo2 := [.ref 97, .int x0, .int x1, .int 0]) dX1_numberOf_31 32 rfl rfl (by decide) rfl rfl ?_
          refine pv_iload_n (M := mX1_numberOf) 3 dX1_numberOf_32 33 rfl rfl rfl ?_
          refine pv_if_eq (M := mX1_numberOf) (tgt := 50) dX1_numberOf_33 36 rfl (by decide) (fun _ => ?_) (fun q => absurd (by decide) q)
          refine pv_sipush (M := mX1_numberOf) (v := (-1000)) dX1_numberOf_50 53 rfl (by decide) ?_
          have z15 : ((-1000) : Int32).toInt = (-1000) := by decide
          exact pv_iret (M := mX1_numberOf) dX1_numberOf_53 rfl rfl ⟨_, rfl, rfl, by decide, by decide, (by (try dsimp only); first | exact Or.inl ⟨⟨by omega, by omega⟩, ⟨by omega, by omega⟩, elit.trans (congrArg (m 103) (by omega))⟩ | exact Or.inr ⟨by omega, by decide⟩)⟩
        · have c13 := iv_nle (X := v11.toInt) (Y := x1.toInt) c13 rfl rfl
          refine pv_iconst (M := mX1_numberOf) (v := 1) dX1_numberOf_26 27 rfl (by decide) ?_
          refine pv_goto (M := mX1_numberOf) (tgt := 31) dX1_numberOf_27 (by decide) ?_
          refine pv_istore_n (M := mX1_numberOf) 3 (lo2 := [.ref 97, .int x0, .int x1, .int 1]) dX1_numberOf_31 32 rfl rfl (by decide) rfl rfl ?_
          refine pv_iload_n (M := mX1_numberOf) 3 dX1_numberOf_32 33 rfl rfl rfl ?_
          refine pv_if_eq (M := mX1_numberOf) (tgt := 50) dX1_numberOf_33 36 rfl (by decide) (fun q => absurd q (by decide)) (fun _ => ?_)
          refine pv_aload_n (M := mX1_numberOf) 0 dX1_numberOf_36 37 rfl rfl rfl ?_
          refine mv_get (M := mX1_numberOf) (v := .ref 103) dX1_numberOf_37 FX1 5 wd308 (by decide) (tl97 hT) rfl rfl 40 rfl ?_
          refine pv_iload_n (M := mX1_numberOf) 1 dX1_numberOf_40 41 rfl rfl rfl ?_
          refine pv_bipush (M := mX1_numberOf) (v := 9) dX1_numberOf_41 43 rfl (by decide) ?_
          refine iv_imul (M := mX1_numberOf) (X := x0.toInt) (Y := 9) dX1_numberOf_43 44 rfl rfl (by decide) (by omega) (by omega) (fun v17 ev17 => ?_)
          refine pv_iload_n (M := mX1_numberOf) 2 dX1_numberOf_44 45 rfl rfl rfl ?_
          refine iv_iadd (M := mX1_numberOf) (X := v17.toInt) (Y := x1.toInt) dX1_numberOf_45 46 rfl rfl rfl (by omega) (by omega) (fun v18 ev18 => ?_)
          refine iv_iald (M := mX1_numberOf) (X := v18.toInt) (l1 := (-2147483648)) (l2 := 2147483647) dX1_numberOf_46 (tl103 hT) rfl (by omega) (by omega) I (fun _ => rfl) 47 rfl (fun v19 ev19 pv19 qv19 => ?_)
          refine pv_goto (M := mX1_numberOf) (tgt := 53) dX1_numberOf_47 (by decide) ?_
          exact pv_iret (M := mX1_numberOf) dX1_numberOf_53 rfl rfl ⟨_, rfl, rfl, (iv_rng v19).1, (iv_rng v19).2, (by (try dsimp only); first | exact Or.inl ⟨⟨by omega, by omega⟩, ⟨by omega, by omega⟩, ev19.trans (congrArg (m 103) (by omega))⟩ | exact Or.inr ⟨by omega, by decide⟩)⟩

set_option maxHeartbeats 2000000 in
set_option maxRecDepth 20000 in
theorem s_X1_tell_va (g : pv_G) {T : List mv_T} {m : Nat → Nat → Int32} {n : Nat → Nat → Int64} {r : Nat → Value} (hT : TX T) (I : IV BB m) (x0 : Int32) (x1 : Int32) : PM g mX1_tell yX1_tell (sqP (mk T m n r) (-2147483648) 2147483647 (fun v => BOK (m 97 6).toInt (fun q i => m (98 + q) i) (m 103) x0 x1 v)) 2 0 0 [.ref 97, .int x0, .int x1] (mk T m n r) := by
  have Kp : fr (wl []) m m := fr.rf
  have z29 : 0 ≤ (m 97 6).toInt ∧ (m 97 6).toInt ≤ 60 := I 97 6
  refine PM.of 0 (lo := [.ref 97, .int x0, .int x1]) rfl (by decide) rfl rfl (Nat.le_of_ble_eq_true rfl) ?_
  refine pv_iload_n (M := mX1_tell) 1 dX1_tell_0 1 rfl rfl rfl ?_
  refine pv_if_lt (M := mX1_tell) (tgt := 12) dX1_tell_1 4 rfl (by decide) (fun c1 => ?_) (fun c1 => ?_)
  · have c1 := iv_lt (X := x0.toInt) (Y := 0) c1 rfl (by decide)
    refine pv_sipush (M := mX1_tell) (v := (-1000)) dX1_tell_12 15 rfl (by decide) ?_
    have z2 : ((-1000) : Int32).toInt = (-1000) := by decide
    exact pv_iret (M := mX1_tell) dX1_tell_15 rfl rfl ⟨_, rfl, rfl, by decide, by decide, (Or.inl ⟨by omega, by decide⟩)⟩
  · have c1 := iv_nlt (X := x0.toInt) (Y := 0) c1 rfl (by decide)
    refine pv_iload_n (M := mX1_tell) 1 dX1_tell_4 5 rfl rfl rfl ?_
    refine pv_aload_n (M := mX1_tell) 0 dX1_tell_5 6 rfl rfl rfl ?_
    refine iv_get (M := mX1_tell) (l1 := 0) (l2 := 60) dX1_tell_6 FX1 6 wd309 (by decide) (tl97 hT) rfl I rfl 9 rfl (fun v3 ev3 pv3 qv3 => ?_)
    have wv3 : v3.toInt = (m 97 6).toInt := congrArg Int32.toInt ev3
    refine pv_icmp_lt (M := mX1_tell) (tgt := 16) dX1_tell_9 12 rfl (by decide) (fun c4 => ?_) (fun c4 => ?_)
    · have c4 := iv_lt (X := x0.toInt) (Y := v3.toInt) c4 rfl rfl
      refine pv_iload_n (M := mX1_tell) 2 dX1_tell_16 17 rfl rfl rfl ?_
      by_cases c5 : x1.toInt = 0
      · refine iv_tabIn (M := mX1_tell) (X := 0) (off := 35) (tgt := 52) dX1_tell_17 c5 (by decide) (by decide) (by decide) (by decide) ?_
        refine pv_aload_n (M := mX1_tell) 0 dX1_tell_52 53 rfl rfl rfl ?_
        refine mv_get (M := mX1_tell) (v := .ref 98) dX1_tell_53 FX1 0 wd302 (by decide) (tl97 hT) rfl rfl 56 rfl ?_
        refine pv_iload_n (M := mX1_tell) 1 dX1_tell_56 57 rfl rfl rfl ?_
        refine iv_iald (M := mX1_tell) (X := x0.toInt) (l1 := (-2147483648)) (l2 := 2147483647) dX1_tell_57 (tl98 hT) rfl (by omega) (by omega) I (fun _ => rfl) 58 rfl (fun v6 ev6 pv6 qv6 => ?_)
        have k58 := ev6
        exact pv_iret (M := mX1_tell) dX1_tell_58 rfl rfl ⟨_, rfl, rfl, (iv_rng v6).1, (iv_rng v6).2, (Or.inr (Or.inl ⟨by omega, by omega, by show _ = m _ _; rw [show x1.toInt.toNat = 0 by omega]; exact k58⟩))⟩
      by_cases c8 : x1.toInt = 1
      · refine iv_tabIn (M := mX1_tell) (X := 1) (off := 42) (tgt := 59) dX1_tell_17 c8 (by decide) (by decide) (by decide) (by decide) ?_
        refine pv_aload_n (M := mX1_tell) 0 dX1_tell_59 60 rfl rfl rfl ?_
        refine mv_get (M := mX1_tell) (v := .ref 99) dX1_tell_60 FX1 1 wd303 (by decide) (tl97 hT) rfl rfl 63 rfl ?_
        refine pv_iload_n (M := mX1_tell) 1 dX1_tell_63 64 rfl rfl rfl ?_
        refine iv_iald (M := mX1_tell) (X := x0.toInt) (l1 := (-2147483648)) (l2 := 2147483647) dX1_tell_64 (tl99 hT) rfl (by omega) (by omega) I (fun _ => rfl) 65 rfl (fun v9 ev9 pv9 qv9 => ?_)
        have k65 := ev9
        exact pv_iret (M := mX1_tell) dX1_tell_65 rfl rfl ⟨_, rfl, rfl, (iv_rng v9).1, (iv_rng v9).2, (Or.inr (Or.inl ⟨by omega, by omega, by show _ = m _ _; rw [show x1.toInt.toNat = 1 by omega]; exact k65⟩))⟩
      by_cases c11 : x1.toInt = 2
      · refine iv_tabIn (M := mX1_tell) (X := 2) (off := 49) (tgt := 66) dX1_tell_17 c11 (by decide) (by decide) (by decide) (by decide) ?_
        refine pv_aload_n (M := mX1_tell) 0 dX1_tell_66 67 rfl rfl rfl ?_
        refine mv_get (M := mX1_tell) (v := .ref 100) dX1_tell_67 FX1 2 wd304 (by decide) (tl97 hT) rfl rfl 70 rfl ?_
        refine pv_iload_n (M := mX1_tell) 1 dX1_tell_70 71 rfl rfl rfl ?_
        refine iv_iald (M := mX1_tell) (X := x0.toInt) (l1 := (-2147483648)) (l2 := 2147483647) dX1_tell_71 (tl100 hT) rfl (by omega) (by omega) I (fun _ => rfl) 72 rfl (fun v12 ev12 pv12 qv12 => ?_)
        have k72 := ev12
        exact pv_iret (M := mX1_tell) dX1_tell_72 rfl rfl ⟨_, rfl, rfl, (iv_rng v12).1, (iv_rng v12).2, (Or.inr (Or.inl ⟨by omega, by omega, by show _ = m _ _; rw [show x1.toInt.toNat = 2 by omega]; exact k72⟩))⟩
      by_cases c14 : x1.toInt = 3
      · refine iv_tabIn (M := mX1_tell) (X := 3) (off := 56) (tgt := 73) dX1_tell_17 c14 (by decide) (by decide) (by decide) (by decide) ?_
        refine pv_aload_n (M := mX1_tell) 0 dX1_tell_73 74 rfl rfl rfl ?_
        refine mv_get (M := mX1_tell) (v := .ref 101) dX1_tell_74 FX1 3 wd305 (by decide) (tl97 hT) rfl rfl 77 rfl ?_
        refine pv_iload_n (M := mX1_tell) 1 dX1_tell_77 78 rfl rfl rfl ?_
        refine iv_iald (M := mX1_tell) (X := x0.toInt) (l1 := (-2147483648)) (l2 := 2147483647) dX1_tell_78 (tl101 hT) rfl (by omega) (by omega) I (fun _ => rfl) 79 rfl (fun v15 ev15 pv15 qv15 => ?_)
        have k79 := ev15
        exact pv_iret (M := mX1_tell) dX1_tell_79 rfl rfl ⟨_, rfl, rfl, (iv_rng v15).1, (iv_rng v15).2, (Or.inr (Or.inl ⟨by omega, by omega, by show _ = m _ _; rw [show x1.toInt.toNat = 3 by omega]; exact k79⟩))⟩
      by_cases c17 : x1.toInt = 4
      · refine iv_tabIn (M := mX1_tell) (X := 4) (off := 63) (tgt := 80) dX1_tell_17 c17 (by decide) (by decide) (by decide) (by decide) ?_
        refine pv_aload_n (M := mX1_tell) 0 dX1_tell_80 81 rfl rfl rfl ?_
        refine mv_get (M := mX1_tell) (v := .ref 102) dX1_tell_81 FX1 4 wd306 (by decide) (tl97 hT) rfl rfl 84 rfl ?_
        refine pv_iload_n (M := mX1_tell) 1 dX1_tell_84 85 rfl rfl rfl ?_
        refine iv_iald (M := mX1_tell) (X := x0.toInt) (l1 := 0) (l2 := 9) dX1_tell_85 (tl102 hT) rfl (by omega) (by omega) I (fun _ => rfl) 86 rfl (fun v18 ev18 pv18 qv18 => ?_)
        have k86 := ev18
        exact pv_iret (M := mX1_tell) dX1_tell_86 rfl rfl ⟨_, rfl, rfl, (iv_rng v18).1, (iv_rng v18).2, (Or.inr (Or.inl ⟨by omega, by omega, by show _ = m _ _; rw [show x1.toInt.toNat = 4 by omega]; exact k86⟩))⟩
      refine pv_tableOut (M := mX1_tell) (tgt := 87) dX1_tell_17 (by omega) (by decide) ?_
      refine pv_iload_n (M := mX1_tell) 2 dX1_tell_87 88 rfl rfl rfl ?_
      refine pv_bipush (M := mX1_tell) (v := 10) dX1_tell_88 90 rfl (by decide) ?_
      refine pv_icmp_ge (M := mX1_tell) (tgt := 99) dX1_tell_90 93 rfl (by decide) (fun c20 => ?_) (fun c20 => ?_)
      · have c20 := iv_le (X := 10) (Y := x1.toInt) c20 (by decide) rfl
        refine pv_aload_n (M := mX1_tell) 0 dX1_tell_99 100 rfl rfl rfl ?_
        refine pv_iload_n (M := mX1_tell) 1 dX1_tell_100 101 rfl rfl rfl ?_
        refine pv_iload_n (M := mX1_tell) 2 dX1_tell_101 102 rfl rfl rfl ?_
        refine pv_bipush (M := mX1_tell) (v := 10) dX1_tell_102 104 rfl (by decide) ?_
        have z22 := iv_rng x1
        refine iv_isub (M := mX1_tell) (X := x1.toInt) (Y := 10) dX1_tell_104 105 rfl rfl (by decide) (by omega) (by omega) (fun v21 ev21 => ?_)
        refine pv_callv (M := mX1_tell) (as := [.int x0, .int v21]) (st := []) (kc2 := 0) (ks2 := 0) dX1_tell_105 wd823 YX1_numberOf ⟨wd803, wd804⟩ (mk_get (tl97 hT)) rfl rfl (s_X1_numberOf_vt g hT I x0 v21) rfl rfl (Nat.le_of_ble_eq_true rfl) (by decide) rfl rfl 108 rfl (fun rv h1 q23 => ?_)
        obtain ⟨v24, rfl, rfl, pv24, qv24, rv24⟩ := q23
        replace rv24 : ((0 ≤ x0.toInt ∧ x0.toInt < (m 97 6).toInt) ∧ (0 ≤ v21.toInt ∧ v21.toInt < (m 102 x0.toInt.toNat).toInt) ∧ v24 = m 103 (9 * x0.toInt.toNat + v21.toInt.toNat)) ∨ (¬ ((0 ≤ x0.toInt ∧ x0.toInt < (m 97 6).toInt) ∧ 0 ≤ v21.toInt ∧ v21.toInt < (m 102 x0.toInt.toNat).toInt) ∧ v24.toInt = -1000) := rv24
        show PV _ _ _ _ _ _ _ 108 [.ref 97, .int x0, .int x1] [.int v24] _
        try have k108 := rv24
        exact pv_iret (M := mX1_tell) dX1_tell_108 rfl rfl ⟨_, rfl, rfl, (iv_rng v24).1, (iv_rng v24).2, (by (try dsimp only); first | exact Or.inr (Or.inr (Or.inr ⟨by omega, by omega, by omega, by decide⟩)) | (rcases k108 with ⟨q1, q2, q3⟩ | ⟨q1, q3⟩; (exact Or.inr (Or.inr (Or.inl ⟨by omega, by omega, by show _ < (m 102 _).toInt; omega, by rw [q3]; exact congrArg (m 103) (by omega)⟩))); (exact Or.inr (Or.inr (Or.inr ⟨by omega, by omega, by show ¬ (_ ∧ _ < (m 102 _).toInt); omega, q3⟩)))))⟩
      · have c20 := iv_nle (X := 10) (Y := x1.toInt) c20 (by decide) rfl
        refine pv_sipush (M := mX1_tell) (v := (-1000)) dX1_tell_93 96 rfl (by decide) ?_
        refine pv_goto (M := mX1_tell) (tgt := 108) dX1_tell_96 (by decide) ?_
        try have k108 := rlit
        have z27 : ((-1000) : Int32).toInt = (-1000) := by decide
        exact pv_iret (M := mX1_tell) dX1_tell_108 rfl rfl ⟨_, rfl, rfl, by decide, by decide, (by (try dsimp only); first | exact Or.inr (Or.inr (Or.inr ⟨by omega, by omega, by omega, by decide⟩)) | (rcases k108 with ⟨q1, q2, q3⟩ | ⟨q1, q3⟩; (exact Or.inr (Or.inr (Or.inl ⟨by omega, by omega, by show _ < (m 102 _).toInt; omega, by rw [q3]; exact congrArg (m 103) (by omega)⟩))); (exact Or.inr (Or.inr (Or.inr ⟨by omega, by omega, by show ¬ (_ ∧ _ < (m 102 _).toInt); omega, q3⟩)))))⟩
    · have c4 := iv_nlt (X := x0.toInt) (Y := v3.toInt) c4 rfl rfl
      refine pv_sipush (M := mX1_tell) (v := (-1000)) dX1_tell_12 15 rfl (by decide) ?_
      have z28 : ((-1000) : Int32).toInt = (-1000) := by decide
      exact pv_iret (M := mX1_tell) dX1_tell_15 rfl rfl ⟨_, rfl, rfl, by decide, by decide, (Or.inl ⟨by omega, by decide⟩)⟩

set_option maxHeartbeats 2000000 in
set_option maxRecDepth 20000 in
theorem s_X11_book_va (g : pv_G) {T : List mv_T} {m : Nat → Nat → Int32} {n : Nat → Nat → Int64} {r : Nat → Value} {la lb : Nat} (hT : TX T) (I : IV BB m) (R : RX T r la lb) (x0 : Int32) (x1 : Int32) : PM g mX11_book yX11_book (sqP (mk T m n r) (-2147483648) 2147483647 (fun v => BOK (m 97 6).toInt (fun q i => m (98 + q) i) (m 103) x0 x1 v)) 3 0 0 [.ref 0, .int x0, .int x1] (mk T m n r) := by
  have Kp : fr (wl []) m m := fr.rf
  have R0 := R
  have zR := R.2.2.2.2.1.1
  have zR2 := R.2.2.2.2.2.1
  refine PM.of 0 (lo := [.ref 0, .int x0, .int x1]) rfl (by decide) rfl rfl (Nat.le_of_ble_eq_true rfl) ?_
  refine pv_aload_n (M := mX11_book) 0 dX11_book_0 1 rfl rfl rfl ?_
  refine mv_get (M := mX11_book) (v := .ref 97) dX11_book_1 FX11 6 wd413 (by decide) (tl0 hT) rfl rfl 4 rfl ?_
  refine pv_iload_n (M := mX11_book) 1 dX11_book_4 5 rfl rfl rfl ?_
  refine pv_iload_n (M := mX11_book) 2 dX11_book_5 6 rfl rfl rfl ?_
  refine pv_callv (M := mX11_book) (as := [.int x0, .int x1]) (st := []) (kc2 := 0) (ks2 := 0) dX11_book_6 wd819 YX1_tell ⟨wd820, wd821⟩ (mk_get (tl97 hT)) rfl rfl (s_X1_tell_va g hT I x0 x1) rfl rfl (Nat.le_of_ble_eq_true rfl) (by decide) rfl rfl 9 rfl (fun rv h1 q1 => ?_)
  obtain ⟨v2, rfl, rfl, pv2, qv2, rv2⟩ := q1
  replace rv2 : BOK (m 97 6).toInt (fun q i => m (98 + q) i) (m 103) x0 x1 v2 := rv2
  show PV _ _ _ _ _ _ _ 9 [.ref 0, .int x0, .int x1] [.int v2] _
  exact pv_iret (M := mX11_book) dX11_book_9 rfl rfl ⟨_, rfl, rfl, (iv_rng v2).1, (iv_rng v2).2, rv2⟩

set_option maxHeartbeats 2000000 in
set_option maxRecDepth 20000 in
theorem s_X12_book_va (g : pv_G) {T : List mv_T} {m : Nat → Nat → Int32} {n : Nat → Nat → Int64} {r : Nat → Value} (hT : TX T) (I : IV BB m) (x0 : Int32) (x1 : Int32) : PM g mX12_book yX12_book (sqP (mk T m n r) (-2147483648) 2147483647 (fun v => BOK (m 123 3).toInt (fun q i => m (143 + q) i) (m 148) x0 x1 v)) 2 0 0 [.ref 123, .int x0, .int x1] (mk T m n r) := by
  have Kp : fr (wl []) m m := fr.rf
  have z35 : 0 ≤ (m 123 3).toInt ∧ (m 123 3).toInt ≤ 60 := I 123 3
  refine PM.of 0 (lo := [.ref 123, .int x0, .int x1]) rfl (by decide) rfl rfl (Nat.le_of_ble_eq_true rfl) ?_
  refine pv_iload_n (M := mX12_book) 1 dX12_book_0 1 rfl rfl rfl ?_
  refine pv_if_lt (M := mX12_book) (tgt := 12) dX12_book_1 4 rfl (by decide) (fun c1 => ?_) (fun c1 => ?_)
  · have c1 := iv_lt (X := x0.toInt) (Y := 0) c1 rfl (by decide)
    refine pv_sipush (M := mX12_book) (v := (-1000)) dX12_book_12 15 rfl (by decide) ?_
    have z2 : ((-1000) : Int32).toInt = (-1000) := by decide
    exact pv_iret (M := mX12_book) dX12_book_15 rfl rfl ⟨_, rfl, rfl, by decide, by decide, (Or.inl ⟨by omega, by decide⟩)⟩
  · have c1 := iv_nlt (X := x0.toInt) (Y := 0) c1 rfl (by decide)
    refine pv_iload_n (M := mX12_book) 1 dX12_book_4 5 rfl rfl rfl ?_
    refine pv_aload_n (M := mX12_book) 0 dX12_book_5 6 rfl rfl rfl ?_
    refine iv_get (M := mX12_book) (l1 := 0) (l2 := 60) dX12_book_6 FX12 3 wd1176 (by decide) (tl123 hT) rfl I rfl 9 rfl (fun v3 ev3 pv3 qv3 => ?_)
    have wv3 : v3.toInt = (m 123 3).toInt := congrArg Int32.toInt ev3
    refine pv_icmp_lt (M := mX12_book) (tgt := 16) dX12_book_9 12 rfl (by decide) (fun c4 => ?_) (fun c4 => ?_)
    · have c4 := iv_lt (X := x0.toInt) (Y := v3.toInt) c4 rfl rfl
      refine pv_iload_n (M := mX12_book) 2 dX12_book_16 17 rfl rfl rfl ?_
      by_cases c5 : x1.toInt = 0
      · refine iv_tabIn (M := mX12_book) (X := 0) (off := 35) (tgt := 52) dX12_book_17 c5 (by decide) (by decide) (by decide) (by decide) ?_
        refine pv_aload_n (M := mX12_book) 0 dX12_book_52 53 rfl rfl rfl ?_
        refine mv_get (M := mX12_book) (v := .ref 143) dX12_book_53 FX12 34 wd1207 (by decide) (tl123 hT) rfl rfl 56 rfl ?_
        refine pv_iload_n (M := mX12_book) 1 dX12_book_56 57 rfl rfl rfl ?_
        refine iv_iald (M := mX12_book) (X := x0.toInt) (l1 := 0) (l2 := 7) dX12_book_57 (tl143 hT) rfl (by omega) (by omega) I (fun _ => rfl) 58 rfl (fun v6 ev6 pv6 qv6 => ?_)
        have k58 := ev6
        exact pv_iret (M := mX12_book) dX12_book_58 rfl rfl ⟨_, rfl, rfl, (iv_rng v6).1, (iv_rng v6).2, (Or.inr (Or.inl ⟨by omega, by omega, by show _ = m _ _; rw [show x1.toInt.toNat = 0 by omega]; exact k58⟩))⟩
      by_cases c8 : x1.toInt = 1
      · refine iv_tabIn (M := mX12_book) (X := 1) (off := 42) (tgt := 59) dX12_book_17 c8 (by decide) (by decide) (by decide) (by decide) ?_
        refine pv_aload_n (M := mX12_book) 0 dX12_book_59 60 rfl rfl rfl ?_
        refine mv_get (M := mX12_book) (v := .ref 144) dX12_book_60 FX12 35 wd1208 (by decide) (tl123 hT) rfl rfl 63 rfl ?_
        refine pv_iload_n (M := mX12_book) 1 dX12_book_63 64 rfl rfl rfl ?_
        refine iv_iald (M := mX12_book) (X := x0.toInt) (l1 := (-2147483648)) (l2 := 2147483647) dX12_book_64 (tl144 hT) rfl (by omega) (by omega) I (fun _ => rfl) 65 rfl (fun v9 ev9 pv9 qv9 => ?_)
        have k65 := ev9
        exact pv_iret (M := mX12_book) dX12_book_65 rfl rfl ⟨_, rfl, rfl, (iv_rng v9).1, (iv_rng v9).2, (Or.inr (Or.inl ⟨by omega, by omega, by show _ = m _ _; rw [show x1.toInt.toNat = 1 by omega]; exact k65⟩))⟩
      by_cases c11 : x1.toInt = 2
      · refine iv_tabIn (M := mX12_book) (X := 2) (off := 49) (tgt := 66) dX12_book_17 c11 (by decide) (by decide) (by decide) (by decide) ?_
        refine pv_aload_n (M := mX12_book) 0 dX12_book_66 67 rfl rfl rfl ?_
        refine mv_get (M := mX12_book) (v := .ref 145) dX12_book_67 FX12 36 wd1209 (by decide) (tl123 hT) rfl rfl 70 rfl ?_
        refine pv_iload_n (M := mX12_book) 1 dX12_book_70 71 rfl rfl rfl ?_
        refine iv_iald (M := mX12_book) (X := x0.toInt) (l1 := (-2147483648)) (l2 := 2147483647) dX12_book_71 (tl145 hT) rfl (by omega) (by omega) I (fun _ => rfl) 72 rfl (fun v12 ev12 pv12 qv12 => ?_)
        have k72 := ev12
        exact pv_iret (M := mX12_book) dX12_book_72 rfl rfl ⟨_, rfl, rfl, (iv_rng v12).1, (iv_rng v12).2, (Or.inr (Or.inl ⟨by omega, by omega, by show _ = m _ _; rw [show x1.toInt.toNat = 2 by omega]; exact k72⟩))⟩
      by_cases c14 : x1.toInt = 3
      · refine iv_tabIn (M := mX12_book) (X := 3) (off := 56) (tgt := 73) dX12_book_17 c14 (by decide) (by decide) (by decide) (by decide) ?_
        refine pv_aload_n (M := mX12_book) 0 dX12_book_73 74 rfl rfl rfl ?_
        refine mv_get (M := mX12_book) (v := .ref 146) dX12_book_74 FX12 37 wd1210 (by decide) (tl123 hT) rfl rfl 77 rfl ?_
        refine pv_iload_n (M := mX12_book) 1 dX12_book_77 78 rfl rfl rfl ?_
        refine iv_iald (M := mX12_book) (X := x0.toInt) (l1 := (-2147483648)) (l2 := 2147483647) dX12_book_78 (tl146 hT) rfl (by omega) (by omega) I (fun _ => rfl) 79 rfl (fun v15 ev15 pv15 qv15 => ?_)
        have k79 := ev15
        exact pv_iret (M := mX12_book) dX12_book_79 rfl rfl ⟨_, rfl, rfl, (iv_rng v15).1, (iv_rng v15).2, (Or.inr (Or.inl ⟨by omega, by omega, by show _ = m _ _; rw [show x1.toInt.toNat = 3 by omega]; exact k79⟩))⟩
      by_cases c17 : x1.toInt = 4
      · refine iv_tabIn (M := mX12_book) (X := 4) (off := 63) (tgt := 80) dX12_book_17 c17 (by decide) (by decide) (by decide) (by decide) ?_
        refine pv_aload_n (M := mX12_book) 0 dX12_book_80 81 rfl rfl rfl ?_
        refine mv_get (M := mX12_book) (v := .ref 147) dX12_book_81 FX12 38 wd1211 (by decide) (tl123 hT) rfl rfl 84 rfl ?_
        refine pv_iload_n (M := mX12_book) 1 dX12_book_84 85 rfl rfl rfl ?_
        refine iv_iald (M := mX12_book) (X := x0.toInt) (l1 := 0) (l2 := 9) dX12_book_85 (tl147 hT) rfl (by omega) (by omega) I (fun _ => rfl) 86 rfl (fun v18 ev18 pv18 qv18 => ?_)
        have k86 := ev18
        exact pv_iret (M := mX12_book) dX12_book_86 rfl rfl ⟨_, rfl, rfl, (iv_rng v18).1, (iv_rng v18).2, (Or.inr (Or.inl ⟨by omega, by omega, by show _ = m _ _; rw [show x1.toInt.toNat = 4 by omega]; exact k86⟩))⟩
      refine pv_tableOut (M := mX12_book) (tgt := 87) dX12_book_17 (by omega) (by decide) ?_
      refine pv_iload_n (M := mX12_book) 2 dX12_book_87 88 rfl rfl rfl ?_
      refine pv_bipush (M := mX12_book) (v := 10) dX12_book_88 90 rfl (by decide) ?_
      refine pv_bipush (M := mX12_book) (v := 9) dX12_book_90 92 rfl (by decide) ?_
      refine pv_aload_n (M := mX12_book) 0 dX12_book_92 93 rfl rfl rfl ?_
      refine mv_get (M := mX12_book) (v := .ref 147) dX12_book_93 FX12 38 wd1211 (by decide) (tl123 hT) rfl rfl 96 rfl ?_
      refine pv_iload_n (M := mX12_book) 1 dX12_book_96 97 rfl rfl rfl ?_
      refine iv_iald (M := mX12_book) (X := x0.toInt) (l1 := 0) (l2 := 9) dX12_book_97 (tl147 hT) rfl (by omega) (by omega) I (fun _ => rfl) 98 rfl (fun v20 ev20 pv20 qv20 => ?_)
      have k98 : v20.toInt = (m 147 x0.toInt.toNat).toInt := congrArg Int32.toInt ev20
      refine iv_iadd (M := mX12_book) (X := 9) (Y := v20.toInt) dX12_book_98 99 rfl (by decide) rfl (by omega) (by omega) (fun v22 ev22 => ?_)
      have z23 : (10 : Int32).toInt = 10 := by decide
      refine pv_calls (M := mX12_book) (as := [.int x1, .int 10, .int v22]) (st := []) (kc2 := 0) (ks2 := 0) dX12_book_99 wd1370 YX12_in wd1371 (s_X12_in_vx g hT I x1 10 v22) rfl rfl (Nat.le_of_ble_eq_true rfl) (by decide) rfl rfl 102 rfl (fun rv h1 q24 => ?_)
      obtain ⟨v25, rfl, rfl, pv25, qv25, rv25⟩ := q24
      replace rv25 : (v25 = 0 ∨ ((10 : Int) ≤ x1.toInt ∧ x1.toInt ≤ v22.toInt)) ∧ ((v25.toInt = 1 ∧ (10 : Int) ≤ x1.toInt ∧ x1.toInt ≤ v22.toInt) ∨ (v25.toInt = 0 ∧ (x1.toInt < (10 : Int) ∨ v22.toInt < x1.toInt))) := by have q_ := rv25; (try rw [z23] at q_); exact q_
      show PV _ _ _ _ _ _ _ 102 [.ref 123, .int x0, .int x1] [.int v25] _
      have k102 := rv25.2
      refine pv_if_eq (M := mX12_book) (tgt := 122) dX12_book_102 105 rfl (by decide) (fun c27 => ?_) (fun c27 => ?_)
      · have c27 := iv_eq (X := v25.toInt) (Y := 0) c27 rfl (by decide)
        refine pv_sipush (M := mX12_book) (v := (-1000)) dX12_book_122 125 rfl (by decide) ?_
        have z28 : ((-1000) : Int32).toInt = (-1000) := by decide
        exact pv_iret (M := mX12_book) dX12_book_125 rfl rfl ⟨_, rfl, rfl, by decide, by decide, (by (try dsimp only); first | exact Or.inr (Or.inr (Or.inl ⟨by omega, by omega, by show _ < (m 147 _).toInt; omega, k119⟩)) | exact Or.inr (Or.inr (Or.inr ⟨by omega, by omega, by show ¬ (_ ∧ _ < (m 147 _).toInt); omega, by decide⟩)))⟩
      · have pc27 := rv25.1.resolve_left c27
        have c27 := iv_ne (X := v25.toInt) (Y := 0) c27 rfl (by decide)
        refine pv_aload_n (M := mX12_book) 0 dX12_book_105 106 rfl rfl rfl ?_
        refine mv_get (M := mX12_book) (v := .ref 148) dX12_book_106 FX12 39 wd1212 (by decide) (tl123 hT) rfl rfl 109 rfl ?_
        refine pv_bipush (M := mX12_book) (v := 9) dX12_book_109 111 rfl (by decide) ?_
        refine pv_iload_n (M := mX12_book) 1 dX12_book_111 112 rfl rfl rfl ?_
        refine iv_imul (M := mX12_book) (X := 9) (Y := x0.toInt) dX12_book_112 113 rfl (by decide) rfl (by omega) (by omega) (fun v29 ev29 => ?_)
        refine pv_iload_n (M := mX12_book) 2 dX12_book_113 114 rfl rfl rfl ?_
        refine iv_iadd (M := mX12_book) (X := v29.toInt) (Y := x1.toInt) dX12_book_114 115 rfl rfl rfl (by omega) (by omega) (fun v30 ev30 => ?_)
        refine pv_bipush (M := mX12_book) (v := 10) dX12_book_115 117 rfl (by decide) ?_
        refine iv_isub (M := mX12_book) (X := v30.toInt) (Y := 10) dX12_book_117 118 rfl rfl (by decide) (by omega) (by omega) (fun v31 ev31 => ?_)
        refine iv_iald (M := mX12_book) (X := v31.toInt) (l1 := 0) (l2 := 39) dX12_book_118 (tl148 hT) rfl (by omega) (by omega) I (fun _ => rfl) 119 rfl (fun v32 ev32 pv32 qv32 => ?_)
        have k119 : v32 = m 148 (9 * x0.toInt.toNat + (x1.toInt - 10).toNat) := ev32.trans (congrArg (m 148) (by omega))
        refine pv_goto (M := mX12_book) (tgt := 125) dX12_book_119 (by decide) ?_
        exact pv_iret (M := mX12_book) dX12_book_125 rfl rfl ⟨_, rfl, rfl, (iv_rng v32).1, (iv_rng v32).2, (by (try dsimp only); first | exact Or.inr (Or.inr (Or.inl ⟨by omega, by omega, by show _ < (m 147 _).toInt; omega, k119⟩)) | exact Or.inr (Or.inr (Or.inr ⟨by omega, by omega, by show ¬ (_ ∧ _ < (m 147 _).toInt); omega, by decide⟩)))⟩
    · have c4 := iv_nlt (X := x0.toInt) (Y := v3.toInt) c4 rfl rfl
      refine pv_sipush (M := mX12_book) (v := (-1000)) dX12_book_12 15 rfl (by decide) ?_
      have z34 : ((-1000) : Int32).toInt = (-1000) := by decide
      exact pv_iret (M := mX12_book) dX12_book_15 rfl rfl ⟨_, rfl, rfl, by decide, by decide, (Or.inl ⟨by omega, by decide⟩)⟩
