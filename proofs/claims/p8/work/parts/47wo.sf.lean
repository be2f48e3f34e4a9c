set_option maxHeartbeats 2000000 in
set_option maxRecDepth 20000 in
theorem s_X2_ifStruck_va (g : pv_G) {T : List mv_T} {m : Nat → Nat → Int32} {n : Nat → Nat → Int64} {r : Nat → Value} (hT : TX T) (I : IV BB m) (x0 : Int32) (hl0 : 0 ≤ x0.toInt) (hh0 : x0.toInt ≤ 39) (x1 : Int32) (hl1 : 0 ≤ x1.toInt) (hh1 : x1.toInt ≤ 16) (gx : Option Int) (hp0 : (m 111 (17 * (x0.toInt.toNat + 1) + x1.toInt.toNat)).toInt = enc 1000000 gx) (hp1 : ∀ v, gx = some v → 0 ≤ v ∧ v ≤ 3960) (hp2 : 0 ≤ (m 109 x0.toInt.toNat).toInt ∧ (m 109 x0.toInt.toNat).toInt ≤ 99) : PM g mX2_ifStruck yX2_ifStruck (sqP (mk T m n r) (-2147483648) 2147483647 (fun v => v.toInt = enc 1000000 (plO (cCl m x0.toInt.toNat) gx))) 1 0 0 [.ref 107, .int x0, .int x1] (mk T m n r) := by
  have Kp : fr (wl []) m m := fr.rf
  refine PM.of 1 (lo := [.ref 107, .int x0, .int x1, pv_U]) rfl (by decide) rfl rfl (Nat.le_of_ble_eq_true rfl) ?_
  refine pv_aload_n (M := mX2_ifStruck) 0 dX2_ifStruck_0 1 rfl rfl rfl ?_
  refine mv_get (M := mX2_ifStruck) (v := .ref 111) dX2_ifStruck_1 FX2 3 wd352 (by decide) (tl107 hT) rfl rfl 4 rfl ?_
  refine pv_iload_n (M := mX2_ifStruck) 1 dX2_ifStruck_4 5 rfl rfl rfl ?_
  refine pv_iconst (M := mX2_ifStruck) (v := 1) dX2_ifStruck_5 6 rfl (by decide) ?_
  refine iv_iadd (M := mX2_ifStruck) (X := x0.toInt) (Y := 1) dX2_ifStruck_6 7 rfl rfl (by decide) (by omega) (by omega) (fun v1 ev1 => ?_)
  refine pv_bipush (M := mX2_ifStruck) (v := 17) dX2_ifStruck_7 9 rfl (by decide) ?_
  refine iv_imul (M := mX2_ifStruck) (X := v1.toInt) (Y := 17) dX2_ifStruck_9 10 rfl rfl (by decide) (by omega) (by omega) (fun v2 ev2 => ?_)
  refine pv_iload_n (M := mX2_ifStruck) 2 dX2_ifStruck_10 11 rfl rfl rfl ?_
  refine iv_iadd (M := mX2_ifStruck) (X := v2.toInt) (Y := x1.toInt) dX2_ifStruck_11 12 rfl rfl rfl (by omega) (by omega) (fun v3 ev3 => ?_)
  refine iv_iald (M := mX2_ifStruck) (X := v3.toInt) (l1 := (-2147483648)) (l2 := 2147483647) dX2_ifStruck_12 (tl111 hT) rfl (by omega) (by omega) I (fun _ => rfl) 13 rfl (fun v4 ev4 pv4 qv4 => ?_)
  have k13 : v4.toInt = enc 1000000 gx := by rw [← hp0, ev4]; congr 2; omega
  have k13b : 0 ≤ v4.toInt ∧ v4.toInt ≤ 1000000 := by rw [k13]; cases gx with | none => exact ⟨by decide, by decide⟩ | some q => have z := hp1 q rfl; show 0 ≤ q ∧ q ≤ 1000000; omega
  refine pv_istore_n (M := mX2_ifStruck) 3 (lo2 := [.ref 107, .int x0, .int x1, .int v4]) dX2_ifStruck_13 14 rfl rfl (by decide) rfl rfl ?_
  refine pv_aload_n (M := mX2_ifStruck) 0 dX2_ifStruck_14 15 rfl rfl rfl ?_
  refine mv_get (M := mX2_ifStruck) (v := .ref 108) dX2_ifStruck_15 FX2 0 wd346 (by decide) (tl107 hT) rfl rfl 18 rfl ?_
  refine pv_iload_n (M := mX2_ifStruck) 1 dX2_ifStruck_18 19 rfl rfl rfl ?_
  refine iv_zald (M := mX2_ifStruck) (X := x0.toInt) (l1 := 0) (l2 := 1) dX2_ifStruck_19 (tl108 hT) rfl (by omega) (by omega) I (fun _ => rfl) 20 rfl (fun v7 ev7 pv7 qv7 => ?_)
  have k20 : v7.toInt = (m 108 x0.toInt.toNat).toInt := congrArg Int32.toInt ev7
  refine pv_if_eq (M := mX2_ifStruck) (tgt := 40) dX2_ifStruck_20 23 rfl (by decide) (fun c9 => ?_) (fun c9 => ?_)
  · have c9 := iv_eq (X := v7.toInt) (Y := 0) c9 rfl (by decide)
    refine pv_ldc (M := mX2_ifStruck) (v := 1000000) dX2_ifStruck_40 42 rfl wd853 ?_
    have z10 : (1000000 : Int32).toInt = 1000000 := by decide
    exact pv_iret (M := mX2_ifStruck) dX2_ifStruck_42 rfl rfl ⟨_, rfl, rfl, by decide, by decide, (by (try dsimp only); first | exact plO_y (by omega) k13 (by omega) k37 | (rw [show (1000000 : Int32).toInt = 1000000 from (by decide)]; exact plO_n hp1 (by first | exact Or.inl (by omega) | exact Or.inr (by omega))))⟩
  · have c9 := iv_ne (X := v7.toInt) (Y := 0) c9 rfl (by decide)
    refine pv_iload_n (M := mX2_ifStruck) 3 dX2_ifStruck_23 24 rfl rfl rfl ?_
    refine pv_ldc (M := mX2_ifStruck) (v := 1000000) dX2_ifStruck_24 26 rfl wd853 ?_
    refine pv_icmp_ge (M := mX2_ifStruck) (tgt := 40) dX2_ifStruck_26 29 rfl (by decide) (fun c11 => ?_) (fun c11 => ?_)
    · have c11 := iv_le (X := 1000000) (Y := v4.toInt) c11 (by decide) rfl
      refine pv_ldc (M := mX2_ifStruck) (v := 1000000) dX2_ifStruck_40 42 rfl wd853 ?_
      have z12 : (1000000 : Int32).toInt = 1000000 := by decide
      exact pv_iret (M := mX2_ifStruck) dX2_ifStruck_42 rfl rfl ⟨_, rfl, rfl, by decide, by decide, (by (try dsimp only); first | exact plO_y (by omega) k13 (by omega) k37 | (rw [show (1000000 : Int32).toInt = 1000000 from (by decide)]; exact plO_n hp1 (by first | exact Or.inl (by omega) | exact Or.inr (by omega))))⟩
    · have c11 := iv_nle (X := 1000000) (Y := v4.toInt) c11 (by decide) rfl
      refine pv_iload_n (M := mX2_ifStruck) 3 dX2_ifStruck_29 30 rfl rfl rfl ?_
      refine pv_aload_n (M := mX2_ifStruck) 0 dX2_ifStruck_30 31 rfl rfl rfl ?_
      refine mv_get (M := mX2_ifStruck) (v := .ref 109) dX2_ifStruck_31 FX2 1 wd348 (by decide) (tl107 hT) rfl rfl 34 rfl ?_
      refine pv_iload_n (M := mX2_ifStruck) 1 dX2_ifStruck_34 35 rfl rfl rfl ?_
      refine iv_iald (M := mX2_ifStruck) (X := x0.toInt) (l1 := (-2147483648)) (l2 := 2147483647) dX2_ifStruck_35 (tl109 hT) rfl (by omega) (by omega) I (fun _ => rfl) 36 rfl (fun v13 ev13 pv13 qv13 => ?_)
      have k36 : v13.toInt = (m 109 x0.toInt.toNat).toInt := congrArg Int32.toInt ev13
      refine iv_addU (M := mX2_ifStruck) dX2_ifStruck_36 37 rfl (fun v15 ev15 => ?_)
      have k37 : v15.toInt = v4.toInt + (m 109 x0.toInt.toNat).toInt := by rw [ev15]; exact iv_addE rfl k36 (by omega) (by omega)
      refine pv_goto (M := mX2_ifStruck) (tgt := 42) dX2_ifStruck_37 (by decide) ?_
      exact pv_iret (M := mX2_ifStruck) dX2_ifStruck_42 rfl rfl ⟨_, rfl, rfl, (iv_rng v15).1, (iv_rng v15).2, (by (try dsimp only); first | exact plO_y (by omega) k13 (by omega) k37 | (rw [show (1000000 : Int32).toInt = 1000000 from (by decide)]; exact plO_n hp1 (by first | exact Or.inl (by omega) | exact Or.inr (by omega))))⟩

set_option maxHeartbeats 2000000 in
set_option maxRecDepth 20000 in
theorem s_X2_ifKept_va (g : pv_G) {T : List mv_T} {m : Nat → Nat → Int32} {n : Nat → Nat → Int64} {r : Nat → Value} (hT : TX T) (I : IV BB m) (a0 : Nat) (ha0 : RowAt T a0 40) (a1 : Nat) (ha1 : RowAt T a1 16) (x2 : Int32) (hl2 : 0 ≤ x2.toInt) (hh2 : x2.toInt ≤ 39) (x3 : Int32) (hl3 : 0 ≤ x3.toInt) (hh3 : x3.toInt ≤ 16) : PM g mX2_ifKept yX2_ifKept (sqP (mk T m n r) (-2147483648) 2147483647 (fun v => v.toInt = if x3.toInt < (m a1 1).toInt then (if m (a0 + 1) x2.toInt.toNat = m (a1 + 1) x3.toInt.toNat then (m 111 (17 * (x2.toInt.toNat + 1) + x3.toInt.toNat + 1)).toInt else 1000000) else 1000000)) 1 0 0 [.ref 107, .ref a0, .ref a1, .int x2, .int x3] (mk T m n r) := by
  have Kp : fr (wl []) m m := fr.rf
  have zr0 := ha0.2.2.2.2
  have zr1 := ha1.2.2.2.2
  refine PM.of 1 (lo := [.ref 107, .ref a0, .ref a1, .int x2, .int x3, pv_U]) rfl (by decide) rfl rfl (Nat.le_of_ble_eq_true rfl) ?_
  refine pv_iload (M := mX2_ifKept) dX2_ifKept_0 2 rfl rfl ?_
  refine pv_aload_n (M := mX2_ifKept) 2 dX2_ifKept_2 3 rfl rfl rfl ?_
  refine iv_get (M := mX2_ifKept) (l1 := 0) (l2 := 16) dX2_ifKept_3 FX8 1 wd194 (by decide) ha1.1 rfl I ha1.2.2.1 6 rfl (fun v1 ev1 pv1 qv1 => ?_)
  have wv1 : v1.toInt = (m a1 1).toInt := congrArg Int32.toInt ev1
  refine pv_icmp_ge (M := mX2_ifKept) (tgt := 29) dX2_ifKept_6 9 rfl (by decide) (fun c2 => ?_) (fun c2 => ?_)
  · have c2 := iv_le (X := v1.toInt) (Y := x3.toInt) c2 rfl rfl
    refine pv_iconst (M := mX2_ifKept) (v := 0) dX2_ifKept_29 30 rfl (by decide) ?_
    refine pv_istore (M := mX2_ifKept) (lo2 := [.ref 107, .ref a0, .ref a1, .int x2, .int x3, .int 0]) dX2_ifKept_30 32 rfl (by decide) rfl rfl ?_
    refine pv_iload (M := mX2_ifKept) dX2_ifKept_32 34 rfl rfl ?_
    refine pv_if_eq (M := mX2_ifKept) (tgt := 56) dX2_ifKept_34 37 rfl (by decide) (fun _ => ?_) (fun q => absurd (by decide) q)
    refine pv_ldc (M := mX2_ifKept) (v := 1000000) dX2_ifKept_56 58 rfl wd853 ?_
    have z4 : (1000000 : Int32).toInt = 1000000 := by decide
    exact pv_iret (M := mX2_ifKept) dX2_ifKept_58 rfl rfl ⟨_, rfl, rfl, by decide, by decide, (by (try dsimp only); first | (rw [if_pos (by omega), if_pos (by rw [← k14, ← k22]; exact i_eq (by omega))]; exact k53) | (rw [show (1000000 : Int32).toInt = 1000000 from (by decide)]; first | (rw [if_neg (by omega)]) | (rw [if_pos (by omega), if_neg (fun q => by rw [← k14, ← k22] at q; have q1 := congrArg Int32.toInt q; omega)])))⟩
  · have c2 := iv_nle (X := v1.toInt) (Y := x3.toInt) c2 rfl rfl
    refine pv_aload_n (M := mX2_ifKept) 1 dX2_ifKept_9 10 rfl rfl rfl ?_
    refine mv_get (M := mX2_ifKept) (v := .ref (a0 + 1)) dX2_ifKept_10 FX8 0 wd190 (by decide) ha0.1 rfl rfl 13 rfl ?_
    refine pv_iload_n (M := mX2_ifKept) 3 dX2_ifKept_13 14 rfl rfl rfl ?_
    refine iv_iald (M := mX2_ifKept) (X := x2.toInt) (l1 := (-2147483648)) (l2 := 2147483647) dX2_ifKept_14 ha0.2.1 rfl (by omega) (by omega) I ha0.2.2.2.1 15 rfl (fun v5 ev5 pv5 qv5 => ?_)
    have k14 : v5 = m (a0 + 1) x2.toInt.toNat := ev5
    refine pv_aload_n (M := mX2_ifKept) 2 dX2_ifKept_15 16 rfl rfl rfl ?_
    refine mv_get (M := mX2_ifKept) (v := .ref (a1 + 1)) dX2_ifKept_16 FX8 0 wd190 (by decide) ha1.1 rfl rfl 19 rfl ?_
    refine pv_iload (M := mX2_ifKept) dX2_ifKept_19 21 rfl rfl ?_
    refine iv_iald (M := mX2_ifKept) (X := x3.toInt) (l1 := (-2147483648)) (l2 := 2147483647) dX2_ifKept_21 ha1.2.1 rfl (by omega) (by omega) I ha1.2.2.2.1 22 rfl (fun v7 ev7 pv7 qv7 => ?_)
    have k22 : v7 = m (a1 + 1) x3.toInt.toNat := ev7
    have k22z : v5 = m (a0 + 1) x2.toInt.toNat := k14
    refine pv_icmp_ne (M := mX2_ifKept) (tgt := 29) dX2_ifKept_22 25 rfl (by decide) (fun c10 => ?_) (fun c10 => ?_)
    · have c10 := iv_ne (X := v5.toInt) (Y := v7.toInt) c10 rfl rfl
      refine pv_iconst (M := mX2_ifKept) (v := 0) dX2_ifKept_29 30 rfl (by decide) ?_
      refine pv_istore (M := mX2_ifKept) (lo2 := [.ref 107, .ref a0, .ref a1, .int x2, .int x3, .int 0]) dX2_ifKept_30 32 rfl (by decide) rfl rfl ?_
      refine pv_iload (M := mX2_ifKept) dX2_ifKept_32 34 rfl rfl ?_
      refine pv_if_eq (M := mX2_ifKept) (tgt := 56) dX2_ifKept_34 37 rfl (by decide) (fun _ => ?_) (fun q => absurd (by decide) q)
      refine pv_ldc (M := mX2_ifKept) (v := 1000000) dX2_ifKept_56 58 rfl wd853 ?_
      have z12 : (1000000 : Int32).toInt = 1000000 := by decide
      exact pv_iret (M := mX2_ifKept) dX2_ifKept_58 rfl rfl ⟨_, rfl, rfl, by decide, by decide, (by (try dsimp only); first | (rw [if_pos (by omega), if_pos (by rw [← k14, ← k22]; exact i_eq (by omega))]; exact k53) | (rw [show (1000000 : Int32).toInt = 1000000 from (by decide)]; first | (rw [if_neg (by omega)]) | (rw [if_pos (by omega), if_neg (fun q => by rw [← k14, ← k22] at q; have q1 := congrArg Int32.toInt q; omega)])))⟩
    · have c10 := iv_eq (X := v5.toInt) (Y := v7.toInt) c10 rfl rfl
      refine pv_iconst (M := mX2_ifKept) (v := 1) dX2_ifKept_25 26 rfl (by decide) ?_
      refine pv_goto (M := mX2_ifKept) (tgt := 30) dX2_ifKept_26 (by decide) ?_
      refine pv_istore (M := mX2_ifKept) (lo2 := [.ref 107, .ref a0, .ref a1, .int x2, .int x3, .int 1]) dX2_ifKept_30 32 rfl (by decide) rfl rfl ?_
      refine pv_iload (M := mX2_ifKept) dX2_ifKept_32 34 rfl rfl ?_
      refine pv_if_eq (M := mX2_ifKept) (tgt := 56) dX2_ifKept_34 37 rfl (by decide) (fun q => absurd q (by decide)) (fun _ => ?_)
      refine pv_aload_n (M := mX2_ifKept) 0 dX2_ifKept_37 38 rfl rfl rfl ?_
      refine mv_get (M := mX2_ifKept) (v := .ref 111) dX2_ifKept_38 FX2 3 wd352 (by decide) (tl107 hT) rfl rfl 41 rfl ?_
      refine pv_iload_n (M := mX2_ifKept) 3 dX2_ifKept_41 42 rfl rfl rfl ?_
      refine pv_iconst (M := mX2_ifKept) (v := 1) dX2_ifKept_42 43 rfl (by decide) ?_
      refine iv_iadd (M := mX2_ifKept) (X := x2.toInt) (Y := 1) dX2_ifKept_43 44 rfl rfl (by decide) (by omega) (by omega) (fun v14 ev14 => ?_)
      refine pv_bipush (M := mX2_ifKept) (v := 17) dX2_ifKept_44 46 rfl (by decide) ?_
      refine iv_imul (M := mX2_ifKept) (X := v14.toInt) (Y := 17) dX2_ifKept_46 47 rfl rfl (by decide) (by omega) (by omega) (fun v15 ev15 => ?_)
      refine pv_iload (M := mX2_ifKept) dX2_ifKept_47 49 rfl rfl ?_
      refine iv_iadd (M := mX2_ifKept) (X := v15.toInt) (Y := x3.toInt) dX2_ifKept_49 50 rfl rfl rfl (by omega) (by omega) (fun v16 ev16 => ?_)
      refine pv_iconst (M := mX2_ifKept) (v := 1) dX2_ifKept_50 51 rfl (by decide) ?_
      refine iv_iadd (M := mX2_ifKept) (X := v16.toInt) (Y := 1) dX2_ifKept_51 52 rfl rfl (by decide) (by omega) (by omega) (fun v17 ev17 => ?_)
      refine iv_iald (M := mX2_ifKept) (X := v17.toInt) (l1 := (-2147483648)) (l2 := 2147483647) dX2_ifKept_52 (tl111 hT) rfl (by omega) (by omega) I (fun _ => rfl) 53 rfl (fun v18 ev18 pv18 qv18 => ?_)
      have k53 : v18.toInt = (m 111 (17 * (x2.toInt.toNat + 1) + x3.toInt.toNat + 1)).toInt := by rw [ev18]; congr 2; omega
      refine pv_goto (M := mX2_ifKept) (tgt := 58) dX2_ifKept_53 (by decide) ?_
      exact pv_iret (M := mX2_ifKept) dX2_ifKept_58 rfl rfl ⟨_, rfl, rfl, (iv_rng v18).1, (iv_rng v18).2, (by (try dsimp only); first | (rw [if_pos (by omega), if_pos (by rw [← k14, ← k22]; exact i_eq (by omega))]; exact k53) | (rw [show (1000000 : Int32).toInt = 1000000 from (by decide)]; first | (rw [if_neg (by omega)]) | (rw [if_pos (by omega), if_neg (fun q => by rw [← k14, ← k22] at q; have q1 := congrArg Int32.toInt q; omega)])))⟩

set_option maxHeartbeats 2000000 in
set_option maxRecDepth 20000 in
theorem s_X2_trace_va (g : pv_G) {T : List mv_T} {m : Nat → Nat → Int32} {n : Nat → Nat → Int64} {r : Nat → Value} (hT : TX T) (I : IV BB m) (a0 : Nat) (ha0 : RowAt T a0 40) (a1 : Nat) (ha1 : RowAt T a1 16) (hp0 : ∀ p j, p ≤ (m a0 1).toInt.toNat → j ≤ (m a1 1).toInt.toNat → (m 111 (17 * p + j)).toInt = enc 1000000 (ctv (m (a0 + 1)) (m (a1 + 1)) (cCl m) (m a0 1).toInt.toNat (m a1 1).toInt.toNat ((m a0 1).toInt.toNat - p) j)) (hp1 : ctv (m (a0 + 1)) (m (a1 + 1)) (cCl m) (m a0 1).toInt.toNat (m a1 1).toInt.toNat (m a0 1).toInt.toNat 0 ≠ none) (hp2 : CB (cCl m) (m a0 1).toInt.toNat) : PM g mX2_trace yX2_trace (sqV T BB (wl [(110, 110, none)]) r m (fun m' => STS (m (a0 + 1)) (m (a1 + 1)) (cCl m) (m a0 1).toInt.toNat (m a1 1).toInt.toNat (m' 110))) 2 0 0 [.ref 107, .ref a0, .ref a1] (mk T m n r) := by
  have Kp : fr (wl [(110, 110, none)]) m m := fr.rf
  have zr0 := ha0.2.2.2.2
  have zr1 := ha1.2.2.2.2
  refine PM.of 2 (lo := [.ref 107, .ref a0, .ref a1, pv_U, pv_U]) rfl (by decide) rfl rfl (Nat.le_of_ble_eq_true rfl) ?_
  have kn0 : 0 ≤ (m a0 1).toInt ∧ (m a0 1).toInt ≤ 40 := by have q := I a0 1; rw [ha0.2.2.1] at q; exact q
  have kn1 : 0 ≤ (m a1 1).toInt ∧ (m a1 1).toInt ≤ 16 := by have q := I a1 1; rw [ha1.2.2.1] at q; exact q
  refine pv_iconst (M := mX2_trace) (v := 0) dX2_trace_0 1 rfl (by decide) ?_
  refine pv_istore_n (M := mX2_trace) 3 (lo2 := [.ref 107, .ref a0, .ref a1, .int 0, pv_U]) dX2_trace_1 2 rfl rfl (by decide) rfl rfl ?_
  refine pv_iconst (M := mX2_trace) (v := 0) dX2_trace_2 3 rfl (by decide) ?_
  refine pv_istore (M := mX2_trace) (lo2 := [.ref 107, .ref a0, .ref a1, .int 0, .int 0]) dX2_trace_3 5 rfl (by decide) rfl rfl ?_
  have lp10 : ∀ (fuel9 : Nat) (y3 : Int32) (y4 : Int32) (m5 : Nat → Nat → Int32) (n6 : Nat → Nat → Int64), (0 ≤ y3.toInt) → (y3.toInt ≤ 16) → (0 ≤ y4.toInt) → (y4.toInt ≤ 40) → (y4.toInt ≤ (m a0 1).toInt) → ((y3.toInt.toNat : Int) = y3.toInt) → (y3.toInt.toNat = jtp (m (a0 + 1)) (m (a1 + 1)) (cCl m) (m a0 1).toInt.toNat (m a1 1).toInt.toNat y4.toInt.toNat) → (∀ p, p < y4.toInt.toNat → kpp (m (a0 + 1)) (m (a1 + 1)) (cCl m) (m a0 1).toInt.toNat (m a1 1).toInt.toNat p (jtp (m (a0 + 1)) (m (a1 + 1)) (cCl m) (m a0 1).toInt.toNat (m a1 1).toInt.toNat p) → (m5 110 (jtp (m (a0 + 1)) (m (a1 + 1)) (cCl m) (m a0 1).toInt.toNat (m a1 1).toInt.toNat p)).toInt = p) → IV BB m5 → fr (wl [(110, 110, none)]) m m5 → ((40 - y4.toInt) : Int).toNat < fuel9 → PV none g mX2_trace (sqV T BB (wl [(110, 110, none)]) r m (fun m' => STS (m (a0 + 1)) (m (a1 + 1)) (cCl m) (m a0 1).toInt.toNat (m a1 1).toInt.toNat (m' 110))) 2 0 0 5 [.ref 107, .ref a0, .ref a1, .int y3, .int y4] [] (mk T m5 n6 r) := by
    intro fuel9
    induction fuel9 with
    | zero => intro y3 y4 m5 n6 b12 b13 b14 b15 b16 b17 b18 b19 I7 K8 z20; omega
    | succ fuel9 ih11 =>
      intro y3 y4 m5 n6 b12 b13 b14 b15 b16 b17 b18 b19 I7 K8 z20
      have kgj := (show y3.toInt.toNat = jtp (m (a0 + 1)) (m (a1 + 1)) (cCl m) (m a0 1).toInt.toNat (m a1 1).toInt.toNat y4.toInt.toNat by assumption)
      have kgs := (show ∀ p, p < y4.toInt.toNat → kpp (m (a0 + 1)) (m (a1 + 1)) (cCl m) (m a0 1).toInt.toNat (m a1 1).toInt.toNat p (jtp (m (a0 + 1)) (m (a1 + 1)) (cCl m) (m a0 1).toInt.toNat (m a1 1).toInt.toNat p) → (m5 110 (jtp (m (a0 + 1)) (m (a1 + 1)) (cCl m) (m a0 1).toInt.toNat (m a1 1).toInt.toNat p)).toInt = p by assumption)
      have ks0 : (m5 a0 1).toInt = (m a0 1).toInt := congrArg Int32.toInt (K8 a0 1 (wl_o (by omega)))
      have ks1 : (m5 a1 1).toInt = (m a1 1).toInt := congrArg Int32.toInt (K8 a1 1 (wl_o (by omega)))
      have kj1 := (jtp_le (r := m (a0 + 1)) (dd := m (a1 + 1)) (c := cCl m) (n0 := (m a0 1).toInt.toNat) (n1 := (m a1 1).toInt.toNat) y4.toInt.toNat).1
      have kra : ∀ a i, a ≠ 110 → m5 a i = m a i := fun a i q => K8 a i (wl_o q)
      have k111 : ∀ i, m5 111 i = m 111 i := fun i => K8 111 i rfl
      refine pv_iload (M := mX2_trace) dX2_trace_5 7 rfl rfl ?_
      refine pv_aload_n (M := mX2_trace) 1 dX2_trace_7 8 rfl rfl rfl ?_
      refine iv_get (M := mX2_trace) (l1 := 0) (l2 := 40) dX2_trace_8 FX8 1 wd194 (by decide) ha0.1 rfl I7 ha0.2.2.1 11 rfl (fun v28 ev28 pv28 qv28 => ?_)
      have wv28 : v28.toInt = (m5 a0 1).toInt := congrArg Int32.toInt ev28
      refine pv_icmp_ge (M := mX2_trace) (tgt := 63) dX2_trace_11 14 rfl (by decide) (fun c29 => ?_) (fun c29 => ?_)
      · have c29 := iv_le (X := v28.toInt) (Y := y4.toInt) c29 rfl rfl
        exact pv_vret (M := mX2_trace) dX2_trace_63 rfl ⟨_, _, rfl, rfl, I7, K8, (fun p hp hk => by by_cases z : p < y4.toInt.toNat; (exact kgs p z hk); (exfalso; have q1 := hk.1; obtain ⟨d, hd⟩ : ∃ d, p = y4.toInt.toNat + d := ⟨p - y4.toInt.toNat, by omega⟩; have q2 := jtp_up (r := m (a0 + 1)) (dd := m (a1 + 1)) (c := cCl m) (n0 := (m a0 1).toInt.toNat) (n1 := (m a1 1).toInt.toNat) d y4.toInt.toNat; rw [← hd] at q2; omega))⟩
      · have c29 := iv_nle (X := v28.toInt) (Y := y4.toInt) c29 rfl rfl
        refine pv_iload_n (M := mX2_trace) 3 dX2_trace_14 15 rfl rfl rfl ?_
        refine pv_aload_n (M := mX2_trace) 2 dX2_trace_15 16 rfl rfl rfl ?_
        refine iv_get (M := mX2_trace) (l1 := 0) (l2 := 16) dX2_trace_16 FX8 1 wd194 (by decide) ha1.1 rfl I7 ha1.2.2.1 19 rfl (fun v30 ev30 pv30 qv30 => ?_)
        have wv30 : v30.toInt = (m5 a1 1).toInt := congrArg Int32.toInt ev30
        refine pv_icmp_ge (M := mX2_trace) (tgt := 63) dX2_trace_19 22 rfl (by decide) (fun c31 => ?_) (fun c31 => ?_)
        · have c31 := iv_le (X := v30.toInt) (Y := y3.toInt) c31 rfl rfl
          exact pv_vret (M := mX2_trace) dX2_trace_63 rfl ⟨_, _, rfl, rfl, I7, K8, (fun p hp hk => by by_cases z : p < y4.toInt.toNat; (exact kgs p z hk); (exfalso; have q1 := hk.1; obtain ⟨d, hd⟩ : ∃ d, p = y4.toInt.toNat + d := ⟨p - y4.toInt.toNat, by omega⟩; have q2 := jtp_up (r := m (a0 + 1)) (dd := m (a1 + 1)) (c := cCl m) (n0 := (m a0 1).toInt.toNat) (n1 := (m a1 1).toInt.toNat) d y4.toInt.toNat; rw [← hd] at q2; omega))⟩
        · have c31 := iv_nle (X := v30.toInt) (Y := y3.toInt) c31 rfl rfl
          refine pv_aload_n (M := mX2_trace) 0 dX2_trace_22 23 rfl rfl rfl ?_
          refine pv_aload_n (M := mX2_trace) 1 dX2_trace_23 24 rfl rfl rfl ?_
          refine pv_aload_n (M := mX2_trace) 2 dX2_trace_24 25 rfl rfl rfl ?_
          refine pv_iload (M := mX2_trace) dX2_trace_25 27 rfl rfl ?_
          refine pv_iload_n (M := mX2_trace) 3 dX2_trace_27 28 rfl rfl rfl ?_
          refine pv_callv (M := mX2_trace) (as := [.ref a0, .ref a1, .int y4, .int y3]) (st := []) (kc2 := 0) (ks2 := 0) dX2_trace_28 wd854 YX2_ifKept ⟨wd856, wd27⟩ (mk_get (tl107 hT)) rfl rfl (s_X2_ifKept_va g hT I7 a0 ha0 a1 ha1 y4 (by omega) (by omega) y3 (by omega) (by omega)) rfl rfl (Nat.le_of_ble_eq_true rfl) (by decide) rfl rfl 31 rfl (fun rv h1 q32 => ?_)
          obtain ⟨v33, rfl, rfl, pv33, qv33, rv33⟩ := q32
          replace rv33 : v33.toInt = if y3.toInt < (m5 a1 1).toInt then (if m5 (a0 + 1) y4.toInt.toNat = m5 (a1 + 1) y3.toInt.toNat then (m5 111 (17 * (y4.toInt.toNat + 1) + y3.toInt.toNat + 1)).toInt else 1000000) else 1000000 := rv33
          show PV _ _ _ _ _ _ _ 31 [.ref 107, .ref a0, .ref a1, .int y3, .int y4] [.int v33] _
          have k31 := rv33
          rw [kra (a0 + 1) _ (by omega), kra (a1 + 1) _ (by omega), kra a1 1 (by omega), if_pos (by omega), k111] at k31
          refine pv_aload_n (M := mX2_trace) 0 dX2_trace_31 32 rfl rfl rfl ?_
          refine mv_get (M := mX2_trace) (v := .ref 111) dX2_trace_32 FX2 3 wd352 (by decide) (tl107 hT) rfl rfl 35 rfl ?_
          refine pv_iload (M := mX2_trace) dX2_trace_35 37 rfl rfl ?_
          refine pv_bipush (M := mX2_trace) (v := 17) dX2_trace_37 39 rfl (by decide) ?_
          refine iv_imul (M := mX2_trace) (X := y4.toInt) (Y := 17) dX2_trace_39 40 rfl rfl (by decide) (by omega) (by omega) (fun v36 ev36 => ?_)
          refine pv_iload_n (M := mX2_trace) 3 dX2_trace_40 41 rfl rfl rfl ?_
          refine iv_iadd (M := mX2_trace) (X := v36.toInt) (Y := y3.toInt) dX2_trace_41 42 rfl rfl rfl (by omega) (by omega) (fun v37 ev37 => ?_)
          refine iv_iald (M := mX2_trace) (X := v37.toInt) (l1 := (-2147483648)) (l2 := 2147483647) dX2_trace_42 (tl111 hT) rfl (by omega) (by omega) I7 (fun _ => rfl) 43 rfl (fun v38 ev38 pv38 qv38 => ?_)
          have k43 : v38.toInt = (m 111 (17 * y4.toInt.toNat + y3.toInt.toNat)).toInt := by rw [ev38, k111]; congr 2; omega
          have k43i := KP_iff (r := m (a0 + 1)) (dd := m (a1 + 1)) (c := cCl m) (n0 := (m a0 1).toInt.toNat) (n1 := (m a1 1).toInt.toNat) (p := y4.toInt.toNat) (j := y3.toInt.toNat) hp2 (by omega) (by omega) (by omega) (k := v33.toInt) (l := v38.toInt) (by rw [k31]; by_cases y : m (a0 + 1) y4.toInt.toNat = m (a1 + 1) y3.toInt.toNat; (rw [if_pos y, if_pos y, show 17 * (y4.toInt.toNat + 1) + y3.toInt.toNat + 1 = 17 * (y4.toInt.toNat + 1) + (y3.toInt.toNat + 1) by omega]; exact hp0 _ _ (by omega) (by omega)); (rw [if_neg y, if_neg y])) (by rw [k43]; exact hp0 _ _ (by omega) (by omega)) (by rw [kgj]; exact jtp_ok hp1 _ (by omega))
          rw [kgj] at k43i
          refine pv_icmp_ne (M := mX2_trace) (tgt := 57) dX2_trace_43 46 rfl (by decide) (fun c42 => ?_) (fun c42 => ?_)
          · have c42 := iv_ne (X := v33.toInt) (Y := v38.toInt) c42 rfl rfl
            refine iv_inc (M := mX2_trace) (C := 1) dX2_trace_57 60 rfl rfl (by decide) rfl rfl (by decide) (by omega) (by omega) (fun v43 ev43 => ?_)
            show PV _ _ _ _ _ _ _ 60 [.ref 107, .ref a0, .ref a1, .int y3, .int v43] [] _
            refine pv_goto (M := mX2_trace) (tgt := 5) dX2_trace_60 (by decide) ?_
            have ke4 : v43.toInt.toNat = (y4.toInt).toNat + 1 := by omega
            have kbj : y3.toInt.toNat = jtp (m (a0 + 1)) (m (a1 + 1)) (cCl m) (m a0 1).toInt.toNat (m a1 1).toInt.toNat v43.toInt.toNat := by rw [ke4]; first | (rw [jtp_y (k43i.mp (by omega)), ← kgj]; omega) | (rw [jtp_n (fun q => by have q1 := k43i.mpr q; omega), ← kgj])
            have kbs : ∀ p, p < v43.toInt.toNat → kpp (m (a0 + 1)) (m (a1 + 1)) (cCl m) (m a0 1).toInt.toNat (m a1 1).toInt.toNat p (jtp (m (a0 + 1)) (m (a1 + 1)) (cCl m) (m a0 1).toInt.toNat (m a1 1).toInt.toNat p) → (m5 110 (jtp (m (a0 + 1)) (m (a1 + 1)) (cCl m) (m a0 1).toInt.toNat (m a1 1).toInt.toNat p)).toInt = p := fun p hp hk => by rw [ke4] at hp; by_cases z : p = (y4.toInt).toNat; (subst z; first | (rw [noE, up2_at (by omega)]; omega) | exact absurd hk (fun q => by have q1 := k43i.mpr q; omega)); (first | (rw [noE, up2_ne (fun q => by have q2 := q.2; have q3 := jtp_lt_of (r := m (a0 + 1)) (dd := m (a1 + 1)) (c := cCl m) (n0 := (m a0 1).toInt.toNat) (n1 := (m a1 1).toInt.toNat) (p := p) (q := (y4.toInt).toNat) hk (by omega); omega)]; exact kgs p (by omega) hk) | exact kgs p (by omega) hk)
            exact ih11 y3 v43 m5 n6 (by first | omega | assumption | exact (iv_rng _).2 | exact (iv_rng _).1 | decide) (by first | omega | assumption | exact (iv_rng _).2 | exact (iv_rng _).1 | decide) (by first | omega | assumption | exact (iv_rng _).2 | exact (iv_rng _).1 | decide) (by first | omega | assumption | exact (iv_rng _).2 | exact (iv_rng _).1 | decide) (by first | omega | assumption | (show v43.toInt ≤ (m a0 1).toInt; omega) | decide) (by first | omega | assumption | (show (y3.toInt.toNat : Int) = y3.toInt; omega) | decide) kbj kbs I7 K8 (by omega)
          · have c42 := iv_eq (X := v33.toInt) (Y := v38.toInt) c42 rfl rfl
            refine pv_aload_n (M := mX2_trace) 0 dX2_trace_46 47 rfl rfl rfl ?_
            refine mv_get (M := mX2_trace) (v := .ref 110) dX2_trace_47 FX2 2 wd350 (by decide) (tl107 hT) rfl rfl 50 rfl ?_
            refine pv_iload_n (M := mX2_trace) 3 dX2_trace_50 51 rfl rfl rfl ?_
            refine pv_iload (M := mX2_trace) dX2_trace_51 53 rfl rfl ?_
            refine iv_iast (M := mX2_trace) (X := y3.toInt) (l1 := 0) (l2 := 39) dX2_trace_53 (tl110 hT) rfl (by omega) (by omega) I7 (fun _ => rfl) (by omega) (by omega) 54 rfl (fun m47 e50 I48 => ?_)
            have K49 := K8.set e50 rfl
            have w51 : (m47 a0 1).toInt = (m5 a0 1).toInt := by rw [e50, up2_ne (by omega)]
            have w52 : (m47 a1 1).toInt = (m5 a1 1).toInt := by rw [e50, up2_ne (by omega)]
            refine iv_inc (M := mX2_trace) (C := 1) dX2_trace_54 57 rfl rfl (by decide) rfl rfl (by decide) (by omega) (by omega) (fun v53 ev53 => ?_)
            show PV _ _ _ _ _ _ _ 57 [.ref 107, .ref a0, .ref a1, .int v53, .int y4] [] _
            refine iv_inc (M := mX2_trace) (C := 1) dX2_trace_57 60 rfl rfl (by decide) rfl rfl (by decide) (by omega) (by omega) (fun v54 ev54 => ?_)
            show PV _ _ _ _ _ _ _ 60 [.ref 107, .ref a0, .ref a1, .int v53, .int v54] [] _
            refine pv_goto (M := mX2_trace) (tgt := 5) dX2_trace_60 (by decide) ?_
            have ke4 : v54.toInt.toNat = (y4.toInt).toNat + 1 := by omega
            have kbj : v53.toInt.toNat = jtp (m (a0 + 1)) (m (a1 + 1)) (cCl m) (m a0 1).toInt.toNat (m a1 1).toInt.toNat v54.toInt.toNat := by rw [ke4]; first | (rw [jtp_y (k43i.mp (by omega)), ← kgj]; omega) | (rw [jtp_n (fun q => by have q1 := k43i.mpr q; omega), ← kgj])
            have kbs : ∀ p, p < v54.toInt.toNat → kpp (m (a0 + 1)) (m (a1 + 1)) (cCl m) (m a0 1).toInt.toNat (m a1 1).toInt.toNat p (jtp (m (a0 + 1)) (m (a1 + 1)) (cCl m) (m a0 1).toInt.toNat (m a1 1).toInt.toNat p) → (m47 110 (jtp (m (a0 + 1)) (m (a1 + 1)) (cCl m) (m a0 1).toInt.toNat (m a1 1).toInt.toNat p)).toInt = p := fun p hp hk => by rw [ke4] at hp; by_cases z : p = (y4.toInt).toNat; (subst z; first | (rw [e50, up2_at (by omega)]; omega) | exact absurd hk (fun q => by have q1 := k43i.mpr q; omega)); (first | (rw [e50, up2_ne (fun q => by have q2 := q.2; have q3 := jtp_lt_of (r := m (a0 + 1)) (dd := m (a1 + 1)) (c := cCl m) (n0 := (m a0 1).toInt.toNat) (n1 := (m a1 1).toInt.toNat) (p := p) (q := (y4.toInt).toNat) hk (by omega); omega)]; exact kgs p (by omega) hk) | exact kgs p (by omega) hk)
            exact ih11 v53 v54 m47 n6 (by first | omega | assumption | exact (iv_rng _).2 | exact (iv_rng _).1 | decide) (by first | omega | assumption | exact (iv_rng _).2 | exact (iv_rng _).1 | decide) (by first | omega | assumption | exact (iv_rng _).2 | exact (iv_rng _).1 | decide) (by first | omega | assumption | exact (iv_rng _).2 | exact (iv_rng _).1 | decide) (by first | omega | assumption | (show v54.toInt ≤ (m a0 1).toInt; omega) | decide) (by first | omega | assumption | (show (v53.toInt.toNat : Int) = v53.toInt; omega) | decide) kbj kbs I48 K49 (by omega)
  have z58 : (0 : Int32).toInt = 0 := by decide
  have z59 : (0 : Int32).toInt = 0 := by decide
  exact lp10 (((40 - 0) : Int).toNat + 1) 0 0 m n (by first | omega | assumption | exact (iv_rng _).2 | exact (iv_rng _).1 | decide) (by first | omega | assumption | exact (iv_rng _).2 | exact (iv_rng _).1 | decide) (by first | omega | assumption | exact (iv_rng _).2 | exact (iv_rng _).1 | decide) (by first | omega | assumption | exact (iv_rng _).2 | exact (iv_rng _).1 | decide) (by first | omega | assumption | (show 0 ≤ (m a0 1).toInt; omega) | decide) (by first | omega | assumption | (show ((0 : Int).toNat : Int) = 0; omega) | decide) (by (try dsimp only); rw [Int32.toInt_zero]; rfl) (fun p hp => by rw [Int32.toInt_zero] at hp; exact absurd hp (Nat.not_lt_zero _)) I Kp (by omega)

set_option maxHeartbeats 2000000 in
set_option maxRecDepth 20000 in
theorem s_X2_choose_va (g : pv_G) {T : List mv_T} {m : Nat → Nat → Int32} {n : Nat → Nat → Int64} {r : Nat → Value} (hT : TX T) (I : IV BB m) (a0 : Nat) (ha0 : RowAt T a0 40) (a1 : Nat) (ha1 : RowAt T a1 16) (hp0 : CB (cCl m) (m a0 1).toInt.toNat) (hp1 : PBc m (m a0 1).toInt.toNat) : PM g mX2_choose yX2_choose (sqI T BB (wl [(110, 110, none), (111, 111, none)]) r m (-2147483648) 2147483647 (fun m' v => CHO (m (a0 + 1)) (m (a1 + 1)) (cCl m) (m a0 1).toInt.toNat (m a1 1).toInt.toNat (m' 110) v.toInt)) 3 0 0 [.ref 107, .ref a0, .ref a1] (mk T m n r) := by
  have Kp : fr (wl [(110, 110, none), (111, 111, none)]) m m := fr.rf
  have zr0 := ha0.2.2.2.2
  have zr1 := ha1.2.2.2.2
  refine PM.of 2 (lo := [.ref 107, .ref a0, .ref a1, pv_U, pv_U]) rfl (by decide) rfl rfl (Nat.le_of_ble_eq_true rfl) ?_
  have kn0 : 0 ≤ (m a0 1).toInt ∧ (m a0 1).toInt ≤ 40 := by have q := I a0 1; rw [ha0.2.2.1] at q; exact q
  have kn1 : 0 ≤ (m a1 1).toInt ∧ (m a1 1).toInt ≤ 16 := by have q := I a1 1; rw [ha1.2.2.1] at q; exact q
  refine pv_iconst (M := mX2_choose) (v := 0) dX2_choose_0 1 rfl (by decide) ?_
  refine pv_istore_n (M := mX2_choose) 3 (lo2 := [.ref 107, .ref a0, .ref a1, .int 0, pv_U]) dX2_choose_1 2 rfl rfl (by decide) rfl rfl ?_
  have lp9 : ∀ (fuel8 : Nat) (y3 : Int32) (m4 : Nat → Nat → Int32) (n5 : Nat → Nat → Int64), (0 ≤ y3.toInt) → (y3.toInt ≤ 17) → (y3.toInt ≤ (m a1 1).toInt + 1) → (TCt m4 (m (a0 + 1)) (m (a1 + 1)) (cCl m) (m a0 1).toInt.toNat (m a1 1).toInt.toNat (m a0 1).toInt.toNat y3.toInt.toNat) → IV BB m4 → fr (wl [(110, 110, none), (111, 111, none)]) m m4 → ((17 - y3.toInt) : Int).toNat < fuel8 → PV none g mX2_choose (sqI T BB (wl [(110, 110, none), (111, 111, none)]) r m (-2147483648) 2147483647 (fun m' v => CHO (m (a0 + 1)) (m (a1 + 1)) (cCl m) (m a0 1).toInt.toNat (m a1 1).toInt.toNat (m' 110) v.toInt)) 3 0 0 2 [.ref 107, .ref a0, .ref a1, .int y3, pv_U] [] (mk T m4 n5 r) := by
    intro fuel8
    induction fuel8 with
    | zero => intro y3 m4 n5 b11 b12 b13 b14 I6 K7 z15; omega
    | succ fuel8 ih10 =>
      intro y3 m4 n5 b11 b12 b13 b14 I6 K7 z15
      have kg2 := (show TCt m4 (m (a0 + 1)) (m (a1 + 1)) (cCl m) (m a0 1).toInt.toNat (m a1 1).toInt.toNat (m a0 1).toInt.toNat y3.toInt.toNat by assumption)
      have ks0 : (m4 a0 1).toInt = (m a0 1).toInt := congrArg Int32.toInt (K7 a0 1 (wl_110 (by omega)))
      have ks1 : (m4 a1 1).toInt = (m a1 1).toInt := congrArg Int32.toInt (K7 a1 1 (wl_110 (by omega)))
      refine pv_iload_n (M := mX2_choose) 3 dX2_choose_2 3 rfl rfl rfl ?_
      refine pv_aload_n (M := mX2_choose) 2 dX2_choose_3 4 rfl rfl rfl ?_
      refine iv_get (M := mX2_choose) (l1 := 0) (l2 := 16) dX2_choose_4 FX8 1 wd194 (by decide) ha1.1 rfl I6 ha1.2.2.1 7 rfl (fun v19 ev19 pv19 qv19 => ?_)
      have wv19 : v19.toInt = (m4 a1 1).toInt := congrArg Int32.toInt ev19
      refine pv_icmp_gt (M := mX2_choose) (tgt := 44) dX2_choose_7 10 rfl (by decide) (fun c20 => ?_) (fun c20 => ?_)
      · have c20 := iv_lt (X := v19.toInt) (Y := y3.toInt) c20 rfl rfl
        refine pv_aload_n (M := mX2_choose) 1 dX2_choose_44 45 rfl rfl rfl ?_
        refine iv_get (M := mX2_choose) (l1 := 0) (l2 := 40) dX2_choose_45 FX8 1 wd194 (by decide) ha0.1 rfl I6 ha0.2.2.1 48 rfl (fun v21 ev21 pv21 qv21 => ?_)
        have wv21 : v21.toInt = (m4 a0 1).toInt := congrArg Int32.toInt ev21
        refine pv_iconst (M := mX2_choose) (v := 1) dX2_choose_48 49 rfl (by decide) ?_
        refine iv_isub (M := mX2_choose) (X := v21.toInt) (Y := 1) dX2_choose_49 50 rfl rfl (by decide) (by omega) (by omega) (fun v22 ev22 => ?_)
        refine pv_istore_n (M := mX2_choose) 3 (lo2 := [.ref 107, .ref a0, .ref a1, .int v22, pv_U]) dX2_choose_50 51 rfl rfl (by decide) rfl rfl ?_
        have lp29 : ∀ (fuel28 : Nat) (y23 : Int32) (m24 : Nat → Nat → Int32) (n25 : Nat → Nat → Int64), (-1 ≤ y23.toInt) → (y23.toInt ≤ 39) → (y23.toInt < (m a0 1).toInt) → (TCt m24 (m (a0 + 1)) (m (a1 + 1)) (cCl m) (m a0 1).toInt.toNat (m a1 1).toInt.toNat (y23.toInt + 1).toNat 100) → IV BB m24 → fr (wl [(110, 110, none), (111, 111, none)]) m m24 → ((y23.toInt + 1) : Int).toNat < fuel28 → PV none g mX2_choose (sqI T BB (wl [(110, 110, none), (111, 111, none)]) r m (-2147483648) 2147483647 (fun m' v => CHO (m (a0 + 1)) (m (a1 + 1)) (cCl m) (m a0 1).toInt.toNat (m a1 1).toInt.toNat (m' 110) v.toInt)) 3 0 0 51 [.ref 107, .ref a0, .ref a1, .int y23, pv_U] [] (mk T m24 n25 r) := by
          intro fuel28
          induction fuel28 with
          | zero => intro y23 m24 n25 b31 b32 b33 b34 I26 K27 z35; omega
          | succ fuel28 ih30 =>
            intro y23 m24 n25 b31 b32 b33 b34 I26 K27 z35
            have kg51 := (show TCt m24 (m (a0 + 1)) (m (a1 + 1)) (cCl m) (m a0 1).toInt.toNat (m a1 1).toInt.toNat (y23.toInt + 1).toNat 100 by assumption)
            have ks0 : (m24 a0 1).toInt = (m a0 1).toInt := congrArg Int32.toInt (K27 a0 1 (wl_110 (by omega)))
            have ks1 : (m24 a1 1).toInt = (m a1 1).toInt := congrArg Int32.toInt (K27 a1 1 (wl_110 (by omega)))
            refine pv_iload_n (M := mX2_choose) 3 dX2_choose_51 52 rfl rfl rfl ?_
            refine pv_if_lt (M := mX2_choose) (tgt := 110) dX2_choose_52 55 rfl (by decide) (fun c39 => ?_) (fun c39 => ?_)
            · have c39 := iv_lt (X := y23.toInt) (Y := 0) c39 rfl (by decide)
              have kT : ∀ p j, p ≤ (m a0 1).toInt.toNat → j ≤ (m a1 1).toInt.toNat → (m24 111 (17 * p + j)).toInt = enc 1000000 (ctv (m (a0 + 1)) (m (a1 + 1)) (cCl m) (m a0 1).toInt.toNat (m a1 1).toInt.toNat ((m a0 1).toInt.toNat - p) j) := fun p j h1 h2 => kg51 p j h1 h2 (by omega)
              refine pv_aload_n (M := mX2_choose) 0 dX2_choose_110 111 rfl rfl rfl ?_
              refine mv_get (M := mX2_choose) (v := .ref 111) dX2_choose_111 FX2 3 wd352 (by decide) (tl107 hT) rfl rfl 114 rfl ?_
              refine pv_iconst (M := mX2_choose) (v := 0) dX2_choose_114 115 rfl (by decide) ?_
              refine iv_iald (M := mX2_choose) (X := 0) (l1 := (-2147483648)) (l2 := 2147483647) dX2_choose_115 (tl111 hT) (by decide) (by omega) (by omega) I26 (fun _ => rfl) 116 rfl (fun v41 ev41 pv41 qv41 => ?_)
              have k116 : v41.toInt = enc 1000000 (ctv (m (a0 + 1)) (m (a1 + 1)) (cCl m) (m a0 1).toInt.toNat (m a1 1).toInt.toNat ((m a0 1).toInt.toNat - 0) 0) := by rw [ev41]; exact kT 0 0 (by omega) (by omega)
              rw [Nat.sub_zero] at k116
              refine pv_ldc (M := mX2_choose) (v := 1000000) dX2_choose_116 118 rfl wd853 ?_
              try have k118 : v41.toInt = (m24 111 (17 * 0 + 0)).toInt := congrArg Int32.toInt ev41
              refine pv_icmp_lt (M := mX2_choose) (tgt := 123) dX2_choose_118 121 rfl (by decide) (fun c45 => ?_) (fun c45 => ?_)
              · have c45 := iv_lt (X := v41.toInt) (Y := 1000000) c45 rfl (by decide)
                refine pv_aload_n (M := mX2_choose) 0 dX2_choose_123 124 rfl rfl rfl ?_
                refine pv_aload_n (M := mX2_choose) 1 dX2_choose_124 125 rfl rfl rfl ?_
                refine pv_aload_n (M := mX2_choose) 2 dX2_choose_125 126 rfl rfl rfl ?_
                have kra : ∀ a i, a < 110 ∨ 111 < a → m24 a i = m a i := fun a i q => K27 a i (wl_110 q)
                have kcl : cCl m24 = cCl m := funext fun p => by unfold cCl; rw [kra 108 _ (by omega), kra 109 _ (by omega)]
                have ke0 : m24 (a0 + 1) = m (a0 + 1) := funext fun i => kra _ i (by omega)
                have ke1 : m24 (a1 + 1) = m (a1 + 1) := funext fun i => kra _ i (by omega)
                have ke2 : m24 a0 1 = m a0 1 := kra _ _ (by omega)
                have ke3 : m24 a1 1 = m a1 1 := kra _ _ (by omega)
                have kT126 : ∀ p j, p ≤ (m24 a0 1).toInt.toNat → j ≤ (m24 a1 1).toInt.toNat → (m24 111 (17 * p + j)).toInt = enc 1000000 (ctv (m24 (a0 + 1)) (m24 (a1 + 1)) (cCl m24) (m24 a0 1).toInt.toNat (m24 a1 1).toInt.toNat ((m24 a0 1).toInt.toNat - p) j) := by rw [ke0, ke1, ke2, ke3, kcl]; exact kT
                have k126n : ctv (m24 (a0 + 1)) (m24 (a1 + 1)) (cCl m24) (m24 a0 1).toInt.toNat (m24 a1 1).toInt.toNat (m24 a0 1).toInt.toNat 0 ≠ none := by rw [ke0, ke1, ke2, ke3, kcl]; intro q; rw [q, enc_none] at k116; omega
                have k126c : CB (cCl m24) (m24 a0 1).toInt.toNat := by rw [ke2, kcl]; exact hp0
                refine pv_callv (M := mX2_choose) (as := [.ref a0, .ref a1]) (st := []) (kc2 := 0) (ks2 := 0) dX2_choose_126 wd863 YX2_trace ⟨wd865, wd29⟩ (mk_get (tl107 hT)) rfl rfl (s_X2_trace_va g hT I26 a0 ha0 a1 ha1 kT126 k126n k126c) rfl rfl (Nat.le_of_ble_eq_true rfl) (by decide) rfl rfl 129 rfl (fun rv h1 q55 => ?_)
                obtain ⟨m56, n57, rfl, rfl, I58, K59, rm56⟩ := q55
                replace rm56 : STS (m24 (a0 + 1)) (m24 (a1 + 1)) (cCl m24) (m24 a0 1).toInt.toNat (m24 a1 1).toInt.toNat (m56 110) := rm56
                have K59c := K59
                have K59 := K27.trans (K59.sub (wl_sub (by decide)))
                show PV _ _ _ _ _ _ _ 129 [.ref 107, .ref a0, .ref a1, .int y23, pv_U] [] _
                have k129 := rm56
                rw [ke0, ke1, ke2, ke3, kcl] at k129
                have kf129 : ∀ i, m56 111 i = m24 111 i := fun i => K59c 111 i rfl
                refine pv_aload_n (M := mX2_choose) 0 dX2_choose_129 130 rfl rfl rfl ?_
                refine mv_get (M := mX2_choose) (v := .ref 111) dX2_choose_130 FX2 3 wd352 (by decide) (tl107 hT) rfl rfl 133 rfl ?_
                refine pv_iconst (M := mX2_choose) (v := 0) dX2_choose_133 134 rfl (by decide) ?_
                refine iv_iald (M := mX2_choose) (X := 0) (l1 := (-2147483648)) (l2 := 2147483647) dX2_choose_134 (tl111 hT) (by decide) (by omega) (by omega) I58 (fun _ => rfl) 135 rfl (fun v63 ev63 pv63 qv63 => ?_)
                have k135 : v63.toInt = enc 1000000 (ctv (m (a0 + 1)) (m (a1 + 1)) (cCl m) (m a0 1).toInt.toNat (m a1 1).toInt.toNat ((m a0 1).toInt.toNat - 0) 0) := by rw [ev63, kf129]; exact kT 0 0 (by omega) (by omega)
                rw [Nat.sub_zero] at k135
                exact pv_iret (M := mX2_choose) dX2_choose_135 rfl rfl ⟨_, _, _, rfl, rfl, I58, K59, (iv_rng v63).1, (iv_rng v63).2, (by cases hq : ctv (m (a0 + 1)) (m (a1 + 1)) (cCl m) (m a0 1).toInt.toNat (m a1 1).toInt.toNat (m a0 1).toInt.toNat 0 with | none => exfalso; rw [hq, enc_none] at k116; omega | some q => rw [hq, enc_some] at k135; exact Or.inr ⟨q, hq, k135, (ctv_b hp0 _ (Nat.le_refl _) _ q hq).1, k129⟩)⟩
              · have c45 := iv_nlt (X := v41.toInt) (Y := 1000000) c45 rfl (by decide)
                refine pv_iconst (M := mX2_choose) (v := (-1)) dX2_choose_121 122 rfl (by decide) ?_
                have z66 : ((-1) : Int32).toInt = (-1) := by decide
                exact pv_iret (M := mX2_choose) dX2_choose_122 rfl rfl ⟨_, _, _, rfl, rfl, I26, K27, by decide, by decide, (Or.inl ⟨(by cases hq : ctv (m (a0 + 1)) (m (a1 + 1)) (cCl m) (m a0 1).toInt.toNat (m a1 1).toInt.toNat (m a0 1).toInt.toNat 0 with | none => rfl | some q => exfalso; rw [hq, enc_some] at k116; have z := ctv_b hp0 _ (Nat.le_refl _) _ q hq; omega), by decide⟩)⟩
            · have c39 := iv_nlt (X := y23.toInt) (Y := 0) c39 rfl (by decide)
              refine pv_iconst (M := mX2_choose) (v := 0) dX2_choose_55 56 rfl (by decide) ?_
              refine pv_istore (M := mX2_choose) (lo2 := [.ref 107, .ref a0, .ref a1, .int y23, .int 0]) dX2_choose_56 58 rfl (by decide) rfl rfl ?_
              have lp73 : ∀ (fuel72 : Nat) (y67 : Int32) (m68 : Nat → Nat → Int32) (n69 : Nat → Nat → Int64), (0 ≤ y67.toInt) → (y67.toInt ≤ 17) → (y23.toInt < (m a0 1).toInt) → (y67.toInt ≤ (m a1 1).toInt + 1) → (TCt m68 (m (a0 + 1)) (m (a1 + 1)) (cCl m) (m a0 1).toInt.toNat (m a1 1).toInt.toNat y23.toInt.toNat y67.toInt.toNat) → IV BB m68 → fr (wl [(110, 110, none), (111, 111, none)]) m m68 → ((17 - y67.toInt) : Int).toNat < fuel72 → PV none g mX2_choose (sqI T BB (wl [(110, 110, none), (111, 111, none)]) r m (-2147483648) 2147483647 (fun m' v => CHO (m (a0 + 1)) (m (a1 + 1)) (cCl m) (m a0 1).toInt.toNat (m a1 1).toInt.toNat (m' 110) v.toInt)) 3 0 0 58 [.ref 107, .ref a0, .ref a1, .int y23, .int y67] [] (mk T m68 n69 r) := by
                intro fuel72
                induction fuel72 with
                | zero => intro y67 m68 n69 b75 b76 b77 b78 b79 I70 K71 z80; omega
                | succ fuel72 ih74 =>
                  intro y67 m68 n69 b75 b76 b77 b78 b79 I70 K71 z80
                  have kg58 := (show TCt m68 (m (a0 + 1)) (m (a1 + 1)) (cCl m) (m a0 1).toInt.toNat (m a1 1).toInt.toNat y23.toInt.toNat y67.toInt.toNat by assumption)
                  have ks0 : (m68 a0 1).toInt = (m a0 1).toInt := congrArg Int32.toInt (K71 a0 1 (wl_110 (by omega)))
                  have ks1 : (m68 a1 1).toInt = (m a1 1).toInt := congrArg Int32.toInt (K71 a1 1 (wl_110 (by omega)))
                  have kra : ∀ a i, a < 110 ∨ 111 < a → m68 a i = m a i := fun a i q => K71 a i (wl_110 q)
                  have kcl : ∀ p, cCl m68 p = cCl m p := fun p => by unfold cCl; rw [kra 108 _ (by omega), kra 109 _ (by omega)]
                  refine pv_iload (M := mX2_choose) dX2_choose_58 60 rfl rfl ?_
                  refine pv_aload_n (M := mX2_choose) 2 dX2_choose_60 61 rfl rfl rfl ?_
                  refine iv_get (M := mX2_choose) (l1 := 0) (l2 := 16) dX2_choose_61 FX8 1 wd194 (by decide) ha1.1 rfl I70 ha1.2.2.1 64 rfl (fun v86 ev86 pv86 qv86 => ?_)
                  have wv86 : v86.toInt = (m68 a1 1).toInt := congrArg Int32.toInt ev86
                  refine pv_icmp_gt (M := mX2_choose) (tgt := 104) dX2_choose_64 67 rfl (by decide) (fun c87 => ?_) (fun c87 => ?_)
                  · have c87 := iv_lt (X := v86.toInt) (Y := y67.toInt) c87 rfl rfl
                    refine iv_inc (M := mX2_choose) (C := (-1)) dX2_choose_104 107 rfl rfl (by decide) rfl rfl (by decide) (by omega) (by omega) (fun v88 ev88 => ?_)
                    show PV _ _ _ _ _ _ _ 107 [.ref 107, .ref a0, .ref a1, .int v88, .int y67] [] _
                    refine pv_goto (M := mX2_choose) (tgt := 51) dX2_choose_107 (by decide) ?_
                    refine pv_fg (lo2 := [.ref 107, .ref a0, .ref a1, .int v88, pv_U]) ⟨Or.inr rfl, ⟨Or.inr rfl, ⟨Or.inr rfl, ⟨Or.inr rfl, ⟨Or.inl rfl, trivial⟩⟩⟩⟩⟩ ?_
                    have kb51 : TCt m68 (m (a0 + 1)) (m (a1 + 1)) (cCl m) (m a0 1).toInt.toNat (m a1 1).toInt.toNat (v88.toInt + 1).toNat 100 := by intro p j h1 h2 h3; exact kg58 p j h1 h2 (by omega)
                    exact ih30 v88 m68 n69 (by first | omega | assumption | exact (iv_rng _).2 | exact (iv_rng _).1 | decide) (by first | omega | assumption | exact (iv_rng _).2 | exact (iv_rng _).1 | decide) (by first | omega | assumption | (show v88.toInt < (m a0 1).toInt; omega) | decide) kb51 I70 K71 (by omega)
                  · have c87 := iv_nlt (X := v86.toInt) (Y := y67.toInt) c87 rfl rfl
                    refine pv_aload_n (M := mX2_choose) 0 dX2_choose_67 68 rfl rfl rfl ?_
                    refine mv_get (M := mX2_choose) (v := .ref 111) dX2_choose_68 FX2 3 wd352 (by decide) (tl107 hT) rfl rfl 71 rfl ?_
                    refine pv_iload_n (M := mX2_choose) 3 dX2_choose_71 72 rfl rfl rfl ?_
                    refine pv_bipush (M := mX2_choose) (v := 17) dX2_choose_72 74 rfl (by decide) ?_
                    refine iv_imul (M := mX2_choose) (X := y23.toInt) (Y := 17) dX2_choose_74 75 rfl rfl (by decide) (by omega) (by omega) (fun v90 ev90 => ?_)
                    refine pv_iload (M := mX2_choose) dX2_choose_75 77 rfl rfl ?_
                    refine iv_iadd (M := mX2_choose) (X := v90.toInt) (Y := y67.toInt) dX2_choose_77 78 rfl rfl rfl (by omega) (by omega) (fun v91 ev91 => ?_)
                    refine pv_aload_n (M := mX2_choose) 0 dX2_choose_78 79 rfl rfl rfl ?_
                    refine pv_aload_n (M := mX2_choose) 1 dX2_choose_79 80 rfl rfl rfl ?_
                    refine pv_aload_n (M := mX2_choose) 2 dX2_choose_80 81 rfl rfl rfl ?_
                    refine pv_iload_n (M := mX2_choose) 3 dX2_choose_81 82 rfl rfl rfl ?_
                    refine pv_iload (M := mX2_choose) dX2_choose_82 84 rfl rfl ?_
                    refine pv_callv (M := mX2_choose) (as := [.ref a0, .ref a1, .int y23, .int y67]) (st := [.int v91, .ref 111]) (kc2 := 0) (ks2 := 0) dX2_choose_84 wd854 YX2_ifKept ⟨wd856, wd27⟩ (mk_get (tl107 hT)) rfl rfl (s_X2_ifKept_va g hT I70 a0 ha0 a1 ha1 y23 (by omega) (by omega) y67 (by omega) (by omega)) rfl rfl (Nat.le_of_ble_eq_true rfl) (by decide) rfl rfl 87 rfl (fun rv h1 q92 => ?_)
                    obtain ⟨v93, rfl, rfl, pv93, qv93, rv93⟩ := q92
                    replace rv93 : v93.toInt = if y67.toInt < (m68 a1 1).toInt then (if m68 (a0 + 1) y23.toInt.toNat = m68 (a1 + 1) y67.toInt.toNat then (m68 111 (17 * (y23.toInt.toNat + 1) + y67.toInt.toNat + 1)).toInt else 1000000) else 1000000 := rv93
                    show PV _ _ _ _ _ _ _ 87 [.ref 107, .ref a0, .ref a1, .int y23, .int y67] [.int v93, .int v91, .ref 111] _
                    have k87 := rv93
                    rw [kra (a0 + 1) _ (by omega), kra (a1 + 1) _ (by omega), kra a1 1 (by omega)] at k87
                    refine pv_aload_n (M := mX2_choose) 0 dX2_choose_87 88 rfl rfl rfl ?_
                    refine pv_iload_n (M := mX2_choose) 3 dX2_choose_88 89 rfl rfl rfl ?_
                    refine pv_iload (M := mX2_choose) dX2_choose_89 91 rfl rfl ?_
                    have k91a : (m68 111 (17 * (y23.toInt.toNat + 1) + y67.toInt.toNat)).toInt = enc 1000000 (ctv (m (a0 + 1)) (m (a1 + 1)) (cCl m) (m a0 1).toInt.toNat (m a1 1).toInt.toNat ((m a0 1).toInt.toNat - (y23.toInt.toNat + 1)) y67.toInt.toNat) := kg58 _ _ (by omega) (by omega) (by omega)
                    have k91p : 0 ≤ (m68 109 y23.toInt.toNat).toInt ∧ (m68 109 y23.toInt.toNat).toInt ≤ 99 := by rw [kra 109 _ (by omega)]; exact hp1 _ (by omega)
                    refine pv_callv (M := mX2_choose) (as := [.int y23, .int y67]) (st := [.int v93, .int v91, .ref 111]) (kc2 := 0) (ks2 := 0) dX2_choose_91 wd858 YX2_ifStruck ⟨wd860, wd28⟩ (mk_get (tl107 hT)) rfl rfl (s_X2_ifStruck_va g hT I70 y23 (by omega) (by omega) y67 (by omega) (by omega) (ctv (m (a0 + 1)) (m (a1 + 1)) (cCl m) (m a0 1).toInt.toNat (m a1 1).toInt.toNat ((m a0 1).toInt.toNat - (y23.toInt.toNat + 1)) y67.toInt.toNat) k91a (fun v q => by have z := ctv_b hp0 _ (by omega) _ v q; omega) k91p) rfl rfl (Nat.le_of_ble_eq_true rfl) (by decide) rfl rfl 94 rfl (fun rv h1 q98 => ?_)
                    obtain ⟨v99, rfl, rfl, pv99, qv99, rv99⟩ := q98
                    replace rv99 : v99.toInt = enc 1000000 (plO (cCl m68 y23.toInt.toNat) (ctv (m (a0 + 1)) (m (a1 + 1)) (cCl m) (m a0 1).toInt.toNat (m a1 1).toInt.toNat ((m a0 1).toInt.toNat - (y23.toInt.toNat + 1)) y67.toInt.toNat)) := rv99
                    show PV _ _ _ _ _ _ _ 94 [.ref 107, .ref a0, .ref a1, .int y23, .int y67] [.int v99, .int v93, .int v91, .ref 111] _
                    have k94 := rv99
                    rw [kcl] at k94
                    have k94k : v93.toInt = enc 1000000 (if y67.toInt.toNat < (m a1 1).toInt.toNat ∧ m (a0 + 1) y23.toInt.toNat = m (a1 + 1) y67.toInt.toNat then ctv (m (a0 + 1)) (m (a1 + 1)) (cCl m) (m a0 1).toInt.toNat (m a1 1).toInt.toNat ((m a0 1).toInt.toNat - (y23.toInt.toNat + 1)) (y67.toInt.toNat + 1) else none) := by rw [k87]; by_cases z : y67.toInt < (m a1 1).toInt; (rw [if_pos z]; by_cases y : m (a0 + 1) y23.toInt.toNat = m (a1 + 1) y67.toInt.toNat; (rw [if_pos y, if_pos ⟨by omega, y⟩]; rw [show 17 * (y23.toInt.toNat + 1) + y67.toInt.toNat + 1 = 17 * (y23.toInt.toNat + 1) + (y67.toInt.toNat + 1) by omega]; exact kg58 _ _ (by omega) (by omega) (by omega)); (rw [if_neg y, if_neg (fun q => y q.2)]; rfl)); (rw [if_neg z, if_neg (fun q => by have q1 := q.1; omega)]; rfl)
                    refine iv_min (M := mX2_choose) (X := v93.toInt) (Y := v99.toInt) dX2_choose_94 wd862 Wmmin (Nat.le_of_ble_eq_true rfl) (by decide) rfl rfl 97 rfl (fun v103 ev103 fv103 gv103 => ?_)
                    have k97 : v103.toInt = enc 1000000 (ctv (m (a0 + 1)) (m (a1 + 1)) (cCl m) (m a0 1).toInt.toNat (m a1 1).toInt.toNat ((m a0 1).toInt.toNat - y23.toInt.toNat) y67.toInt.toNat) := by rw [show (m a0 1).toInt.toNat - y23.toInt.toNat = ((m a0 1).toInt.toNat - (y23.toInt.toNat + 1)) + 1 by omega]; have q := enc_min (v := v103.toInt) k94k k94 (fun w z => by split at z; (have y := ctv_b hp0 _ (by omega) _ w z; omega); (cases z)) (fun w z => by obtain ⟨a, b, z1, z2, z3⟩ := plO_some z; have y1 := ctv_b hp0 _ (by omega) _ b z2; have y2 := hp0 _ (by omega) a z1; omega) (by omega); rw [q]; show _ = enc 1000000 (mnO (if y67.toInt.toNat < (m a1 1).toInt.toNat ∧ m (a0 + 1) ((m a0 1).toInt.toNat - (((m a0 1).toInt.toNat - (y23.toInt.toNat + 1)) + 1)) = m (a1 + 1) y67.toInt.toNat then _ else none) (plO (cCl m ((m a0 1).toInt.toNat - (((m a0 1).toInt.toNat - (y23.toInt.toNat + 1)) + 1))) _)); rw [show (m a0 1).toInt.toNat - (((m a0 1).toInt.toNat - (y23.toInt.toNat + 1)) + 1) = y23.toInt.toNat by omega]
                    refine iv_iast (M := mX2_choose) (X := v91.toInt) (l1 := (-2147483648)) (l2 := 2147483647) dX2_choose_97 (tl111 hT) rfl (by omega) (by omega) I70 (fun _ => rfl) (iv_rng v103).1 (iv_rng v103).2 98 rfl (fun m105 e108 I106 => ?_)
                    have K107 := K71.set e108 rfl
                    have w109 : (m105 a0 1).toInt = (m68 a0 1).toInt := by rw [e108, up2_ne (by omega)]
                    have w110 : (m105 a1 1).toInt = (m68 a1 1).toInt := by rw [e108, up2_ne (by omega)]
                    have k98 := (e108).trans (up2_ix (j := 17 * y23.toInt.toNat + y67.toInt.toNat) (by omega))
                    refine iv_inc (M := mX2_choose) (C := 1) dX2_choose_98 101 rfl rfl (by decide) rfl rfl (by decide) (by omega) (by omega) (fun v112 ev112 => ?_)
                    show PV _ _ _ _ _ _ _ 101 [.ref 107, .ref a0, .ref a1, .int y23, .int v112] [] _
                    refine pv_goto (M := mX2_choose) (tgt := 58) dX2_choose_101 (by decide) ?_
                    have kb58 : TCt m105 (m (a0 + 1)) (m (a1 + 1)) (cCl m) (m a0 1).toInt.toNat (m a1 1).toInt.toNat y23.toInt.toNat v112.toInt.toNat := TCt_s kg58 (by omega) (by omega) k98 k97 (by omega)
                    exact ih74 v112 m105 n69 (by first | omega | assumption | exact (iv_rng _).2 | exact (iv_rng _).1 | decide) (by first | omega | assumption | exact (iv_rng _).2 | exact (iv_rng _).1 | decide) (by first | omega | assumption | (show y23.toInt < (m a0 1).toInt; omega) | decide) (by first | omega | assumption | (show v112.toInt ≤ (m a1 1).toInt + 1; omega) | decide) kb58 I106 K107 (by omega)
              have z114 : (0 : Int32).toInt = 0 := by decide
              have kin58 : TCt m24 (m (a0 + 1)) (m (a1 + 1)) (cCl m) (m a0 1).toInt.toNat (m a1 1).toInt.toNat y23.toInt.toNat (0 : Int32).toInt.toNat := by rw [Int32.toInt_zero]; intro p j h1 h2 h3; exact kg51 p j h1 h2 (by omega)
              exact lp73 (((17 - 0) : Int).toNat + 1) 0 m24 n25 (by first | omega | assumption | exact (iv_rng _).2 | exact (iv_rng _).1 | decide) (by first | omega | assumption | exact (iv_rng _).2 | exact (iv_rng _).1 | decide) (by first | omega | assumption | (show y23.toInt < (m a0 1).toInt; omega) | decide) (by first | omega | assumption | (show 0 ≤ (m a1 1).toInt + 1; omega) | decide) kin58 I26 K27 (by omega)
        have kin51 : TCt m4 (m (a0 + 1)) (m (a1 + 1)) (cCl m) (m a0 1).toInt.toNat (m a1 1).toInt.toNat (v22.toInt + 1).toNat 100 := by have z := kg2; intro p j h1 h2 h3; exact z p j h1 h2 (by omega)
        exact lp29 (((v22.toInt + 1) : Int).toNat + 1) v22 m4 n5 (by first | omega | assumption | exact (iv_rng _).2 | exact (iv_rng _).1 | decide) (by first | omega | assumption | exact (iv_rng _).2 | exact (iv_rng _).1 | decide) (by first | omega | assumption | (show v22.toInt < (m a0 1).toInt; omega) | decide) kin51 I6 K7 (by omega)
      · have c20 := iv_nlt (X := v19.toInt) (Y := y3.toInt) c20 rfl rfl
        refine pv_aload_n (M := mX2_choose) 0 dX2_choose_10 11 rfl rfl rfl ?_
        refine mv_get (M := mX2_choose) (v := .ref 111) dX2_choose_11 FX2 3 wd352 (by decide) (tl107 hT) rfl rfl 14 rfl ?_
        refine pv_aload_n (M := mX2_choose) 1 dX2_choose_14 15 rfl rfl rfl ?_
        refine iv_get (M := mX2_choose) (l1 := 0) (l2 := 40) dX2_choose_15 FX8 1 wd194 (by decide) ha0.1 rfl I6 ha0.2.2.1 18 rfl (fun v117 ev117 pv117 qv117 => ?_)
        have wv117 : v117.toInt = (m4 a0 1).toInt := congrArg Int32.toInt ev117
        refine pv_bipush (M := mX2_choose) (v := 17) dX2_choose_18 20 rfl (by decide) ?_
        refine iv_imul (M := mX2_choose) (X := v117.toInt) (Y := 17) dX2_choose_20 21 rfl rfl (by decide) (by omega) (by omega) (fun v118 ev118 => ?_)
        refine pv_iload_n (M := mX2_choose) 3 dX2_choose_21 22 rfl rfl rfl ?_
        refine iv_iadd (M := mX2_choose) (X := v118.toInt) (Y := y3.toInt) dX2_choose_22 23 rfl rfl rfl (by omega) (by omega) (fun v119 ev119 => ?_)
        refine pv_iload_n (M := mX2_choose) 3 dX2_choose_23 24 rfl rfl rfl ?_
        refine pv_aload_n (M := mX2_choose) 2 dX2_choose_24 25 rfl rfl rfl ?_
        refine iv_get (M := mX2_choose) (l1 := 0) (l2 := 16) dX2_choose_25 FX8 1 wd194 (by decide) ha1.1 rfl I6 ha1.2.2.1 28 rfl (fun v120 ev120 pv120 qv120 => ?_)
        have wv120 : v120.toInt = (m4 a1 1).toInt := congrArg Int32.toInt ev120
        refine pv_icmp_ne (M := mX2_choose) (tgt := 35) dX2_choose_28 31 rfl (by decide) (fun c121 => ?_) (fun c121 => ?_)
        · have c121 := iv_ne (X := y3.toInt) (Y := v120.toInt) c121 rfl rfl
          refine pv_ldc (M := mX2_choose) (v := 1000000) dX2_choose_35 37 rfl wd853 ?_
          have k37 : 1000000 = enc 1000000 (ctv (m (a0 + 1)) (m (a1 + 1)) (cCl m) (m a0 1).toInt.toNat (m a1 1).toInt.toNat ((m a0 1).toInt.toNat - (m a0 1).toInt.toNat) y3.toInt.toNat) := by rw [Nat.sub_self]; show _ = enc 1000000 (if y3.toInt.toNat = (m a1 1).toInt.toNat then some 0 else none); first | (rw [if_pos (by omega)]; rfl) | (rw [if_neg (by omega)]; rfl)
          refine iv_iast (M := mX2_choose) (X := v119.toInt) (l1 := (-2147483648)) (l2 := 2147483647) dX2_choose_37 (tl111 hT) rfl (by omega) (by omega) I6 (fun _ => rfl) (by decide) (by decide) 38 rfl (fun m123 e126 I124 => ?_)
          have K125 := K7.set e126 rfl
          have w127 : (m123 a0 1).toInt = (m4 a0 1).toInt := by rw [e126, up2_ne (by omega)]
          have w128 : (m123 a1 1).toInt = (m4 a1 1).toInt := by rw [e126, up2_ne (by omega)]
          have k38 := (e126).trans (up2_ix (j := 17 * (m a0 1).toInt.toNat + y3.toInt.toNat) (by omega))
          refine iv_inc (M := mX2_choose) (C := 1) dX2_choose_38 41 rfl rfl (by decide) rfl rfl (by decide) (by omega) (by omega) (fun v130 ev130 => ?_)
          show PV _ _ _ _ _ _ _ 41 [.ref 107, .ref a0, .ref a1, .int v130, pv_U] [] _
          refine pv_goto (M := mX2_choose) (tgt := 2) dX2_choose_41 (by decide) ?_
          have kb2 : TCt m123 (m (a0 + 1)) (m (a1 + 1)) (cCl m) (m a0 1).toInt.toNat (m a1 1).toInt.toNat (m a0 1).toInt.toNat v130.toInt.toNat := TCt_s kg2 (by omega) (by omega) k38 (by rw [← k37]; first | rfl | decide) (by omega)
          exact ih10 v130 m123 n5 (by first | omega | assumption | exact (iv_rng _).2 | exact (iv_rng _).1 | decide) (by first | omega | assumption | exact (iv_rng _).2 | exact (iv_rng _).1 | decide) (by first | omega | assumption | (show v130.toInt ≤ (m a1 1).toInt + 1; omega) | decide) kb2 I124 K125 (by omega)
        · have c121 := iv_eq (X := y3.toInt) (Y := v120.toInt) c121 rfl rfl
          refine pv_iconst (M := mX2_choose) (v := 0) dX2_choose_31 32 rfl (by decide) ?_
          refine pv_goto (M := mX2_choose) (tgt := 37) dX2_choose_32 (by decide) ?_
          have k37 : 0 = enc 1000000 (ctv (m (a0 + 1)) (m (a1 + 1)) (cCl m) (m a0 1).toInt.toNat (m a1 1).toInt.toNat ((m a0 1).toInt.toNat - (m a0 1).toInt.toNat) y3.toInt.toNat) := by rw [Nat.sub_self]; show _ = enc 1000000 (if y3.toInt.toNat = (m a1 1).toInt.toNat then some 0 else none); first | (rw [if_pos (by omega)]; rfl) | (rw [if_neg (by omega)]; rfl)
          refine iv_iast (M := mX2_choose) (X := v119.toInt) (l1 := (-2147483648)) (l2 := 2147483647) dX2_choose_37 (tl111 hT) rfl (by omega) (by omega) I6 (fun _ => rfl) (by decide) (by decide) 38 rfl (fun m133 e136 I134 => ?_)
          have K135 := K7.set e136 rfl
          have w137 : (m133 a0 1).toInt = (m4 a0 1).toInt := by rw [e136, up2_ne (by omega)]
          have w138 : (m133 a1 1).toInt = (m4 a1 1).toInt := by rw [e136, up2_ne (by omega)]
          have k38 := (e136).trans (up2_ix (j := 17 * (m a0 1).toInt.toNat + y3.toInt.toNat) (by omega))
          refine iv_inc (M := mX2_choose) (C := 1) dX2_choose_38 41 rfl rfl (by decide) rfl rfl (by decide) (by omega) (by omega) (fun v140 ev140 => ?_)
          show PV _ _ _ _ _ _ _ 41 [.ref 107, .ref a0, .ref a1, .int v140, pv_U] [] _
          refine pv_goto (M := mX2_choose) (tgt := 2) dX2_choose_41 (by decide) ?_
          have kb2 : TCt m133 (m (a0 + 1)) (m (a1 + 1)) (cCl m) (m a0 1).toInt.toNat (m a1 1).toInt.toNat (m a0 1).toInt.toNat v140.toInt.toNat := TCt_s kg2 (by omega) (by omega) k38 (by rw [← k37]; first | rfl | decide) (by omega)
          exact ih10 v140 m133 n5 (by first | omega | assumption | exact (iv_rng _).2 | exact (iv_rng _).1 | decide) (by first | omega | assumption | exact (iv_rng _).2 | exact (iv_rng _).1 | decide) (by first | omega | assumption | (show v140.toInt ≤ (m a1 1).toInt + 1; omega) | decide) kb2 I134 K135 (by omega)
  have z142 : (0 : Int32).toInt = 0 := by decide
  exact lp9 (((17 - 0) : Int).toNat + 1) 0 m n (by first | omega | assumption | exact (iv_rng _).2 | exact (iv_rng _).1 | decide) (by first | omega | assumption | exact (iv_rng _).2 | exact (iv_rng _).1 | decide) (by first | omega | assumption | (show 0 ≤ (m a1 1).toInt + 1; omega) | decide) (by (try dsimp only); rw [Int32.toInt_zero]; exact TCt_0) I Kp (by omega)
