set_option maxHeartbeats 2000000 in
set_option maxRecDepth 20000 in
theorem s_X4_manyTo_va (g : pv_G) {T : List mv_T} {m : Nat → Nat → Int32} {n : Nat → Nat → Int64} {r : Nat → Value} (hT : TX T) (I : IV BB m) (x0 : Int32) (hl0 : 0 ≤ x0.toInt) (hh0 : x0.toInt ≤ 40) (x1 : Int32) (hl1 : 1 ≤ x1.toInt) (hh1 : x1.toInt ≤ 9) (gf : Nat → Int64) (hp0 : ∀ q : Nat, (q : Int) ≤ x0.toInt → n 106 q = gf q) : PM g mX4_manyTo yX4_manyTo (sqPJn (mk T m n r) (fun v => v = sumS gf x1.toInt x0.toInt.toNat (x0.toInt.toNat + 1))) 1 0 0 [.ref 104, .int x0, .int x1] (mk T m n r) := by
  have Kp : fr (wl []) m m := fr.rf
  refine PM.of 4 (lo := [.ref 104, .int x0, .int x1, pv_U, pv_U, pv_U, pv_U]) rfl (by decide) rfl rfl (Nat.le_of_ble_eq_true rfl) ?_
  refine pv_lconst (M := mX4_manyTo) (v := 0) dX4_manyTo_0 1 rfl (by decide) ?_
  refine pv_lstore_n (M := mX4_manyTo) 3 (lo2 := [.ref 104, .int x0, .int x1, .long 0, pv_U, pv_U, pv_U]) dX4_manyTo_1 2 rfl rfl (by decide) rfl rfl ?_
  refine pv_iload_n (M := mX4_manyTo) 2 dX4_manyTo_2 3 rfl rfl rfl ?_
  refine pv_iconst (M := mX4_manyTo) (v := 1) dX4_manyTo_3 4 rfl (by decide) ?_
  refine iv_max (M := mX4_manyTo) (X := x1.toInt) (Y := 1) dX4_manyTo_4 wd844 Wmmax (Nat.le_of_ble_eq_true rfl) (by decide) rfl (by decide) 7 rfl (fun v1 ev1 fv1 gv1 => ?_)
  have k7 : v1.toInt = x1.toInt := by omega
  refine pv_istore (M := mX4_manyTo) (lo2 := [.ref 104, .int x0, .int x1, .long 0, pv_U, .int v1, pv_U]) dX4_manyTo_7 9 rfl (by decide) rfl rfl ?_
  refine pv_iload_n (M := mX4_manyTo) 1 dX4_manyTo_9 10 rfl rfl rfl ?_
  refine pv_istore (M := mX4_manyTo) (lo2 := [.ref 104, .int x0, .int x1, .long 0, pv_U, .int v1, .int x0]) dX4_manyTo_10 12 rfl (by decide) rfl rfl ?_
  have lp10 : ∀ (fuel9 : Nat) (y3 : Int64) (y4 : Int32), (-9 ≤ y4.toInt) → (y4.toInt ≤ 40) → (y4.toInt ≤ x0.toInt) → ((y3 : Int64) + sumS gf x1.toInt x0.toInt.toNat (y4.toInt + 1).toNat = sumS gf x1.toInt x0.toInt.toNat (x0.toInt.toNat + 1)) → ((((x0.toInt.toNat : Nat) : Int) - y4.toInt) % x1.toInt = 0) → ((y4.toInt + 10) : Int).toNat < fuel9 → PV none g mX4_manyTo (sqPJn (mk T m n r) (fun v => v = sumS gf x1.toInt x0.toInt.toNat (x0.toInt.toNat + 1))) 1 0 0 12 [.ref 104, .int x0, .int x1, .long y3, pv_U, .int v1, .int y4] [] (mk T m n r) := by
    intro fuel9
    induction fuel9 with
    | zero => intro y3 y4 b12 b13 b14 b15 b16 z17; omega
    | succ fuel9 ih11 =>
      intro y3 y4 b12 b13 b14 b15 b16 z17
      have kg12 := (show (y3 : Int64) + sumS gf x1.toInt x0.toInt.toNat (y4.toInt + 1).toNat = sumS gf x1.toInt x0.toInt.toNat (x0.toInt.toNat + 1) by assumption)
      have kg12m := (show (((x0.toInt.toNat : Nat) : Int) - y4.toInt) % x1.toInt = 0 by assumption)
      refine pv_iload (M := mX4_manyTo) dX4_manyTo_12 14 rfl rfl ?_
      refine pv_if_lt (M := mX4_manyTo) (tgt := 37) dX4_manyTo_14 17 rfl (by decide) (fun c20 => ?_) (fun c20 => ?_)
      · have c20 := iv_lt (X := y4.toInt) (Y := 0) c20 rfl (by decide)
        refine pv_lload_n (M := mX4_manyTo) 3 dX4_manyTo_37 38 rfl rfl rfl ?_
        exact pv_lret (M := mX4_manyTo) dX4_manyTo_38 rfl ⟨_, rfl, rfl, (by (try dsimp only); have q := kg12; rw [show (y4.toInt + 1).toNat = 0 by omega, sumS_0, Int64.add_zero] at q; exact q)⟩
      · have c20 := iv_nlt (X := y4.toInt) (Y := 0) c20 rfl (by decide)
        refine pv_lload_n (M := mX4_manyTo) 3 dX4_manyTo_17 18 rfl rfl rfl ?_
        refine pv_aload_n (M := mX4_manyTo) 0 dX4_manyTo_18 19 rfl rfl rfl ?_
        refine mv_get (M := mX4_manyTo) (v := .ref 106) dX4_manyTo_19 FX4 1 wd333 (by decide) (tl104 hT) rfl rfl 22 rfl ?_
        refine pv_iload (M := mX4_manyTo) dX4_manyTo_22 24 rfl rfl ?_
        refine iv_lald (M := mX4_manyTo) (X := y4.toInt) dX4_manyTo_24 (tl106 hT) rfl (by omega) (by omega) 25 rfl (fun v21 ev21 => ?_)
        have k25 : v21 = gf y4.toInt.toNat := by rw [ev21]; exact hp0 _ (by omega)
        refine iv_addJ (M := mX4_manyTo) dX4_manyTo_25 26 rfl (fun v23 ev23 => ?_)
        have k26 := ev23
        refine pv_lstore_n (M := mX4_manyTo) 3 (lo2 := [.ref 104, .int x0, .int x1, .long v23, pv_U, .int v1, .int y4]) dX4_manyTo_26 27 rfl rfl (by decide) rfl rfl ?_
        refine pv_iload (M := mX4_manyTo) dX4_manyTo_27 29 rfl rfl ?_
        refine pv_iload (M := mX4_manyTo) dX4_manyTo_29 31 rfl rfl ?_
        refine iv_isub (M := mX4_manyTo) (X := y4.toInt) (Y := v1.toInt) dX4_manyTo_31 32 rfl rfl rfl (by omega) (by omega) (fun v25 ev25 => ?_)
        refine pv_istore (M := mX4_manyTo) (lo2 := [.ref 104, .int x0, .int x1, .long v23, pv_U, .int v1, .int v25]) dX4_manyTo_32 34 rfl (by decide) rfl rfl ?_
        refine pv_goto (M := mX4_manyTo) (tgt := 12) dX4_manyTo_34 (by decide) ?_
        have kb12 : (v23 : Int64) + sumS gf x1.toInt x0.toInt.toNat (v25.toInt + 1).toNat = sumS gf x1.toInt x0.toInt.toNat (x0.toInt.toNat + 1) := sumS_c (by omega) (by omega) (by omega) kg12m kg12 k25 k26 (by omega)
        have kb12m : (((x0.toInt.toNat : Nat) : Int) - v25.toInt) % x1.toInt = 0 := by have q := sumS_m kg12m; rw [show v25.toInt = y4.toInt - x1.toInt by omega]; exact q
        exact ih11 v23 v25 (by first | omega | assumption | exact (iv_rng _).2 | exact (iv_rng _).1 | decide) (by first | omega | assumption | exact (iv_rng _).2 | exact (iv_rng _).1 | decide) (by first | omega | assumption | (show v25.toInt ≤ x0.toInt; omega) | decide) kb12 kb12m (by omega)
  have k12i : (0 : Int64) + sumS gf x1.toInt x0.toInt.toNat (x0.toInt + 1).toNat = sumS gf x1.toInt x0.toInt.toNat (x0.toInt.toNat + 1) := by rw [Int64.zero_add, show (x0.toInt + 1).toNat = x0.toInt.toNat + 1 by omega]
  have k12m : (((x0.toInt.toNat : Nat) : Int) - x0.toInt) % x1.toInt = 0 := by rw [show ((x0.toInt.toNat : Nat) : Int) - x0.toInt = 0 by omega]; exact Int.zero_emod _
  exact lp10 (((x0.toInt + 10) : Int).toNat + 1) 0 x0 (by first | omega | assumption | exact (iv_rng _).2 | exact (iv_rng _).1 | decide) (by first | omega | assumption | exact (iv_rng _).2 | exact (iv_rng _).1 | decide) (by first | omega | assumption | (show x0.toInt ≤ x0.toInt; omega) | decide) k12i k12m (by omega)

set_option maxHeartbeats 2000000 in
set_option maxRecDepth 20000 in
theorem s_J7_fill_d0a16_vn (g : pv_G) {T : List mv_T} {m : Nat → Nat → Int32} {n : Nat → Nat → Int64} {r : Nat → Value} (hT : TX T) (I : IV BB m) (a0 ln0 : Nat) (ha0 : T[a0]? = some (.inl (2, ln0)) ∧ ln0 ≤ 30000) (x1 : Int64) : PM g mJ7_fill_d0a16 yJ7_fill_d0a16 (sqVn T BB (wl []) r m (fun m' n' => ∀ j : Nat, j < ln0 → n' a0 j = x1)) 1 0 0 [.ref a0, .long x1] (mk T m n r) := by
  have Kp : fr (wl []) m m := fr.rf
  have zl0 := ha0.2
  refine PM.of 2 (lo := [.ref a0, .long x1, pv_U, pv_U, pv_U]) rfl (by decide) rfl rfl (Nat.le_of_ble_eq_true rfl) ?_
  refine pv_iconst (M := mJ7_fill_d0a16) (v := 0) dJ7_fill_d0a16_0 1 rfl (by decide) ?_
  refine pv_istore_n (M := mJ7_fill_d0a16) 3 (lo2 := [.ref a0, .long x1, pv_U, .int 0, pv_U]) dJ7_fill_d0a16_1 2 rfl rfl (by decide) rfl rfl ?_
  refine pv_aload_n (M := mJ7_fill_d0a16) 0 dJ7_fill_d0a16_2 3 rfl rfl rfl ?_
  refine iv_alen2 (M := mJ7_fill_d0a16) dJ7_fill_d0a16_3 ha0.1 (by omega) 4 rfl (fun v1 ev1 => ?_)
  refine pv_istore (M := mJ7_fill_d0a16) (lo2 := [.ref a0, .long x1, pv_U, .int 0, .int v1]) dJ7_fill_d0a16_4 6 rfl (by decide) rfl rfl ?_
  have lp8 : ∀ (fuel7 : Nat) (y2 : Int32) (m3 : Nat → Nat → Int32) (n4 : Nat → Nat → Int64), (0 ≤ y2.toInt) → (y2.toInt ≤ 30000) → (∀ j : Nat, (j : Int) < y2.toInt → n4 a0 j = x1) → IV BB m3 → fr (wl []) m m3 → ((30000 - y2.toInt) : Int).toNat < fuel7 → PV none g mJ7_fill_d0a16 (sqVn T BB (wl []) r m (fun m' n' => ∀ j : Nat, j < ln0 → n' a0 j = x1)) 1 0 0 6 [.ref a0, .long x1, pv_U, .int y2, .int v1] [] (mk T m3 n4 r) := by
    intro fuel7
    induction fuel7 with
    | zero => intro y2 m3 n4 b10 b11 b12 I5 K6 z13; omega
    | succ fuel7 ih9 =>
      intro y2 m3 n4 b10 b11 b12 I5 K6 z13
      have kg6 := (show ∀ j : Nat, (j : Int) < y2.toInt → n4 a0 j = x1 by assumption)
      refine pv_iload_n (M := mJ7_fill_d0a16) 3 dJ7_fill_d0a16_6 7 rfl rfl rfl ?_
      refine pv_iload (M := mJ7_fill_d0a16) dJ7_fill_d0a16_7 9 rfl rfl ?_
      refine pv_icmp_ge (M := mJ7_fill_d0a16) (tgt := 22) dJ7_fill_d0a16_9 12 rfl (by decide) (fun c15 => ?_) (fun c15 => ?_)
      · have c15 := iv_le (X := v1.toInt) (Y := y2.toInt) c15 rfl rfl
        exact pv_vret (M := mJ7_fill_d0a16) dJ7_fill_d0a16_22 rfl ⟨_, _, rfl, rfl, I5, K6, (fun j hj => kg6 j (by omega))⟩
      · have c15 := iv_nle (X := v1.toInt) (Y := y2.toInt) c15 rfl rfl
        refine pv_aload_n (M := mJ7_fill_d0a16) 0 dJ7_fill_d0a16_12 13 rfl rfl rfl ?_
        refine pv_iload_n (M := mJ7_fill_d0a16) 3 dJ7_fill_d0a16_13 14 rfl rfl rfl ?_
        refine pv_lload_n (M := mJ7_fill_d0a16) 1 dJ7_fill_d0a16_14 15 rfl rfl rfl ?_
        refine iv_last (M := mJ7_fill_d0a16) (X := y2.toInt) dJ7_fill_d0a16_15 ha0.1 rfl (by omega) (by omega) 16 rfl (fun n16 en16 => ?_)
        refine iv_inc (M := mJ7_fill_d0a16) (C := 1) dJ7_fill_d0a16_16 19 rfl rfl (by decide) rfl rfl (by decide) (by omega) (by omega) (fun v17 ev17 => ?_)
        show PV _ _ _ _ _ _ _ 19 [.ref a0, .long x1, pv_U, .int v17, .int v1] [] _
        refine pv_goto (M := mJ7_fill_d0a16) (tgt := 6) dJ7_fill_d0a16_19 (by decide) ?_
        have kb6 : ∀ j : Nat, (j : Int) < v17.toInt → n16 a0 j = x1 := fun j hj => by rw [en16]; by_cases z : j = (y2.toInt).toNat; (rw [z]; exact upg_at (by omega)); (rw [up2_ne (fun q => z (by have q2 := q.2; omega))]; exact kg6 j (by omega))
        exact ih9 v17 m3 n16 (by first | omega | assumption | exact (iv_rng _).2 | exact (iv_rng _).1 | decide) (by first | omega | assumption | exact (iv_rng _).2 | exact (iv_rng _).1 | decide) kb6 I5 K6 (by omega)
  have z19 : (0 : Int32).toInt = 0 := by decide
  exact lp8 (((30000 - 0) : Int).toNat + 1) 0 m n (by first | omega | assumption | exact (iv_rng _).2 | exact (iv_rng _).1 | decide) (by first | omega | assumption | exact (iv_rng _).2 | exact (iv_rng _).1 | decide) (fun j hj => by rw [Int32.toInt_zero] at hj; omega) I Kp (by omega)

set_option maxHeartbeats 2000000 in
set_option maxRecDepth 20000 in
theorem s_X4_evenChoices_va (g : pv_G) {T : List mv_T} {m : Nat → Nat → Int32} {n : Nat → Nat → Int64} {r : Nat → Value} (hT : TX T) (I : IV BB m) (a0 : Nat) (ha0 : RowAt T a0 40) (a1 : Nat) (ha1 : RowAt T a1 16) (x2 : Int32) (hl2 : 1 ≤ x2.toInt) (hh2 : x2.toInt ≤ 9) : PM g mX4_evenChoices yX4_evenChoices (sqJn T BB (wl []) r m (fun m' n' v => v = evT (m (a0 + 1)) (m (a1 + 1)) x2.toInt (m a0 1).toInt.toNat (m a1 1).toInt.toNat)) 2 0 0 [.ref 104, .ref a0, .ref a1, .int x2] (mk T m n r) := by
  have Kp : fr (wl []) m m := fr.rf
  have zr0 := ha0.2.2.2.2
  have zr1 := ha1.2.2.2.2
  refine PM.of 2 (lo := [.ref 104, .ref a0, .ref a1, .int x2, pv_U, pv_U]) rfl (by decide) rfl rfl (Nat.le_of_ble_eq_true rfl) ?_
  have kn0 : 0 ≤ (m a0 1).toInt ∧ (m a0 1).toInt ≤ 40 := by have q := I a0 1; rw [ha0.2.2.1] at q; exact q
  have kn1 : 0 ≤ (m a1 1).toInt ∧ (m a1 1).toInt ≤ 16 := by have q := I a1 1; rw [ha1.2.2.1] at q; exact q
  refine pv_aload_n (M := mX4_evenChoices) 0 dX4_evenChoices_0 1 rfl rfl rfl ?_
  refine mv_get (M := mX4_evenChoices) (v := .ref 106) dX4_evenChoices_1 FX4 1 wd333 (by decide) (tl104 hT) rfl rfl 4 rfl ?_
  refine pv_lconst (M := mX4_evenChoices) (v := 0) dX4_evenChoices_4 5 rfl (by decide) ?_
  refine pv_calls (M := mX4_evenChoices) (as := [.ref 106, .long 0]) (st := []) (kc2 := 0) (ks2 := 0) dX4_evenChoices_5 wd837 YJ7_fill_d0a16 wd838 (s_J7_fill_d0a16_vn g hT I 106 41 ⟨(tl106 hT), by decide⟩ 0) rfl rfl (Nat.le_of_ble_eq_true rfl) (by decide) rfl rfl 8 rfl (fun rv h1 q3 => ?_)
  obtain ⟨m4, n5, rfl, rfl, I6, K7, rm4⟩ := q3
  replace rm4 : ∀ j : Nat, j < 41 → n5 106 j = 0 := rm4
  have K7c := K7
  have K7 := Kp.trans (K7.sub (fun _ _ q => q))
  show PV _ _ _ _ _ _ _ 8 [.ref 104, .ref a0, .ref a1, .int x2, pv_U, pv_U] [] _
  have k8 := rm4
  refine pv_aload_n (M := mX4_evenChoices) 0 dX4_evenChoices_8 9 rfl rfl rfl ?_
  refine mv_get (M := mX4_evenChoices) (v := .ref 106) dX4_evenChoices_9 FX4 1 wd333 (by decide) (tl104 hT) rfl rfl 12 rfl ?_
  refine pv_iconst (M := mX4_evenChoices) (v := 0) dX4_evenChoices_12 13 rfl (by decide) ?_
  refine pv_lconst (M := mX4_evenChoices) (v := 1) dX4_evenChoices_13 14 rfl (by decide) ?_
  refine iv_last (M := mX4_evenChoices) (X := 0) dX4_evenChoices_14 (tl106 hT) (by decide) (by omega) (by omega) 15 rfl (fun n9 en9 => ?_)
  have k15 : ∀ k : Nat, k ≤ (m a0 1).toInt.toNat → n9 106 k = mgF (m (a0 + 1)) (m (a1 + 1)) x2.toInt 0 k := fun k hk => by rw [en9, mgF_0]; by_cases z : k = 0; (subst z; rw [upg_at (by rfl), if_pos rfl]); (rw [up2_ne (fun q => z (by have q2 := q.2; omega)), if_neg z, k8 k (by omega)])
  refine pv_iconst (M := mX4_evenChoices) (v := 0) dX4_evenChoices_15 16 rfl (by decide) ?_
  refine pv_istore (M := mX4_evenChoices) (lo2 := [.ref 104, .ref a0, .ref a1, .int x2, .int 0, pv_U]) dX4_evenChoices_16 18 rfl (by decide) rfl rfl ?_
  have lp17 : ∀ (fuel16 : Nat) (y11 : Int32) (m12 : Nat → Nat → Int32) (n13 : Nat → Nat → Int64), (0 ≤ y11.toInt) → (y11.toInt ≤ 16) → (y11.toInt ≤ (m a1 1).toInt) → (∀ k : Nat, k ≤ (m a0 1).toInt.toNat → n13 106 k = mgF (m (a0 + 1)) (m (a1 + 1)) x2.toInt y11.toInt.toNat k) → IV BB m12 → fr (wl []) m m12 → ((16 - y11.toInt) : Int).toNat < fuel16 → PV none g mX4_evenChoices (sqJn T BB (wl []) r m (fun m' n' v => v = evT (m (a0 + 1)) (m (a1 + 1)) x2.toInt (m a0 1).toInt.toNat (m a1 1).toInt.toNat)) 2 0 0 18 [.ref 104, .ref a0, .ref a1, .int x2, .int y11, pv_U] [] (mk T m12 n13 r) := by
    intro fuel16
    induction fuel16 with
    | zero => intro y11 m12 n13 b19 b20 b21 b22 I14 K15 z23; omega
    | succ fuel16 ih18 =>
      intro y11 m12 n13 b19 b20 b21 b22 I14 K15 z23
      have kg18 := (show ∀ k : Nat, k ≤ (m a0 1).toInt.toNat → n13 106 k = mgF (m (a0 + 1)) (m (a1 + 1)) x2.toInt y11.toInt.toNat k by assumption)
      have ks0 : (m12 a0 1).toInt = (m a0 1).toInt := congrArg Int32.toInt (K15 a0 1 rfl)
      have ks1 : (m12 a1 1).toInt = (m a1 1).toInt := congrArg Int32.toInt (K15 a1 1 rfl)
      refine pv_iload (M := mX4_evenChoices) dX4_evenChoices_18 20 rfl rfl ?_
      refine pv_aload_n (M := mX4_evenChoices) 2 dX4_evenChoices_20 21 rfl rfl rfl ?_
      refine iv_get (M := mX4_evenChoices) (l1 := 0) (l2 := 16) dX4_evenChoices_21 FX8 1 wd198 (by decide) ha1.1 rfl I14 ha1.2.2.1 24 rfl (fun v27 ev27 pv27 qv27 => ?_)
      have wv27 : v27.toInt = (m12 a1 1).toInt := congrArg Int32.toInt ev27
      refine pv_icmp_ge (M := mX4_evenChoices) (tgt := 96) dX4_evenChoices_24 27 rfl (by decide) (fun c28 => ?_) (fun c28 => ?_)
      · have c28 := iv_le (X := v27.toInt) (Y := y11.toInt) c28 rfl rfl
        refine pv_aload_n (M := mX4_evenChoices) 0 dX4_evenChoices_96 97 rfl rfl rfl ?_
        refine pv_aload_n (M := mX4_evenChoices) 1 dX4_evenChoices_97 98 rfl rfl rfl ?_
        refine iv_get (M := mX4_evenChoices) (l1 := 0) (l2 := 40) dX4_evenChoices_98 FX8 1 wd198 (by decide) ha0.1 rfl I14 ha0.2.2.1 101 rfl (fun v29 ev29 pv29 qv29 => ?_)
        have wv29 : v29.toInt = (m12 a0 1).toInt := congrArg Int32.toInt ev29
        refine pv_iload_n (M := mX4_evenChoices) 3 dX4_evenChoices_101 102 rfl rfl rfl ?_
        have k102n : v29.toInt.toNat = (m a0 1).toInt.toNat := by omega
        have k102 : ∀ q : Nat, (q : Int) ≤ v29.toInt → n13 106 q = mgF (m (a0 + 1)) (m (a1 + 1)) x2.toInt y11.toInt.toNat q := fun q hq => kg18 q (by omega)
        refine pv_callv (M := mX4_evenChoices) (as := [.int v29, .int x2]) (st := []) (kc2 := 0) (ks2 := 0) dX4_evenChoices_102 wd840 YX4_manyTo ⟨wd842, wd26⟩ (mk_get (tl104 hT)) rfl rfl (s_X4_manyTo_va g hT I14 v29 (by omega) (by omega) x2 (by omega) (by omega) (mgF (m (a0 + 1)) (m (a1 + 1)) x2.toInt y11.toInt.toNat) k102) rfl rfl (Nat.le_of_ble_eq_true rfl) (by decide) rfl rfl 105 rfl (fun rv h1 q32 => ?_)
        obtain ⟨v33, rfl, rfl, rv33⟩ := q32
        replace rv33 : v33 = sumS (mgF (m (a0 + 1)) (m (a1 + 1)) x2.toInt y11.toInt.toNat) x2.toInt v29.toInt.toNat (v29.toInt.toNat + 1) := rv33
        show PV _ _ _ _ _ _ _ 105 [.ref 104, .ref a0, .ref a1, .int x2, .int y11, pv_U] [.long v33] _
        have k105 := rv33
        rw [k102n, show y11.toInt.toNat = (m a1 1).toInt.toNat by omega] at k105
        exact pv_lret (M := mX4_evenChoices) dX4_evenChoices_105 rfl ⟨_, _, _, rfl, rfl, I14, K15, k105⟩
      · have c28 := iv_nle (X := v27.toInt) (Y := y11.toInt) c28 rfl rfl
        refine pv_aload_n (M := mX4_evenChoices) 1 dX4_evenChoices_27 28 rfl rfl rfl ?_
        refine iv_get (M := mX4_evenChoices) (l1 := 0) (l2 := 40) dX4_evenChoices_28 FX8 1 wd198 (by decide) ha0.1 rfl I14 ha0.2.2.1 31 rfl (fun v36 ev36 pv36 qv36 => ?_)
        have wv36 : v36.toInt = (m12 a0 1).toInt := congrArg Int32.toInt ev36
        refine pv_iconst (M := mX4_evenChoices) (v := 1) dX4_evenChoices_31 32 rfl (by decide) ?_
        refine iv_isub (M := mX4_evenChoices) (X := v36.toInt) (Y := 1) dX4_evenChoices_32 33 rfl rfl (by decide) (by omega) (by omega) (fun v37 ev37 => ?_)
        refine pv_istore (M := mX4_evenChoices) (lo2 := [.ref 104, .ref a0, .ref a1, .int x2, .int y11, .int v37]) dX4_evenChoices_33 35 rfl (by decide) rfl rfl ?_
        have lp44 : ∀ (fuel43 : Nat) (y38 : Int32) (m39 : Nat → Nat → Int32) (n40 : Nat → Nat → Int64), (-1 ≤ y38.toInt) → (y38.toInt ≤ 39) → (y38.toInt < (m a0 1).toInt) → (EVT n40 (mgF (m (a0 + 1)) (m (a1 + 1)) x2.toInt y11.toInt.toNat) (mgF (m (a0 + 1)) (m (a1 + 1)) x2.toInt (y11.toInt.toNat + 1)) (m a0 1).toInt.toNat (y38.toInt + 1)) → IV BB m39 → fr (wl []) m m39 → ((y38.toInt + 1) : Int).toNat < fuel43 → PV none g mX4_evenChoices (sqJn T BB (wl []) r m (fun m' n' v => v = evT (m (a0 + 1)) (m (a1 + 1)) x2.toInt (m a0 1).toInt.toNat (m a1 1).toInt.toNat)) 2 0 0 35 [.ref 104, .ref a0, .ref a1, .int x2, .int y11, .int y38] [] (mk T m39 n40 r) := by
          intro fuel43
          induction fuel43 with
          | zero => intro y38 m39 n40 b46 b47 b48 b49 I41 K42 z50; omega
          | succ fuel43 ih45 =>
            intro y38 m39 n40 b46 b47 b48 b49 I41 K42 z50
            have kg35 := (show EVT n40 (mgF (m (a0 + 1)) (m (a1 + 1)) x2.toInt y11.toInt.toNat) (mgF (m (a0 + 1)) (m (a1 + 1)) x2.toInt (y11.toInt.toNat + 1)) (m a0 1).toInt.toNat (y38.toInt + 1) by assumption)
            have ks0 : (m39 a0 1).toInt = (m a0 1).toInt := congrArg Int32.toInt (K42 a0 1 rfl)
            have ks1 : (m39 a1 1).toInt = (m a1 1).toInt := congrArg Int32.toInt (K42 a1 1 rfl)
            have kra : ∀ a i, m39 a i = m a i := fun a i => K42 a i rfl
            refine pv_iload (M := mX4_evenChoices) dX4_evenChoices_35 37 rfl rfl ?_
            refine pv_if_lt (M := mX4_evenChoices) (tgt := 83) dX4_evenChoices_37 40 rfl (by decide) (fun c55 => ?_) (fun c55 => ?_)
            · have c55 := iv_lt (X := y38.toInt) (Y := 0) c55 rfl (by decide)
              refine pv_aload_n (M := mX4_evenChoices) 0 dX4_evenChoices_83 84 rfl rfl rfl ?_
              refine mv_get (M := mX4_evenChoices) (v := .ref 106) dX4_evenChoices_84 FX4 1 wd333 (by decide) (tl104 hT) rfl rfl 87 rfl ?_
              refine pv_iconst (M := mX4_evenChoices) (v := 0) dX4_evenChoices_87 88 rfl (by decide) ?_
              refine pv_lconst (M := mX4_evenChoices) (v := 0) dX4_evenChoices_88 89 rfl (by decide) ?_
              refine iv_last (M := mX4_evenChoices) (X := 0) dX4_evenChoices_89 (tl106 hT) (by decide) (by omega) (by omega) 90 rfl (fun n56 en56 => ?_)
              have k90 : ∀ k : Nat, k ≤ (m a0 1).toInt.toNat → n56 106 k = mgF (m (a0 + 1)) (m (a1 + 1)) x2.toInt (y11.toInt.toNat + 1) k := fun k hk => by rw [en56]; by_cases z : k = 0; (subst z; rw [upg_at (by rfl), mgF_z]); (rw [up2_ne (fun q => z (by have q2 := q.2; omega))]; exact (kg35 k hk).1 (by omega))
              refine iv_inc (M := mX4_evenChoices) (C := 1) dX4_evenChoices_90 93 rfl rfl (by decide) rfl rfl (by decide) (by omega) (by omega) (fun v58 ev58 => ?_)
              show PV _ _ _ _ _ _ _ 93 [.ref 104, .ref a0, .ref a1, .int x2, .int v58, .int y38] [] _
              refine pv_goto (M := mX4_evenChoices) (tgt := 18) dX4_evenChoices_93 (by decide) ?_
              refine pv_fg (lo2 := [.ref 104, .ref a0, .ref a1, .int x2, .int v58, pv_U]) ⟨Or.inr rfl, ⟨Or.inr rfl, ⟨Or.inr rfl, ⟨Or.inr rfl, ⟨Or.inr rfl, ⟨Or.inl rfl, trivial⟩⟩⟩⟩⟩⟩ ?_
              have kb18 : ∀ k : Nat, k ≤ (m a0 1).toInt.toNat → n56 106 k = mgF (m (a0 + 1)) (m (a1 + 1)) x2.toInt v58.toInt.toNat k := by rw [show v58.toInt.toNat = (y11.toInt).toNat + 1 by omega]; exact k90
              exact ih18 v58 m39 n56 (by first | omega | assumption | exact (iv_rng _).2 | exact (iv_rng _).1 | decide) (by first | omega | assumption | exact (iv_rng _).2 | exact (iv_rng _).1 | decide) (by first | omega | assumption | (show v58.toInt ≤ (m a1 1).toInt; omega) | decide) kb18 I41 K42 (by omega)
            · have c55 := iv_nlt (X := y38.toInt) (Y := 0) c55 rfl (by decide)
              refine pv_aload_n (M := mX4_evenChoices) 0 dX4_evenChoices_40 41 rfl rfl rfl ?_
              refine mv_get (M := mX4_evenChoices) (v := .ref 106) dX4_evenChoices_41 FX4 1 wd333 (by decide) (tl104 hT) rfl rfl 44 rfl ?_
              refine pv_iload (M := mX4_evenChoices) dX4_evenChoices_44 46 rfl rfl ?_
              refine pv_iconst (M := mX4_evenChoices) (v := 1) dX4_evenChoices_46 47 rfl (by decide) ?_
              refine iv_iadd (M := mX4_evenChoices) (X := y38.toInt) (Y := 1) dX4_evenChoices_47 48 rfl rfl (by decide) (by omega) (by omega) (fun v60 ev60 => ?_)
              refine pv_aload_n (M := mX4_evenChoices) 1 dX4_evenChoices_48 49 rfl rfl rfl ?_
              refine mv_get (M := mX4_evenChoices) (v := .ref (a0 + 1)) dX4_evenChoices_49 FX8 0 wd189 (by decide) ha0.1 rfl rfl 52 rfl ?_
              refine pv_iload (M := mX4_evenChoices) dX4_evenChoices_52 54 rfl rfl ?_
              refine iv_iald (M := mX4_evenChoices) (X := y38.toInt) (l1 := (-2147483648)) (l2 := 2147483647) dX4_evenChoices_54 ha0.2.1 rfl (by omega) (by omega) I41 ha0.2.2.2.1 55 rfl (fun v61 ev61 pv61 qv61 => ?_)
              have k55 : v61 = m (a0 + 1) y38.toInt.toNat := ev61.trans (kra _ _)
              refine pv_aload_n (M := mX4_evenChoices) 2 dX4_evenChoices_55 56 rfl rfl rfl ?_
              refine mv_get (M := mX4_evenChoices) (v := .ref (a1 + 1)) dX4_evenChoices_56 FX8 0 wd189 (by decide) ha1.1 rfl rfl 59 rfl ?_
              refine pv_iload (M := mX4_evenChoices) dX4_evenChoices_59 61 rfl rfl ?_
              refine iv_iald (M := mX4_evenChoices) (X := y11.toInt) (l1 := (-2147483648)) (l2 := 2147483647) dX4_evenChoices_61 ha1.2.1 rfl (by omega) (by omega) I41 ha1.2.2.2.1 62 rfl (fun v63 ev63 pv63 qv63 => ?_)
              have k62 : v63 = m (a1 + 1) y11.toInt.toNat := ev63.trans (kra _ _)
              refine pv_icmp_ne (M := mX4_evenChoices) (tgt := 75) dX4_evenChoices_62 65 rfl (by decide) (fun c65 => ?_) (fun c65 => ?_)
              · have c65 := iv_ne (X := v61.toInt) (Y := v63.toInt) c65 rfl rfl
                refine pv_lconst (M := mX4_evenChoices) (v := 0) dX4_evenChoices_75 76 rfl (by decide) ?_
                have k76 : (0 : Int64) = mgF (m (a0 + 1)) (m (a1 + 1)) x2.toInt (y11.toInt.toNat + 1) (y38.toInt.toNat + 1) := by first | exact k72.trans (mgF_y (by rw [← k55, ← k62]; exact i_eq (by omega))).symm | exact (mgF_n (fun q => by rw [← k55, ← k62] at q; have q1 := congrArg Int32.toInt q; omega)).symm
                refine iv_last (M := mX4_evenChoices) (X := v60.toInt) dX4_evenChoices_76 (tl106 hT) rfl (by omega) (by omega) 77 rfl (fun n67 en67 => ?_)
                have k77 := (en67).trans (upg_ix (j := y38.toInt.toNat + 1) (by omega))
                refine iv_inc (M := mX4_evenChoices) (C := (-1)) dX4_evenChoices_77 80 rfl rfl (by decide) rfl rfl (by decide) (by omega) (by omega) (fun v69 ev69 => ?_)
                show PV _ _ _ _ _ _ _ 80 [.ref 104, .ref a0, .ref a1, .int x2, .int y11, .int v69] [] _
                refine pv_goto (M := mX4_evenChoices) (tgt := 35) dX4_evenChoices_80 (by decide) ?_
                have kb35 : EVT n67 (mgF (m (a0 + 1)) (m (a1 + 1)) x2.toInt y11.toInt.toNat) (mgF (m (a0 + 1)) (m (a1 + 1)) x2.toInt (y11.toInt.toNat + 1)) (m a0 1).toInt.toNat (v69.toInt + 1) := EVT_s kg35 k77 (by omega) k76 (by omega)
                exact ih45 v69 m39 n67 (by first | omega | assumption | exact (iv_rng _).2 | exact (iv_rng _).1 | decide) (by first | omega | assumption | exact (iv_rng _).2 | exact (iv_rng _).1 | decide) (by first | omega | assumption | (show v69.toInt < (m a0 1).toInt; omega) | decide) kb35 I41 K42 (by omega)
              · have c65 := iv_eq (X := v61.toInt) (Y := v63.toInt) c65 rfl rfl
                refine pv_aload_n (M := mX4_evenChoices) 0 dX4_evenChoices_65 66 rfl rfl rfl ?_
                refine pv_iload (M := mX4_evenChoices) dX4_evenChoices_66 68 rfl rfl ?_
                refine pv_iload_n (M := mX4_evenChoices) 3 dX4_evenChoices_68 69 rfl rfl rfl ?_
                have k69 : ∀ q : Nat, (q : Int) ≤ y38.toInt → n40 106 q = mgF (m (a0 + 1)) (m (a1 + 1)) x2.toInt y11.toInt.toNat q := fun q hq => (kg35 q (by omega)).2 (by omega)
                refine pv_callv (M := mX4_evenChoices) (as := [.int y38, .int x2]) (st := [.int v60, .ref 106]) (kc2 := 0) (ks2 := 0) dX4_evenChoices_69 wd840 YX4_manyTo ⟨wd842, wd26⟩ (mk_get (tl104 hT)) rfl rfl (s_X4_manyTo_va g hT I41 y38 (by omega) (by omega) x2 (by omega) (by omega) (mgF (m (a0 + 1)) (m (a1 + 1)) x2.toInt y11.toInt.toNat) k69) rfl rfl (Nat.le_of_ble_eq_true rfl) (by decide) rfl rfl 72 rfl (fun rv h1 q72 => ?_)
                obtain ⟨v73, rfl, rfl, rv73⟩ := q72
                replace rv73 : v73 = sumS (mgF (m (a0 + 1)) (m (a1 + 1)) x2.toInt y11.toInt.toNat) x2.toInt y38.toInt.toNat (y38.toInt.toNat + 1) := rv73
                show PV _ _ _ _ _ _ _ 72 [.ref 104, .ref a0, .ref a1, .int x2, .int y11, .int y38] [.long v73, .int v60, .ref 106] _
                have k72 := rv73
                refine pv_goto (M := mX4_evenChoices) (tgt := 76) dX4_evenChoices_72 (by decide) ?_
                have k76 : (v73 : Int64) = mgF (m (a0 + 1)) (m (a1 + 1)) x2.toInt (y11.toInt.toNat + 1) (y38.toInt.toNat + 1) := by first | exact k72.trans (mgF_y (by rw [← k55, ← k62]; exact i_eq (by omega))).symm | exact (mgF_n (fun q => by rw [← k55, ← k62] at q; have q1 := congrArg Int32.toInt q; omega)).symm
                refine iv_last (M := mX4_evenChoices) (X := v60.toInt) dX4_evenChoices_76 (tl106 hT) rfl (by omega) (by omega) 77 rfl (fun n76 en76 => ?_)
                have k77 := (en76).trans (upg_ix (j := y38.toInt.toNat + 1) (by omega))
                refine iv_inc (M := mX4_evenChoices) (C := (-1)) dX4_evenChoices_77 80 rfl rfl (by decide) rfl rfl (by decide) (by omega) (by omega) (fun v78 ev78 => ?_)
                show PV _ _ _ _ _ _ _ 80 [.ref 104, .ref a0, .ref a1, .int x2, .int y11, .int v78] [] _
                refine pv_goto (M := mX4_evenChoices) (tgt := 35) dX4_evenChoices_80 (by decide) ?_
                have kb35 : EVT n76 (mgF (m (a0 + 1)) (m (a1 + 1)) x2.toInt y11.toInt.toNat) (mgF (m (a0 + 1)) (m (a1 + 1)) x2.toInt (y11.toInt.toNat + 1)) (m a0 1).toInt.toNat (v78.toInt + 1) := EVT_s kg35 k77 (by omega) k76 (by omega)
                exact ih45 v78 m39 n76 (by first | omega | assumption | exact (iv_rng _).2 | exact (iv_rng _).1 | decide) (by first | omega | assumption | exact (iv_rng _).2 | exact (iv_rng _).1 | decide) (by first | omega | assumption | (show v78.toInt < (m a0 1).toInt; omega) | decide) kb35 I41 K42 (by omega)
        have kin35 : EVT n13 (mgF (m (a0 + 1)) (m (a1 + 1)) x2.toInt y11.toInt.toNat) (mgF (m (a0 + 1)) (m (a1 + 1)) x2.toInt (y11.toInt.toNat + 1)) (m a0 1).toInt.toNat (v37.toInt + 1) := fun k hk => ⟨fun q => by exfalso; omega, fun _ => kg18 k hk⟩
        exact lp44 (((v37.toInt + 1) : Int).toNat + 1) v37 m12 n13 (by first | omega | assumption | exact (iv_rng _).2 | exact (iv_rng _).1 | decide) (by first | omega | assumption | exact (iv_rng _).2 | exact (iv_rng _).1 | decide) (by first | omega | assumption | (show v37.toInt < (m a0 1).toInt; omega) | decide) kin35 I14 K15 (by omega)
  have z81 : (0 : Int32).toInt = 0 := by decide
  have k18s : ∀ k : Nat, k ≤ (m a0 1).toInt.toNat → n9 106 k = mgF (m (a0 + 1)) (m (a1 + 1)) x2.toInt (0 : Int32).toInt.toNat k := by rw [show (0 : Int32).toInt.toNat = 0 from (by decide)]; exact k15
  exact lp17 (((16 - 0) : Int).toNat + 1) 0 m4 n9 (by first | omega | assumption | exact (iv_rng _).2 | exact (iv_rng _).1 | decide) (by first | omega | assumption | exact (iv_rng _).2 | exact (iv_rng _).1 | decide) (by first | omega | assumption | (show 0 ≤ (m a1 1).toInt; omega) | decide) k18s I6 K7 (by omega)

set_option maxHeartbeats 2000000 in
set_option maxRecDepth 20000 in
theorem s_X11_ways_va (g : pv_G) {T : List mv_T} {m : Nat → Nat → Int32} {n : Nat → Nat → Int64} {r : Nat → Value} {la lb : Nat} (hT : TX T) (I : IV BB m) (R : RX T r la lb) (x0 : Int32) (x1 : Int32) : PM g mX11_ways yX11_ways (sqJn T BB wN r m (fun m' n' v => EVF ((0 ≤ x0.toInt ∧ x0.toInt < (m 0 2).toInt) ∧ (ddv m x1).toInt = 1 ∧ True) (evT (m (4 + 7 * x0.toInt.toNat + 4)) (m (62 + 2 * x1.toInt.toNat)) (1 : Int) (m (4 + 7 * x0.toInt.toNat + 3) 1).toInt.toNat (m (61 + 2 * x1.toInt.toNat) 1).toInt.toNat) v)) 3 0 0 [.ref 0, .int x0, .int x1] (mk T m n r) := by
  have Kp : fr wN m m := fr.rf
  have R0 := R
  have zR := R.2.2.2.2.1.1
  have zR2 := R.2.2.2.2.2.1
  refine PM.of 0 (lo := [.ref 0, .int x0, .int x1]) rfl (by decide) rfl rfl (Nat.le_of_ble_eq_true rfl) ?_
  refine pv_aload_n (M := mX11_ways) 0 dX11_ways_0 1 rfl rfl rfl ?_
  refine pv_iload_n (M := mX11_ways) 1 dX11_ways_1 2 rfl rfl rfl ?_
  refine pv_callv (M := mX11_ways) (as := [.int x0]) (st := []) (kc2 := 0) (ks2 := 0) dX11_ways_2 wd700 YX11_isBlank ⟨wd702, wd16⟩ (mk_get (tl0 hT)) rfl rfl (s_X11_isBlank_vx g hT I R x0) rfl rfl (Nat.le_of_ble_eq_true rfl) (by decide) rfl rfl 5 rfl (fun rv h1 q1 => ?_)
  obtain ⟨v2, rfl, rfl, pv2, qv2, rv2⟩ := q1
  replace rv2 : (v2 = 0 ∨ (0 ≤ x0.toInt ∧ x0.toInt ≤ 7)) ∧ ((v2.toInt = 1 ∧ 0 ≤ x0.toInt ∧ x0.toInt < (m 0 2).toInt) ∨ (v2.toInt = 0 ∧ (x0.toInt < 0 ∨ (m 0 2).toInt ≤ x0.toInt))) := rv2
  show PV _ _ _ _ _ _ _ 5 [.ref 0, .int x0, .int x1] [.int v2] _
  have k5 := rv2.2
  refine pv_if_eq (M := mX11_ways) (tgt := 16) dX11_ways_5 8 rfl (by decide) (fun c4 => ?_) (fun c4 => ?_)
  · have c4 := iv_eq (X := v2.toInt) (Y := 0) c4 rfl (by decide)
    refine pv_ldc2 (M := mX11_ways) (v := (-1)) dX11_ways_16 19 rfl wd832 ?_
    exact pv_lret (M := mX11_ways) dX11_ways_19 rfl ⟨_, _, _, rfl, rfl, I, Kp, (Or.inl ⟨fun q => by have q1 := q.1; have q2 := q.2.1; have q3 := q.2.2; omega, rfl⟩)⟩
  · have pc4 := rv2.1.resolve_left c4
    have c4 := iv_ne (X := v2.toInt) (Y := 0) c4 rfl (by decide)
    refine pv_aload_n (M := mX11_ways) 0 dX11_ways_8 9 rfl rfl rfl ?_
    refine pv_iload_n (M := mX11_ways) 2 dX11_ways_9 10 rfl rfl rfl ?_
    refine pv_callv (M := mX11_ways) (as := [.int x1]) (st := []) (kc2 := 0) (ks2 := 0) dX11_ways_10 wd828 YX11_isDeed ⟨wd830, wd25⟩ (mk_get (tl0 hT)) rfl rfl (s_X11_isDeed g hT I R x1) rfl rfl (Nat.le_of_ble_eq_true rfl) (by decide) rfl rfl 13 rfl (fun rv h1 q5 => ?_)
    obtain ⟨v6, rfl, rfl, pv6, qv6, rv6⟩ := q5
    replace rv6 : (v6 = 0 ∨ (0 ≤ x1.toInt ∧ x1.toInt ≤ 7)) ∧ v6 = ddv m x1 := rv6
    show PV _ _ _ _ _ _ _ 13 [.ref 0, .int x0, .int x1] [.int v6] _
    have k13 := rv6.2
    have k13d : (ddv m x1).toInt = v6.toInt := congrArg Int32.toInt rv6.2.symm
    refine pv_if_ne (M := mX11_ways) (tgt := 20) dX11_ways_13 16 rfl (by decide) (fun c9 => ?_) (fun c9 => ?_)
    · have pc9 := rv6.1.resolve_left c9
      have c9 := iv_ne (X := v6.toInt) (Y := 0) c9 rfl (by decide)
      have kdd : 0 ≤ x1.toInt ∧ x1.toInt ≤ 7 ∧ 0 < (m (61 + 2 * x1.toInt.toNat) 1).toInt := ddv_1 (by omega)
      have kn0 : 0 ≤ (m (4 + 7 * x0.toInt.toNat + 3) 1).toInt ∧ (m (4 + 7 * x0.toInt.toNat + 3) 1).toInt ≤ 40 := by have q := I (4 + 7 * x0.toInt.toNat + 3) 1; rw [BB_rest (b := x0.toInt.toNat) (by omega)] at q; exact q
      refine pv_aload_n (M := mX11_ways) 0 dX11_ways_20 21 rfl rfl rfl ?_
      refine mv_get (M := mX11_ways) (v := .ref 104) dX11_ways_21 FX11 9 wd416 (by decide) (tl0 hT) rfl rfl 24 rfl ?_
      refine pv_aload_n (M := mX11_ways) 0 dX11_ways_24 25 rfl rfl rfl ?_
      refine mv_get (M := mX11_ways) (v := .ref 3) dX11_ways_25 FX11 1 wd408 (by decide) (tl0 hT) rfl rfl 28 rfl ?_
      refine pv_iload_n (M := mX11_ways) 1 dX11_ways_28 29 rfl rfl rfl ?_
      refine iv_qblank (M := mX11_ways) (X := x0.toInt) dX11_ways_29 hT R rfl (by omega) (by omega) 30 rfl (fun b12 eb12 hb12 => ?_)
      have zb12 := hb12.2.2.2.2.2.2.2
      refine mv_get (M := mX11_ways) (v := .ref (b12 + 3)) dX11_ways_30 FX0 1 wd210 (by decide) hb12.1 rfl rfl 33 rfl ?_
      refine pv_aload_n (M := mX11_ways) 0 dX11_ways_33 34 rfl rfl rfl ?_
      refine mv_get (M := mX11_ways) (v := .ref 60) dX11_ways_34 FX11 3 wd410 (by decide) (tl0 hT) rfl rfl 37 rfl ?_
      refine pv_iload_n (M := mX11_ways) 2 dX11_ways_37 38 rfl rfl rfl ?_
      refine iv_qdeed (M := mX11_ways) (X := x1.toInt) dX11_ways_38 hT R rfl (by omega) (by omega) 39 rfl (fun b13 eb13 hb13 => ?_)
      have zb13 := hb13.2.2.2.2
      refine pv_iconst (M := mX11_ways) (v := 1) dX11_ways_39 40 rfl (by decide) ?_
      have kba : (b12 + 3) = 4 + 7 * x0.toInt.toNat + 3 := by omega
      have kbd : b13 = 61 + 2 * x1.toInt.toNat := by omega
      have z16 : (1 : Int32).toInt = 1 := by decide
      refine pv_callv (M := mX11_ways) (as := [.ref (b12 + 3), .ref b13, .int 1]) (st := []) (kc2 := 0) (ks2 := 0) dX11_ways_40 wd833 YX4_evenChoices ⟨wd834, wd835⟩ (mk_get (tl104 hT)) rfl rfl (s_X4_evenChoices_va g hT I (b12 + 3) hb12.2.2.1 b13 hb13 1 (by decide) (by decide)) rfl rfl (Nat.le_of_ble_eq_true rfl) (by decide) rfl rfl 43 rfl (fun rv h1 q17 => ?_)
      obtain ⟨m18, n19, v22, rfl, rfl, I20, K21, rm18⟩ := q17
      replace rm18 : v22 = evT (m ((b12 + 3) + 1)) (m (b13 + 1)) (1 : Int) (m (b12 + 3) 1).toInt.toNat (m b13 1).toInt.toNat := by have q_ := rm18; (try rw [z16] at q_); exact q_
      have K21c := K21
      have K21 := Kp.trans (K21.sub (by first | exact wg_l (by decide) | exact wg_g (by decide) | exact WX_wg | exact la7_wg zR (by decide) | exact wS_wg zR (by decide) | exact wsL_wg zR (by decide)))
      show PV _ _ _ _ _ _ _ 43 [.ref 0, .int x0, .int x1] [.long v22] _
      have kz := rm18
      rw [kba, kbd] at kz
      rw [show m (4 + 7 * x0.toInt.toNat + 3 + 1) = m (4 + 7 * x0.toInt.toNat + 4) from congrArg m (by omega), show m (61 + 2 * x1.toInt.toNat + 1) = m (62 + 2 * x1.toInt.toNat) from congrArg m (by omega)] at kz
      exact pv_lret (M := mX11_ways) dX11_ways_43 rfl ⟨_, _, _, rfl, rfl, I20, K21, (Or.inr ⟨by (try dsimp only); first | exact ⟨by omega, by omega, trivial⟩ | exact ⟨by omega, by omega, by omega, by omega⟩, kz⟩)⟩
    · have c9 := iv_eq (X := v6.toInt) (Y := 0) c9 rfl (by decide)
      refine pv_ldc2 (M := mX11_ways) (v := (-1)) dX11_ways_16 19 rfl wd832 ?_
      exact pv_lret (M := mX11_ways) dX11_ways_19 rfl ⟨_, _, _, rfl, rfl, I, Kp, (Or.inl ⟨fun q => by have q1 := q.1; have q2 := q.2.1; have q3 := q.2.2; omega, rfl⟩)⟩

set_option maxHeartbeats 2000000 in
set_option maxRecDepth 20000 in
theorem s_X11_even_va (g : pv_G) {T : List mv_T} {m : Nat → Nat → Int32} {n : Nat → Nat → Int64} {r : Nat → Value} {la lb : Nat} (hT : TX T) (I : IV BB m) (R : RX T r la lb) (x0 : Int32) (x1 : Int32) (x2 : Int32) : PM g mX11_even yX11_even (sqJn T BB wN r m (fun m' n' v => EVF ((0 ≤ x0.toInt ∧ x0.toInt < (m 0 2).toInt) ∧ (ddv m x1).toInt = 1 ∧ (1 ≤ x2.toInt ∧ x2.toInt ≤ 9)) (evT (m (4 + 7 * x0.toInt.toNat + 4)) (m (62 + 2 * x1.toInt.toNat)) x2.toInt (m (4 + 7 * x0.toInt.toNat + 3) 1).toInt.toNat (m (61 + 2 * x1.toInt.toNat) 1).toInt.toNat) v)) 3 0 0 [.ref 0, .int x0, .int x1, .int x2] (mk T m n r) := by
  have Kp : fr wN m m := fr.rf
  have R0 := R
  have zR := R.2.2.2.2.1.1
  have zR2 := R.2.2.2.2.2.1
  refine PM.of 0 (lo := [.ref 0, .int x0, .int x1, .int x2]) rfl (by decide) rfl rfl (Nat.le_of_ble_eq_true rfl) ?_
  refine pv_aload_n (M := mX11_even) 0 dX11_even_0 1 rfl rfl rfl ?_
  refine pv_iload_n (M := mX11_even) 1 dX11_even_1 2 rfl rfl rfl ?_
  refine pv_callv (M := mX11_even) (as := [.int x0]) (st := []) (kc2 := 0) (ks2 := 0) dX11_even_2 wd700 YX11_isBlank ⟨wd702, wd16⟩ (mk_get (tl0 hT)) rfl rfl (s_X11_isBlank_vx g hT I R x0) rfl rfl (Nat.le_of_ble_eq_true rfl) (by decide) rfl rfl 5 rfl (fun rv h1 q1 => ?_)
  obtain ⟨v2, rfl, rfl, pv2, qv2, rv2⟩ := q1
  replace rv2 : (v2 = 0 ∨ (0 ≤ x0.toInt ∧ x0.toInt ≤ 7)) ∧ ((v2.toInt = 1 ∧ 0 ≤ x0.toInt ∧ x0.toInt < (m 0 2).toInt) ∨ (v2.toInt = 0 ∧ (x0.toInt < 0 ∨ (m 0 2).toInt ≤ x0.toInt))) := rv2
  show PV _ _ _ _ _ _ _ 5 [.ref 0, .int x0, .int x1, .int x2] [.int v2] _
  have k5 := rv2.2
  refine pv_if_eq (M := mX11_even) (tgt := 23) dX11_even_5 8 rfl (by decide) (fun c4 => ?_) (fun c4 => ?_)
  · have c4 := iv_eq (X := v2.toInt) (Y := 0) c4 rfl (by decide)
    refine pv_ldc2 (M := mX11_even) (v := (-1)) dX11_even_23 26 rfl wd832 ?_
    exact pv_lret (M := mX11_even) dX11_even_26 rfl ⟨_, _, _, rfl, rfl, I, Kp, (Or.inl ⟨fun q => by have q1 := q.1; have q2 := q.2.1; have q3 := q.2.2; omega, rfl⟩)⟩
  · have pc4 := rv2.1.resolve_left c4
    have c4 := iv_ne (X := v2.toInt) (Y := 0) c4 rfl (by decide)
    refine pv_aload_n (M := mX11_even) 0 dX11_even_8 9 rfl rfl rfl ?_
    refine pv_iload_n (M := mX11_even) 2 dX11_even_9 10 rfl rfl rfl ?_
    refine pv_callv (M := mX11_even) (as := [.int x1]) (st := []) (kc2 := 0) (ks2 := 0) dX11_even_10 wd828 YX11_isDeed ⟨wd830, wd25⟩ (mk_get (tl0 hT)) rfl rfl (s_X11_isDeed g hT I R x1) rfl rfl (Nat.le_of_ble_eq_true rfl) (by decide) rfl rfl 13 rfl (fun rv h1 q5 => ?_)
    obtain ⟨v6, rfl, rfl, pv6, qv6, rv6⟩ := q5
    replace rv6 : (v6 = 0 ∨ (0 ≤ x1.toInt ∧ x1.toInt ≤ 7)) ∧ v6 = ddv m x1 := rv6
    show PV _ _ _ _ _ _ _ 13 [.ref 0, .int x0, .int x1, .int x2] [.int v6] _
    have k13 := rv6.2
    have k13d : (ddv m x1).toInt = v6.toInt := congrArg Int32.toInt rv6.2.symm
    refine pv_if_eq (M := mX11_even) (tgt := 23) dX11_even_13 16 rfl (by decide) (fun c9 => ?_) (fun c9 => ?_)
    · have c9 := iv_eq (X := v6.toInt) (Y := 0) c9 rfl (by decide)
      refine pv_ldc2 (M := mX11_even) (v := (-1)) dX11_even_23 26 rfl wd832 ?_
      exact pv_lret (M := mX11_even) dX11_even_26 rfl ⟨_, _, _, rfl, rfl, I, Kp, (Or.inl ⟨fun q => by have q1 := q.1; have q2 := q.2.1; have q3 := q.2.2; omega, rfl⟩)⟩
    · have pc9 := rv6.1.resolve_left c9
      have c9 := iv_ne (X := v6.toInt) (Y := 0) c9 rfl (by decide)
      refine pv_iload_n (M := mX11_even) 3 dX11_even_16 17 rfl rfl rfl ?_
      refine pv_calls (M := mX11_even) (as := [.int x2]) (st := []) (kc2 := 0) (ks2 := 0) dX11_even_17 wd888 YX11_isWidth wd889 (s_X11_isWidth_va g hT I x2) rfl rfl (Nat.le_of_ble_eq_true rfl) (by decide) rfl rfl 20 rfl (fun rv h1 q10 => ?_)
      obtain ⟨v11, rfl, rfl, pv11, qv11, rv11⟩ := q10
      replace rv11 : (v11 = 0 ∨ (1 ≤ x2.toInt ∧ x2.toInt ≤ 9)) ∧ ((v11.toInt = 1 ∧ 1 ≤ x2.toInt ∧ x2.toInt ≤ 9) ∨ (v11.toInt = 0 ∧ (x2.toInt < 1 ∨ 9 < x2.toInt))) := rv11
      show PV _ _ _ _ _ _ _ 20 [.ref 0, .int x0, .int x1, .int x2] [.int v11] _
      have k20 := rv11.2
      refine pv_if_ne (M := mX11_even) (tgt := 27) dX11_even_20 23 rfl (by decide) (fun c13 => ?_) (fun c13 => ?_)
      · have pc13 := rv11.1.resolve_left c13
        have c13 := iv_ne (X := v11.toInt) (Y := 0) c13 rfl (by decide)
        have kdd : 0 ≤ x1.toInt ∧ x1.toInt ≤ 7 ∧ 0 < (m (61 + 2 * x1.toInt.toNat) 1).toInt := ddv_1 (by omega)
        have kn0 : 0 ≤ (m (4 + 7 * x0.toInt.toNat + 3) 1).toInt ∧ (m (4 + 7 * x0.toInt.toNat + 3) 1).toInt ≤ 40 := by have q := I (4 + 7 * x0.toInt.toNat + 3) 1; rw [BB_rest (b := x0.toInt.toNat) (by omega)] at q; exact q
        refine pv_aload_n (M := mX11_even) 0 dX11_even_27 28 rfl rfl rfl ?_
        refine mv_get (M := mX11_even) (v := .ref 104) dX11_even_28 FX11 9 wd416 (by decide) (tl0 hT) rfl rfl 31 rfl ?_
        refine pv_aload_n (M := mX11_even) 0 dX11_even_31 32 rfl rfl rfl ?_
        refine mv_get (M := mX11_even) (v := .ref 3) dX11_even_32 FX11 1 wd408 (by decide) (tl0 hT) rfl rfl 35 rfl ?_
        refine pv_iload_n (M := mX11_even) 1 dX11_even_35 36 rfl rfl rfl ?_
        refine iv_qblank (M := mX11_even) (X := x0.toInt) dX11_even_36 hT R rfl (by omega) (by omega) 37 rfl (fun b16 eb16 hb16 => ?_)
        have zb16 := hb16.2.2.2.2.2.2.2
        refine mv_get (M := mX11_even) (v := .ref (b16 + 3)) dX11_even_37 FX0 1 wd210 (by decide) hb16.1 rfl rfl 40 rfl ?_
        refine pv_aload_n (M := mX11_even) 0 dX11_even_40 41 rfl rfl rfl ?_
        refine mv_get (M := mX11_even) (v := .ref 60) dX11_even_41 FX11 3 wd410 (by decide) (tl0 hT) rfl rfl 44 rfl ?_
        refine pv_iload_n (M := mX11_even) 2 dX11_even_44 45 rfl rfl rfl ?_
        refine iv_qdeed (M := mX11_even) (X := x1.toInt) dX11_even_45 hT R rfl (by omega) (by omega) 46 rfl (fun b17 eb17 hb17 => ?_)
        have zb17 := hb17.2.2.2.2
        refine pv_iload_n (M := mX11_even) 3 dX11_even_46 47 rfl rfl rfl ?_
        have kba : (b16 + 3) = 4 + 7 * x0.toInt.toNat + 3 := by omega
        have kbd : b17 = 61 + 2 * x1.toInt.toNat := by omega
        refine pv_callv (M := mX11_even) (as := [.ref (b16 + 3), .ref b17, .int x2]) (st := []) (kc2 := 0) (ks2 := 0) dX11_even_47 wd833 YX4_evenChoices ⟨wd834, wd835⟩ (mk_get (tl104 hT)) rfl rfl (s_X4_evenChoices_va g hT I (b16 + 3) hb16.2.2.1 b17 hb17 x2 (by omega) (by omega)) rfl rfl (Nat.le_of_ble_eq_true rfl) (by decide) rfl rfl 50 rfl (fun rv h1 q20 => ?_)
        obtain ⟨m21, n22, v25, rfl, rfl, I23, K24, rm21⟩ := q20
        replace rm21 : v25 = evT (m ((b16 + 3) + 1)) (m (b17 + 1)) x2.toInt (m (b16 + 3) 1).toInt.toNat (m b17 1).toInt.toNat := rm21
        have K24c := K24
        have K24 := Kp.trans (K24.sub (by first | exact wg_l (by decide) | exact wg_g (by decide) | exact WX_wg | exact la7_wg zR (by decide) | exact wS_wg zR (by decide) | exact wsL_wg zR (by decide)))
        show PV _ _ _ _ _ _ _ 50 [.ref 0, .int x0, .int x1, .int x2] [.long v25] _
        have kz := rm21
        rw [kba, kbd] at kz
        rw [show m (4 + 7 * x0.toInt.toNat + 3 + 1) = m (4 + 7 * x0.toInt.toNat + 4) from congrArg m (by omega), show m (61 + 2 * x1.toInt.toNat + 1) = m (62 + 2 * x1.toInt.toNat) from congrArg m (by omega)] at kz
        exact pv_lret (M := mX11_even) dX11_even_50 rfl ⟨_, _, _, rfl, rfl, I23, K24, (Or.inr ⟨by (try dsimp only); first | exact ⟨by omega, by omega, trivial⟩ | exact ⟨by omega, by omega, by omega, by omega⟩, kz⟩)⟩
      · have c13 := iv_eq (X := v11.toInt) (Y := 0) c13 rfl (by decide)
        refine pv_ldc2 (M := mX11_even) (v := (-1)) dX11_even_23 26 rfl wd832 ?_
        exact pv_lret (M := mX11_even) dX11_even_26 rfl ⟨_, _, _, rfl, rfl, I, Kp, (Or.inl ⟨fun q => by have q1 := q.1; have q2 := q.2.1; have q3 := q.2.2; omega, rfl⟩)⟩
