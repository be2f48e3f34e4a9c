set_option maxHeartbeats 2000000 in
set_option maxRecDepth 20000 in
theorem s_X4_strokesFor (g : pv_G) {T : List mv_T} {m : Nat → Nat → Int32} {n : Nat → Nat → Int64} {r : Nat → Value} (hT : TX T) (I : IV BB m) (x0 : Int32) (x1 : Int32) : PM g mX4_strokesFor yX4_strokesFor (sqP (mk T m n r) (-2147483648) 2147483647 (fun v => True)) 1 0 0 [.int x0, .int x1] (mk T m n r) := by
  have Kp : fr (wl []) m m := fr.rf
  refine PM.of 0 (lo := [.int x0, .int x1]) rfl (by decide) rfl rfl (Nat.le_of_ble_eq_true rfl) ?_
  refine pv_iload_n (M := mX4_strokesFor) 1 dX4_strokesFor_0 1 rfl rfl rfl ?_
  refine pv_iconst (M := mX4_strokesFor) (v := 1) dX4_strokesFor_1 2 rfl (by decide) ?_
  refine pv_icmp_ge (M := mX4_strokesFor) (tgt := 10) dX4_strokesFor_2 5 rfl (by decide) (fun c1 => ?_) (fun c1 => ?_)
  · have c1 := iv_le (X := 1) (Y := x1.toInt) c1 (by decide) rfl
    refine pv_iload_n (M := mX4_strokesFor) 0 dX4_strokesFor_10 11 rfl rfl rfl ?_
    refine pv_iload_n (M := mX4_strokesFor) 1 dX4_strokesFor_11 12 rfl rfl rfl ?_
    refine iv_addU (M := mX4_strokesFor) dX4_strokesFor_12 13 rfl (fun v2 ev2 => ?_)
    refine pv_iconst (M := mX4_strokesFor) (v := 1) dX4_strokesFor_13 14 rfl (by decide) ?_
    refine iv_subU (M := mX4_strokesFor) dX4_strokesFor_14 15 rfl (fun v3 ev3 => ?_)
    refine pv_iload_n (M := mX4_strokesFor) 1 dX4_strokesFor_15 16 rfl rfl rfl ?_
    refine iv_divU (M := mX4_strokesFor) (Y := x1.toInt) dX4_strokesFor_16 17 rfl rfl (by omega) (fun v4 ev4 => ?_)
    exact pv_iret (M := mX4_strokesFor) dX4_strokesFor_17 rfl rfl ⟨_, rfl, rfl, (iv_rng v4).1, (iv_rng v4).2, trivial⟩
  · have c1 := iv_nle (X := 1) (Y := x1.toInt) c1 (by decide) rfl
    refine pv_ldc (M := mX4_strokesFor) (v := 1000000) dX4_strokesFor_5 7 rfl wd878 ?_
    refine pv_goto (M := mX4_strokesFor) (tgt := 17) dX4_strokesFor_7 (by decide) ?_
    exact pv_iret (M := mX4_strokesFor) dX4_strokesFor_17 rfl rfl ⟨_, rfl, rfl, by decide, by decide, trivial⟩

set_option maxHeartbeats 2000000 in
set_option maxRecDepth 20000 in
theorem s_X4_fewestTo (g : pv_G) {T : List mv_T} {m : Nat → Nat → Int32} {n : Nat → Nat → Int64} {r : Nat → Value} (hT : TX T) (I : IV BB m) (x0 : Int32) (hl0 : -1 ≤ x0.toInt) (hh0 : x0.toInt ≤ 40) (x1 : Int32) : PM g mX4_fewestTo yX4_fewestTo (sqP (mk T m n r) (-2147483648) 2147483647 (fun v => True)) 2 0 0 [.ref 104, .int x0, .int x1] (mk T m n r) := by
  have Kp : fr (wl []) m m := fr.rf
  refine PM.of 2 (lo := [.ref 104, .int x0, .int x1, pv_U, pv_U]) rfl (by decide) rfl rfl (Nat.le_of_ble_eq_true rfl) ?_
  refine pv_ldc (M := mX4_fewestTo) (v := 1000000) dX4_fewestTo_0 2 rfl wd878 ?_
  refine pv_istore_n (M := mX4_fewestTo) 3 (lo2 := [.ref 104, .int x0, .int x1, .int 1000000, pv_U]) dX4_fewestTo_2 3 rfl rfl (by decide) rfl rfl ?_
  refine pv_iconst (M := mX4_fewestTo) (v := 0) dX4_fewestTo_3 4 rfl (by decide) ?_
  refine pv_istore (M := mX4_fewestTo) (lo2 := [.ref 104, .int x0, .int x1, .int 1000000, .int 0]) dX4_fewestTo_4 6 rfl (by decide) rfl rfl ?_
  have lp8 : ∀ (fuel7 : Nat) (y1 : Int32) (y2 : Int32), (-2147483648 ≤ y1.toInt) → (y1.toInt ≤ 1000000) → (0 ≤ y2.toInt) → (y2.toInt ≤ 41) → ((41 - y2.toInt) : Int).toNat < fuel7 → PV none g mX4_fewestTo (sqP (mk T m n r) (-2147483648) 2147483647 (fun v => True)) 2 0 0 6 [.ref 104, .int x0, .int x1, .int y1, .int y2] [] (mk T m n r) := by
    intro fuel7
    induction fuel7 with
    | zero => intro y1 y2 b10 b11 b12 b13 z14; omega
    | succ fuel7 ih9 =>
      intro y1 y2 b10 b11 b12 b13 z14
      refine pv_iload (M := mX4_fewestTo) dX4_fewestTo_6 8 rfl rfl ?_
      refine pv_iload_n (M := mX4_fewestTo) 1 dX4_fewestTo_8 9 rfl rfl rfl ?_
      refine pv_icmp_gt (M := mX4_fewestTo) (tgt := 51) dX4_fewestTo_9 12 rfl (by decide) (fun c15 => ?_) (fun c15 => ?_)
      · have c15 := iv_lt (X := x0.toInt) (Y := y2.toInt) c15 rfl rfl
        refine pv_iload_n (M := mX4_fewestTo) 3 dX4_fewestTo_51 52 rfl rfl rfl ?_
        exact pv_iret (M := mX4_fewestTo) dX4_fewestTo_52 rfl rfl ⟨_, rfl, rfl, (iv_rng y1).1, (iv_rng y1).2, trivial⟩
      · have c15 := iv_nlt (X := x0.toInt) (Y := y2.toInt) c15 rfl rfl
        refine pv_aload_n (M := mX4_fewestTo) 0 dX4_fewestTo_12 13 rfl rfl rfl ?_
        refine mv_get (M := mX4_fewestTo) (v := .ref 105) dX4_fewestTo_13 FX4 0 wd332 (by decide) (tl104 hT) rfl rfl 16 rfl ?_
        refine pv_iload (M := mX4_fewestTo) dX4_fewestTo_16 18 rfl rfl ?_
        refine iv_iald (M := mX4_fewestTo) (X := y2.toInt) (l1 := (-2147483648)) (l2 := 2147483647) dX4_fewestTo_18 (tl105 hT) rfl (by omega) (by omega) I (fun _ => rfl) 19 rfl (fun v16 ev16 pv16 qv16 => ?_)
        refine pv_ldc (M := mX4_fewestTo) (v := 1000000) dX4_fewestTo_19 21 rfl wd878 ?_
        refine pv_icmp_ge (M := mX4_fewestTo) (tgt := 45) dX4_fewestTo_21 24 rfl (by decide) (fun c17 => ?_) (fun c17 => ?_)
        · have c17 := iv_le (X := 1000000) (Y := v16.toInt) c17 (by decide) rfl
          refine iv_inc (M := mX4_fewestTo) (C := 1) dX4_fewestTo_45 48 rfl rfl (by decide) rfl rfl (by decide) (by omega) (by omega) (fun v18 ev18 => ?_)
          show PV _ _ _ _ _ _ _ 48 [.ref 104, .int x0, .int x1, .int y1, .int v18] [] _
          refine pv_goto (M := mX4_fewestTo) (tgt := 6) dX4_fewestTo_48 (by decide) ?_
          exact ih9 y1 v18 (by first | omega | assumption | exact (iv_rng _).2 | exact (iv_rng _).1 | decide) (by first | omega | assumption | exact (iv_rng _).2 | exact (iv_rng _).1 | decide) (by first | omega | assumption | exact (iv_rng _).2 | exact (iv_rng _).1 | decide) (by first | omega | assumption | exact (iv_rng _).2 | exact (iv_rng _).1 | decide) (by omega)
        · have c17 := iv_nle (X := 1000000) (Y := v16.toInt) c17 (by decide) rfl
          refine pv_iload_n (M := mX4_fewestTo) 3 dX4_fewestTo_24 25 rfl rfl rfl ?_
          refine pv_aload_n (M := mX4_fewestTo) 0 dX4_fewestTo_25 26 rfl rfl rfl ?_
          refine mv_get (M := mX4_fewestTo) (v := .ref 105) dX4_fewestTo_26 FX4 0 wd332 (by decide) (tl104 hT) rfl rfl 29 rfl ?_
          refine pv_iload (M := mX4_fewestTo) dX4_fewestTo_29 31 rfl rfl ?_
          refine iv_iald (M := mX4_fewestTo) (X := y2.toInt) (l1 := (-2147483648)) (l2 := 2147483647) dX4_fewestTo_31 (tl105 hT) rfl (by omega) (by omega) I (fun _ => rfl) 32 rfl (fun v19 ev19 pv19 qv19 => ?_)
          refine pv_iload_n (M := mX4_fewestTo) 1 dX4_fewestTo_32 33 rfl rfl rfl ?_
          refine pv_iload (M := mX4_fewestTo) dX4_fewestTo_33 35 rfl rfl ?_
          refine iv_isub (M := mX4_fewestTo) (X := x0.toInt) (Y := y2.toInt) dX4_fewestTo_35 36 rfl rfl rfl (by omega) (by omega) (fun v20 ev20 => ?_)
          refine pv_iload_n (M := mX4_fewestTo) 2 dX4_fewestTo_36 37 rfl rfl rfl ?_
          refine pv_calls (M := mX4_fewestTo) (as := [.int v20, .int x1]) (st := [.int v19, .int y1]) (kc2 := 0) (ks2 := 0) dX4_fewestTo_37 wd902 YX4_strokesFor wd876 (s_X4_strokesFor g hT I v20 x1) rfl rfl (Nat.le_of_ble_eq_true rfl) (by decide) rfl rfl 40 rfl (fun rv h1 q21 => ?_)
          obtain ⟨v22, rfl, rfl, pv22, qv22, rv22⟩ := q21
          show PV _ _ _ _ _ _ _ 40 [.ref 104, .int x0, .int x1, .int y1, .int y2] [.int v22, .int v19, .int y1] _
          refine iv_addU (M := mX4_fewestTo) dX4_fewestTo_40 41 rfl (fun v23 ev23 => ?_)
          refine iv_min (M := mX4_fewestTo) (X := y1.toInt) (Y := v23.toInt) dX4_fewestTo_41 wd903 Wmmin (Nat.le_of_ble_eq_true rfl) (by decide) rfl rfl 44 rfl (fun v24 ev24 fv24 gv24 => ?_)
          refine pv_istore_n (M := mX4_fewestTo) 3 (lo2 := [.ref 104, .int x0, .int x1, .int v24, .int y2]) dX4_fewestTo_44 45 rfl rfl (by decide) rfl rfl ?_
          refine iv_inc (M := mX4_fewestTo) (C := 1) dX4_fewestTo_45 48 rfl rfl (by decide) rfl rfl (by decide) (by omega) (by omega) (fun v25 ev25 => ?_)
          show PV _ _ _ _ _ _ _ 48 [.ref 104, .int x0, .int x1, .int v24, .int v25] [] _
          refine pv_goto (M := mX4_fewestTo) (tgt := 6) dX4_fewestTo_48 (by decide) ?_
          exact ih9 v24 v25 (by first | omega | assumption | exact (iv_rng _).2 | exact (iv_rng _).1 | decide) (by first | omega | assumption | exact (iv_rng _).2 | exact (iv_rng _).1 | decide) (by first | omega | assumption | exact (iv_rng _).2 | exact (iv_rng _).1 | decide) (by first | omega | assumption | exact (iv_rng _).2 | exact (iv_rng _).1 | decide) (by omega)
  have z26 : (1000000 : Int32).toInt = 1000000 := by decide
  have z27 : (0 : Int32).toInt = 0 := by decide
  exact lp8 (((41 - 0) : Int).toNat + 1) 1000000 0 (by first | omega | assumption | exact (iv_rng _).2 | exact (iv_rng _).1 | decide) (by first | omega | assumption | exact (iv_rng _).2 | exact (iv_rng _).1 | decide) (by first | omega | assumption | exact (iv_rng _).2 | exact (iv_rng _).1 | decide) (by first | omega | assumption | exact (iv_rng _).2 | exact (iv_rng _).1 | decide) (by omega)

set_option maxHeartbeats 2000000 in
set_option maxRecDepth 20000 in
theorem s_X4_manyTo (g : pv_G) {T : List mv_T} {m : Nat → Nat → Int32} {n : Nat → Nat → Int64} {r : Nat → Value} (hT : TX T) (I : IV BB m) (x0 : Int32) (hl0 : -1 ≤ x0.toInt) (hh0 : x0.toInt ≤ 40) (x1 : Int32) : PM g mX4_manyTo yX4_manyTo (sqPJ (mk T m n r)) 1 0 0 [.ref 104, .int x0, .int x1] (mk T m n r) := by
  have Kp : fr (wl []) m m := fr.rf
  refine PM.of 4 (lo := [.ref 104, .int x0, .int x1, pv_U, pv_U, pv_U, pv_U]) rfl (by decide) rfl rfl (Nat.le_of_ble_eq_true rfl) ?_
  refine pv_lconst (M := mX4_manyTo) (v := 0) dX4_manyTo_0 1 rfl (by decide) ?_
  refine pv_lstore_n (M := mX4_manyTo) 3 (lo2 := [.ref 104, .int x0, .int x1, .long 0, pv_U, pv_U, pv_U]) dX4_manyTo_1 2 rfl rfl (by decide) rfl rfl ?_
  refine pv_iload_n (M := mX4_manyTo) 2 dX4_manyTo_2 3 rfl rfl rfl ?_
  refine pv_iconst (M := mX4_manyTo) (v := 1) dX4_manyTo_3 4 rfl (by decide) ?_
  refine iv_max (M := mX4_manyTo) (X := x1.toInt) (Y := 1) dX4_manyTo_4 wd844 Wmmax (Nat.le_of_ble_eq_true rfl) (by decide) rfl (by decide) 7 rfl (fun v1 ev1 fv1 gv1 => ?_)
  refine pv_istore (M := mX4_manyTo) (lo2 := [.ref 104, .int x0, .int x1, .long 0, pv_U, .int v1, pv_U]) dX4_manyTo_7 9 rfl (by decide) rfl rfl ?_
  refine pv_iload_n (M := mX4_manyTo) 1 dX4_manyTo_9 10 rfl rfl rfl ?_
  refine pv_istore (M := mX4_manyTo) (lo2 := [.ref 104, .int x0, .int x1, .long 0, pv_U, .int v1, .int x0]) dX4_manyTo_10 12 rfl (by decide) rfl rfl ?_
  have lp9 : ∀ (fuel8 : Nat) (y2 : Int64) (y3 : Int32), (-2147483648 ≤ y3.toInt) → (y3.toInt ≤ 40) → ((y3.toInt + 1) : Int).toNat < fuel8 → PV none g mX4_manyTo (sqPJ (mk T m n r)) 1 0 0 12 [.ref 104, .int x0, .int x1, .long y2, pv_U, .int v1, .int y3] [] (mk T m n r) := by
    intro fuel8
    induction fuel8 with
    | zero => intro y2 y3 b11 b12 z13; omega
    | succ fuel8 ih10 =>
      intro y2 y3 b11 b12 z13
      refine pv_iload (M := mX4_manyTo) dX4_manyTo_12 14 rfl rfl ?_
      refine pv_if_lt (M := mX4_manyTo) (tgt := 37) dX4_manyTo_14 17 rfl (by decide) (fun c14 => ?_) (fun c14 => ?_)
      · have c14 := iv_lt (X := y3.toInt) (Y := 0) c14 rfl (by decide)
        refine pv_lload_n (M := mX4_manyTo) 3 dX4_manyTo_37 38 rfl rfl rfl ?_
        exact pv_lret (M := mX4_manyTo) dX4_manyTo_38 rfl ⟨_, rfl, rfl⟩
      · have c14 := iv_nlt (X := y3.toInt) (Y := 0) c14 rfl (by decide)
        refine pv_lload_n (M := mX4_manyTo) 3 dX4_manyTo_17 18 rfl rfl rfl ?_
        refine pv_aload_n (M := mX4_manyTo) 0 dX4_manyTo_18 19 rfl rfl rfl ?_
        refine mv_get (M := mX4_manyTo) (v := .ref 106) dX4_manyTo_19 FX4 1 wd333 (by decide) (tl104 hT) rfl rfl 22 rfl ?_
        refine pv_iload (M := mX4_manyTo) dX4_manyTo_22 24 rfl rfl ?_
        refine iv_lald (M := mX4_manyTo) (X := y3.toInt) dX4_manyTo_24 (tl106 hT) rfl (by omega) (by omega) 25 rfl (fun v15 ev15 => ?_)
        refine iv_addJ (M := mX4_manyTo) dX4_manyTo_25 26 rfl (fun v16 ev16 => ?_)
        refine pv_lstore_n (M := mX4_manyTo) 3 (lo2 := [.ref 104, .int x0, .int x1, .long v16, pv_U, .int v1, .int y3]) dX4_manyTo_26 27 rfl rfl (by decide) rfl rfl ?_
        refine pv_iload (M := mX4_manyTo) dX4_manyTo_27 29 rfl rfl ?_
        refine pv_iload (M := mX4_manyTo) dX4_manyTo_29 31 rfl rfl ?_
        have z18 := iv_rng v1
        refine iv_isub (M := mX4_manyTo) (X := y3.toInt) (Y := v1.toInt) dX4_manyTo_31 32 rfl rfl rfl (by omega) (by omega) (fun v17 ev17 => ?_)
        refine pv_istore (M := mX4_manyTo) (lo2 := [.ref 104, .int x0, .int x1, .long v16, pv_U, .int v1, .int v17]) dX4_manyTo_32 34 rfl (by decide) rfl rfl ?_
        refine pv_goto (M := mX4_manyTo) (tgt := 12) dX4_manyTo_34 (by decide) ?_
        exact ih10 v16 v17 (by first | omega | assumption | exact (iv_rng _).2 | exact (iv_rng _).1 | decide) (by first | omega | assumption | exact (iv_rng _).2 | exact (iv_rng _).1 | decide) (by omega)
  exact lp9 (((x0.toInt + 1) : Int).toNat + 1) 0 x0 (by first | omega | assumption | exact (iv_rng _).2 | exact (iv_rng _).1 | decide) (by first | omega | assumption | exact (iv_rng _).2 | exact (iv_rng _).1 | decide) (by omega)

set_option maxHeartbeats 2000000 in
set_option maxRecDepth 20000 in
theorem s_J7_fill_53178 (g : pv_G) {T : List mv_T} {m : Nat → Nat → Int32} {n : Nat → Nat → Int64} {r : Nat → Value} (hT : TX T) (I : IV BB m) (a0 ln0 : Nat) (lb0 hb0 : Int) (ha0 : ArrS T a0 ln0 lb0 hb0) (x1 : Int32) (hp0 : lb0 ≤ x1.toInt) (hp1 : x1.toInt ≤ hb0) : PM g mJ7_fill_53178 yJ7_fill_53178 (sqV T BB (wl [(a0, a0, none)]) r m (fun m' => ∀ j : Nat, j < ln0 → m' a0 j = x1)) 1 0 0 [.ref a0, .int x1] (mk T m n r) := by
  have Kp : fr (wl [(a0, a0, none)]) m m := fr.rf
  have zl0 := ha0.2.2
  refine PM.of 2 (lo := [.ref a0, .int x1, pv_U, pv_U]) rfl (by decide) rfl rfl (Nat.le_of_ble_eq_true rfl) ?_
  refine pv_iconst (M := mJ7_fill_53178) (v := 0) dJ7_fill_53178_0 1 rfl (by decide) ?_
  refine pv_istore_n (M := mJ7_fill_53178) 2 (lo2 := [.ref a0, .int x1, .int 0, pv_U]) dJ7_fill_53178_1 2 rfl rfl (by decide) rfl rfl ?_
  refine pv_aload_n (M := mJ7_fill_53178) 0 dJ7_fill_53178_2 3 rfl rfl rfl ?_
  refine iv_alen0 (M := mJ7_fill_53178) dJ7_fill_53178_3 ha0.1 (by omega) 4 rfl (fun v1 ev1 => ?_)
  refine pv_istore_n (M := mJ7_fill_53178) 3 (lo2 := [.ref a0, .int x1, .int 0, .int v1]) dJ7_fill_53178_4 5 rfl rfl (by decide) rfl rfl ?_
  have lp8 : ∀ (fuel7 : Nat) (y2 : Int32) (m3 : Nat → Nat → Int32) (n4 : Nat → Nat → Int64), (0 ≤ y2.toInt) → (y2.toInt ≤ 30000) → (∀ j : Nat, (j : Int) < y2.toInt → m3 a0 j = x1) → IV BB m3 → fr (wl [(a0, a0, none)]) m m3 → ((30000 - y2.toInt) : Int).toNat < fuel7 → PV none g mJ7_fill_53178 (sqV T BB (wl [(a0, a0, none)]) r m (fun m' => ∀ j : Nat, j < ln0 → m' a0 j = x1)) 1 0 0 5 [.ref a0, .int x1, .int y2, .int v1] [] (mk T m3 n4 r) := by
    intro fuel7
    induction fuel7 with
    | zero => intro y2 m3 n4 b10 b11 b12 I5 K6 z13; omega
    | succ fuel7 ih9 =>
      intro y2 m3 n4 b10 b11 b12 I5 K6 z13
      have kg := (show ∀ j : Nat, (j : Int) < y2.toInt → m3 a0 j = x1 by assumption)
      refine pv_iload_n (M := mJ7_fill_53178) 2 dJ7_fill_53178_5 6 rfl rfl rfl ?_
      refine pv_iload_n (M := mJ7_fill_53178) 3 dJ7_fill_53178_6 7 rfl rfl rfl ?_
      refine pv_icmp_ge (M := mJ7_fill_53178) (tgt := 20) dJ7_fill_53178_7 10 rfl (by decide) (fun c15 => ?_) (fun c15 => ?_)
      · have c15 := iv_le (X := v1.toInt) (Y := y2.toInt) c15 rfl rfl
        exact pv_vret (M := mJ7_fill_53178) dJ7_fill_53178_20 rfl ⟨_, _, rfl, rfl, I5, K6, (fun j hj => kg j (by omega))⟩
      · have c15 := iv_nle (X := v1.toInt) (Y := y2.toInt) c15 rfl rfl
        refine pv_aload_n (M := mJ7_fill_53178) 0 dJ7_fill_53178_10 11 rfl rfl rfl ?_
        refine pv_iload_n (M := mJ7_fill_53178) 2 dJ7_fill_53178_11 12 rfl rfl rfl ?_
        refine pv_iload_n (M := mJ7_fill_53178) 1 dJ7_fill_53178_12 13 rfl rfl rfl ?_
        refine iv_iast (M := mJ7_fill_53178) (X := y2.toInt) (l1 := lb0) (l2 := hb0) dJ7_fill_53178_13 ha0.1 rfl (by omega) (by omega) I5 ha0.2.1 (by omega) (by omega) 14 rfl (fun m16 e19 I17 => ?_)
        have K18 := K6.set e19 (wl_r (by omega) (by omega))
        refine iv_inc (M := mJ7_fill_53178) (C := 1) dJ7_fill_53178_14 17 rfl rfl (by decide) rfl rfl (by decide) (by omega) (by omega) (fun v20 ev20 => ?_)
        show PV _ _ _ _ _ _ _ 17 [.ref a0, .int x1, .int v20, .int v1] [] _
        refine pv_goto (M := mJ7_fill_53178) (tgt := 5) dJ7_fill_53178_17 (by decide) ?_
        have kfl : ∀ j : Nat, (j : Int) < v20.toInt → m16 a0 j = x1 := fun j hj => by rw [e19]; exact (if q : j = (y2.toInt).toNat then (by rw [q]; exact up2_eq _ _ _ _) else (by rw [up2_ne (fun z => q z.2)]; exact kg j (by omega)))
        exact ih9 v20 m16 n4 (by first | omega | assumption | exact (iv_rng _).2 | exact (iv_rng _).1 | decide) (by first | omega | assumption | exact (iv_rng _).2 | exact (iv_rng _).1 | decide) kfl I17 K18 (by omega)
  have z22 : (0 : Int32).toInt = 0 := by decide
  exact lp8 (((30000 - 0) : Int).toNat + 1) 0 m n (by first | omega | assumption | exact (iv_rng _).2 | exact (iv_rng _).1 | decide) (by first | omega | assumption | exact (iv_rng _).2 | exact (iv_rng _).1 | decide) (fun j hj => by omega) I Kp (by omega)

set_option maxHeartbeats 2000000 in
set_option maxRecDepth 20000 in
theorem s_J7_fill_d0a16 (g : pv_G) {T : List mv_T} {m : Nat → Nat → Int32} {n : Nat → Nat → Int64} {r : Nat → Value} (hT : TX T) (I : IV BB m) (a0 ln0 : Nat) (ha0 : T[a0]? = some (.inl (2, ln0)) ∧ ln0 ≤ 30000) (x1 : Int64) : PM g mJ7_fill_d0a16 yJ7_fill_d0a16 (sqV T BB (wl []) r m (fun m' => True)) 1 0 0 [.ref a0, .long x1] (mk T m n r) := by
  have Kp : fr (wl []) m m := fr.rf
  have zl0 := ha0.2
  refine PM.of 2 (lo := [.ref a0, .long x1, pv_U, pv_U, pv_U]) rfl (by decide) rfl rfl (Nat.le_of_ble_eq_true rfl) ?_
  refine pv_iconst (M := mJ7_fill_d0a16) (v := 0) dJ7_fill_d0a16_0 1 rfl (by decide) ?_
  refine pv_istore_n (M := mJ7_fill_d0a16) 3 (lo2 := [.ref a0, .long x1, pv_U, .int 0, pv_U]) dJ7_fill_d0a16_1 2 rfl rfl (by decide) rfl rfl ?_
  refine pv_aload_n (M := mJ7_fill_d0a16) 0 dJ7_fill_d0a16_2 3 rfl rfl rfl ?_
  refine iv_alen2 (M := mJ7_fill_d0a16) dJ7_fill_d0a16_3 ha0.1 (by omega) 4 rfl (fun v1 ev1 => ?_)
  refine pv_istore (M := mJ7_fill_d0a16) (lo2 := [.ref a0, .long x1, pv_U, .int 0, .int v1]) dJ7_fill_d0a16_4 6 rfl (by decide) rfl rfl ?_
  have lp8 : ∀ (fuel7 : Nat) (y2 : Int32) (m3 : Nat → Nat → Int32) (n4 : Nat → Nat → Int64), (0 ≤ y2.toInt) → (y2.toInt ≤ 30000) → IV BB m3 → fr (wl []) m m3 → ((30000 - y2.toInt) : Int).toNat < fuel7 → PV none g mJ7_fill_d0a16 (sqV T BB (wl []) r m (fun m' => True)) 1 0 0 6 [.ref a0, .long x1, pv_U, .int y2, .int v1] [] (mk T m3 n4 r) := by
    intro fuel7
    induction fuel7 with
    | zero => intro y2 m3 n4 b10 b11 I5 K6 z12; omega
    | succ fuel7 ih9 =>
      intro y2 m3 n4 b10 b11 I5 K6 z12
      refine pv_iload_n (M := mJ7_fill_d0a16) 3 dJ7_fill_d0a16_6 7 rfl rfl rfl ?_
      refine pv_iload (M := mJ7_fill_d0a16) dJ7_fill_d0a16_7 9 rfl rfl ?_
      refine pv_icmp_ge (M := mJ7_fill_d0a16) (tgt := 22) dJ7_fill_d0a16_9 12 rfl (by decide) (fun c13 => ?_) (fun c13 => ?_)
      · have c13 := iv_le (X := v1.toInt) (Y := y2.toInt) c13 rfl rfl
        exact pv_vret (M := mJ7_fill_d0a16) dJ7_fill_d0a16_22 rfl ⟨_, _, rfl, rfl, I5, K6, trivial⟩
      · have c13 := iv_nle (X := v1.toInt) (Y := y2.toInt) c13 rfl rfl
        refine pv_aload_n (M := mJ7_fill_d0a16) 0 dJ7_fill_d0a16_12 13 rfl rfl rfl ?_
        refine pv_iload_n (M := mJ7_fill_d0a16) 3 dJ7_fill_d0a16_13 14 rfl rfl rfl ?_
        refine pv_lload_n (M := mJ7_fill_d0a16) 1 dJ7_fill_d0a16_14 15 rfl rfl rfl ?_
        refine iv_last (M := mJ7_fill_d0a16) (X := y2.toInt) dJ7_fill_d0a16_15 ha0.1 rfl (by omega) (by omega) 16 rfl (fun n14 en14 => ?_)
        refine iv_inc (M := mJ7_fill_d0a16) (C := 1) dJ7_fill_d0a16_16 19 rfl rfl (by decide) rfl rfl (by decide) (by omega) (by omega) (fun v15 ev15 => ?_)
        show PV _ _ _ _ _ _ _ 19 [.ref a0, .long x1, pv_U, .int v15, .int v1] [] _
        refine pv_goto (M := mJ7_fill_d0a16) (tgt := 6) dJ7_fill_d0a16_19 (by decide) ?_
        exact ih9 v15 m3 n14 (by first | omega | assumption | exact (iv_rng _).2 | exact (iv_rng _).1 | decide) (by first | omega | assumption | exact (iv_rng _).2 | exact (iv_rng _).1 | decide) I5 K6 (by omega)
  have z16 : (0 : Int32).toInt = 0 := by decide
  exact lp8 (((30000 - 0) : Int).toNat + 1) 0 m n (by first | omega | assumption | exact (iv_rng _).2 | exact (iv_rng _).1 | decide) (by first | omega | assumption | exact (iv_rng _).2 | exact (iv_rng _).1 | decide) I Kp (by omega)

set_option maxHeartbeats 2000000 in
set_option maxRecDepth 20000 in
theorem s_J6_bitCount_0f7a4 (g : pv_G) {T : List mv_T} {m : Nat → Nat → Int32} {n : Nat → Nat → Int64} {r : Nat → Value} (hT : TX T) (I : IV BB m) (x0 : Int32) : PM g mJ6_bitCount_0f7a4 yJ6_bitCount_0f7a4 (sqP (mk T m n r) 0 63 (fun v => v = bcn x0)) 1 0 0 [.int x0] (mk T m n r) := by
  have Kp : fr (wl []) m m := fr.rf
  refine PM.of 0 (lo := [.int x0]) rfl (by decide) rfl rfl (Nat.le_of_ble_eq_true rfl) ?_
  refine pv_iload_n (M := mJ6_bitCount_0f7a4) 0 dJ6_bitCount_0f7a4_0 1 rfl rfl rfl ?_
  refine pv_iload_n (M := mJ6_bitCount_0f7a4) 0 dJ6_bitCount_0f7a4_1 2 rfl rfl rfl ?_
  refine pv_iconst (M := mJ6_bitCount_0f7a4) (v := 1) dJ6_bitCount_0f7a4_2 3 rfl (by decide) ?_
  refine iv_ushrU (M := mJ6_bitCount_0f7a4) dJ6_bitCount_0f7a4_3 4 rfl (fun v1 ev1 => ?_)
  have b4 := ev1
  refine pv_ldcw (M := mJ6_bitCount_0f7a4) (v := 1431655765) dJ6_bitCount_0f7a4_4 7 rfl wd916 ?_
  refine iv_andU (M := mJ6_bitCount_0f7a4) dJ6_bitCount_0f7a4_7 8 rfl (fun v3 ev3 => ?_)
  have b8 := ev3
  refine iv_subU (M := mJ6_bitCount_0f7a4) dJ6_bitCount_0f7a4_8 9 rfl (fun v5 ev5 => ?_)
  have b9 : v5 = bc1 x0 := by rw [ev5, b8, b4]; rfl
  refine pv_istore_n (M := mJ6_bitCount_0f7a4) 0 (lo2 := [.int v5]) dJ6_bitCount_0f7a4_9 10 rfl rfl (by decide) rfl rfl ?_
  refine pv_iload_n (M := mJ6_bitCount_0f7a4) 0 dJ6_bitCount_0f7a4_10 11 rfl rfl rfl ?_
  refine pv_ldcw (M := mJ6_bitCount_0f7a4) (v := 858993459) dJ6_bitCount_0f7a4_11 14 rfl wd917 ?_
  refine iv_andU (M := mJ6_bitCount_0f7a4) dJ6_bitCount_0f7a4_14 15 rfl (fun v7 ev7 => ?_)
  have b15 := ev7
  refine pv_iload_n (M := mJ6_bitCount_0f7a4) 0 dJ6_bitCount_0f7a4_15 16 rfl rfl rfl ?_
  refine pv_iconst (M := mJ6_bitCount_0f7a4) (v := 2) dJ6_bitCount_0f7a4_16 17 rfl (by decide) ?_
  refine iv_ushrU (M := mJ6_bitCount_0f7a4) dJ6_bitCount_0f7a4_17 18 rfl (fun v9 ev9 => ?_)
  have b18 := ev9
  refine pv_ldcw (M := mJ6_bitCount_0f7a4) (v := 858993459) dJ6_bitCount_0f7a4_18 21 rfl wd917 ?_
  refine iv_andU (M := mJ6_bitCount_0f7a4) dJ6_bitCount_0f7a4_21 22 rfl (fun v11 ev11 => ?_)
  have b22 := ev11
  refine iv_addU (M := mJ6_bitCount_0f7a4) dJ6_bitCount_0f7a4_22 23 rfl (fun v13 ev13 => ?_)
  have b23 : v13 = bc2 (bc1 x0) := by rw [ev13, b15, b22, b18, b9]; rfl
  refine pv_istore_n (M := mJ6_bitCount_0f7a4) 0 (lo2 := [.int v13]) dJ6_bitCount_0f7a4_23 24 rfl rfl (by decide) rfl rfl ?_
  refine pv_iload_n (M := mJ6_bitCount_0f7a4) 0 dJ6_bitCount_0f7a4_24 25 rfl rfl rfl ?_
  refine pv_iload_n (M := mJ6_bitCount_0f7a4) 0 dJ6_bitCount_0f7a4_25 26 rfl rfl rfl ?_
  refine pv_iconst (M := mJ6_bitCount_0f7a4) (v := 4) dJ6_bitCount_0f7a4_26 27 rfl (by decide) ?_
  refine iv_ushrU (M := mJ6_bitCount_0f7a4) dJ6_bitCount_0f7a4_27 28 rfl (fun v15 ev15 => ?_)
  have b28 := ev15
  refine iv_addU (M := mJ6_bitCount_0f7a4) dJ6_bitCount_0f7a4_28 29 rfl (fun v17 ev17 => ?_)
  have b29 := ev17
  refine pv_ldcw (M := mJ6_bitCount_0f7a4) (v := 252645135) dJ6_bitCount_0f7a4_29 32 rfl wd918 ?_
  refine iv_andU (M := mJ6_bitCount_0f7a4) dJ6_bitCount_0f7a4_32 33 rfl (fun v19 ev19 => ?_)
  have b33 : v19 = bc3 (bc2 (bc1 x0)) := by rw [ev19, b29, b28, b23]; rfl
  refine pv_istore_n (M := mJ6_bitCount_0f7a4) 0 (lo2 := [.int v19]) dJ6_bitCount_0f7a4_33 34 rfl rfl (by decide) rfl rfl ?_
  refine pv_iload_n (M := mJ6_bitCount_0f7a4) 0 dJ6_bitCount_0f7a4_34 35 rfl rfl rfl ?_
  refine pv_iload_n (M := mJ6_bitCount_0f7a4) 0 dJ6_bitCount_0f7a4_35 36 rfl rfl rfl ?_
  refine pv_bipush (M := mJ6_bitCount_0f7a4) (v := 8) dJ6_bitCount_0f7a4_36 38 rfl (by decide) ?_
  refine iv_ushrU (M := mJ6_bitCount_0f7a4) dJ6_bitCount_0f7a4_38 39 rfl (fun v21 ev21 => ?_)
  have b39 := ev21
  refine iv_addU (M := mJ6_bitCount_0f7a4) dJ6_bitCount_0f7a4_39 40 rfl (fun v23 ev23 => ?_)
  have b40 : v23 = bc4 (bc3 (bc2 (bc1 x0))) := by rw [ev23, b39, b33]; rfl
  refine pv_istore_n (M := mJ6_bitCount_0f7a4) 0 (lo2 := [.int v23]) dJ6_bitCount_0f7a4_40 41 rfl rfl (by decide) rfl rfl ?_
  refine pv_iload_n (M := mJ6_bitCount_0f7a4) 0 dJ6_bitCount_0f7a4_41 42 rfl rfl rfl ?_
  refine pv_iload_n (M := mJ6_bitCount_0f7a4) 0 dJ6_bitCount_0f7a4_42 43 rfl rfl rfl ?_
  refine pv_bipush (M := mJ6_bitCount_0f7a4) (v := 16) dJ6_bitCount_0f7a4_43 45 rfl (by decide) ?_
  refine iv_ushrU (M := mJ6_bitCount_0f7a4) dJ6_bitCount_0f7a4_45 46 rfl (fun v25 ev25 => ?_)
  have b46 := ev25
  refine iv_addU (M := mJ6_bitCount_0f7a4) dJ6_bitCount_0f7a4_46 47 rfl (fun v27 ev27 => ?_)
  have b47 : v27 = bc5 (bc4 (bc3 (bc2 (bc1 x0)))) := by rw [ev27, b46, b40]; rfl
  refine pv_istore_n (M := mJ6_bitCount_0f7a4) 0 (lo2 := [.int v27]) dJ6_bitCount_0f7a4_47 48 rfl rfl (by decide) rfl rfl ?_
  refine pv_iload_n (M := mJ6_bitCount_0f7a4) 0 dJ6_bitCount_0f7a4_48 49 rfl rfl rfl ?_
  refine pv_bipush (M := mJ6_bitCount_0f7a4) (v := 63) dJ6_bitCount_0f7a4_49 51 rfl (by decide) ?_
  refine iv_iandm (M := mJ6_bitCount_0f7a4) dJ6_bitCount_0f7a4_51 52 rfl 6 (by decide) (by decide) (fun v29 ev29 pv29 qv29 => ?_)
  have qv29 : v29.toInt < 64 := qv29
  have b52 : v29 = bcn x0 := by rw [ev29, b47]; rfl
  exact pv_iret (M := mJ6_bitCount_0f7a4) dJ6_bitCount_0f7a4_52 rfl rfl ⟨_, rfl, rfl, by omega, by omega, b52⟩

set_option maxHeartbeats 2000000 in
set_option maxRecDepth 20000 in
theorem s_X4_fewestStrokes (g : pv_G) {T : List mv_T} {m : Nat → Nat → Int32} {n : Nat → Nat → Int64} {r : Nat → Value} (hT : TX T) (I : IV BB m) (a0 : Nat) (rm0 : Nat) (ha0 : RowAt T a0 rm0) (hm0 : rm0 ≤ 40) (a1 : Nat) (rm1 : Nat) (ha1 : RowAt T a1 rm1) (x2 : Int32) : PM g mX4_fewestStrokes yX4_fewestStrokes (sqI T BB (wl [(105, 105, none)]) r m (-2147483648) 2147483647 (fun m' v => True)) 3 0 0 [.ref 104, .ref a0, .ref a1, .int x2] (mk T m n r) := by
  have Kp : fr (wl [(105, 105, none)]) m m := fr.rf
  have zr0 := ha0.2.2.2.2
  have zr1 := ha1.2.2.2.2
  refine PM.of 2 (lo := [.ref 104, .ref a0, .ref a1, .int x2, pv_U, pv_U]) rfl (by decide) rfl rfl (Nat.le_of_ble_eq_true rfl) ?_
  refine pv_aload_n (M := mX4_fewestStrokes) 0 dX4_fewestStrokes_0 1 rfl rfl rfl ?_
  refine mv_get (M := mX4_fewestStrokes) (v := .ref 105) dX4_fewestStrokes_1 FX4 0 wd332 (by decide) (tl104 hT) rfl rfl 4 rfl ?_
  refine pv_ldc (M := mX4_fewestStrokes) (v := 1000000) dX4_fewestStrokes_4 6 rfl wd878 ?_
  have z1 : (1000000 : Int32).toInt = 1000000 := by decide
  refine pv_calls (M := mX4_fewestStrokes) (as := [.ref 105, .int 1000000]) (st := []) (kc2 := 0) (ks2 := 0) dX4_fewestStrokes_6 wd895 YJ7_fill_53178 wd896 (s_J7_fill_53178 g hT I 105 41 (-2147483648) 2147483647 ⟨(tl105 hT), (fun _ => rfl), by decide⟩ 1000000 (by first | omega | assumption | exact (iv_rng _).2 | exact (iv_rng _).1 | decide) (by first | omega | assumption | exact (iv_rng _).2 | exact (iv_rng _).1 | decide)) rfl rfl (Nat.le_of_ble_eq_true rfl) (by decide) rfl rfl 9 rfl (fun rv h1 q2 => ?_)
  obtain ⟨m3, n4, rfl, rfl, I5, K6, rm3⟩ := q2
  replace rm3 : ∀ j : Nat, j < 41 → m3 105 j = (1000000 : Int32) := by have q_ := rm3; (try rw [z1] at q_); exact q_
  have K6c := K6
  have K6 := Kp.trans (K6.sub (fun _ _ q => q))
  show PV _ _ _ _ _ _ _ 9 [.ref 104, .ref a0, .ref a1, .int x2, pv_U, pv_U] [] _
  refine pv_aload_n (M := mX4_fewestStrokes) 0 dX4_fewestStrokes_9 10 rfl rfl rfl ?_
  refine mv_get (M := mX4_fewestStrokes) (v := .ref 105) dX4_fewestStrokes_10 FX4 0 wd332 (by decide) (tl104 hT) rfl rfl 13 rfl ?_
  refine pv_iconst (M := mX4_fewestStrokes) (v := 0) dX4_fewestStrokes_13 14 rfl (by decide) ?_
  refine pv_iconst (M := mX4_fewestStrokes) (v := 0) dX4_fewestStrokes_14 15 rfl (by decide) ?_
  refine iv_iast (M := mX4_fewestStrokes) (X := 0) (l1 := (-2147483648)) (l2 := 2147483647) dX4_fewestStrokes_15 (tl105 hT) (by decide) (by omega) (by omega) I5 (fun _ => rfl) (by decide) (by decide) 16 rfl (fun m7 e10 I8 => ?_)
  have K9 := K6.set e10 (wl_r (by omega) (by omega))
  refine pv_iconst (M := mX4_fewestStrokes) (v := 0) dX4_fewestStrokes_16 17 rfl (by decide) ?_
  refine pv_istore (M := mX4_fewestStrokes) (lo2 := [.ref 104, .ref a0, .ref a1, .int x2, .int 0, pv_U]) dX4_fewestStrokes_17 19 rfl (by decide) rfl rfl ?_
  have lp17 : ∀ (fuel16 : Nat) (y11 : Int32) (m12 : Nat → Nat → Int32) (n13 : Nat → Nat → Int64), (0 ≤ y11.toInt) → (y11.toInt ≤ 48) → IV BB m12 → fr (wl [(105, 105, none)]) m m12 → ((48 - y11.toInt) : Int).toNat < fuel16 → PV none g mX4_fewestStrokes (sqI T BB (wl [(105, 105, none)]) r m (-2147483648) 2147483647 (fun m' v => True)) 3 0 0 19 [.ref 104, .ref a0, .ref a1, .int x2, .int y11, pv_U] [] (mk T m12 n13 r) := by
    intro fuel16
    induction fuel16 with
    | zero => intro y11 m12 n13 b19 b20 I14 K15 z21; omega
    | succ fuel16 ih18 =>
      intro y11 m12 n13 b19 b20 I14 K15 z21
      refine pv_iload (M := mX4_fewestStrokes) dX4_fewestStrokes_19 21 rfl rfl ?_
      refine pv_aload_n (M := mX4_fewestStrokes) 2 dX4_fewestStrokes_21 22 rfl rfl rfl ?_
      refine iv_get (M := mX4_fewestStrokes) (l1 := 0) (l2 := (rm1 : Int)) dX4_fewestStrokes_22 FX8 1 wd198 (by decide) ha1.1 rfl I14 ha1.2.2.1 25 rfl (fun v22 ev22 pv22 qv22 => ?_)
      refine pv_icmp_ge (M := mX4_fewestStrokes) (tgt := 99) dX4_fewestStrokes_25 28 rfl (by decide) (fun c23 => ?_) (fun c23 => ?_)
      · have c23 := iv_le (X := v22.toInt) (Y := y11.toInt) c23 rfl rfl
        refine pv_aload_n (M := mX4_fewestStrokes) 0 dX4_fewestStrokes_99 100 rfl rfl rfl ?_
        refine pv_aload_n (M := mX4_fewestStrokes) 1 dX4_fewestStrokes_100 101 rfl rfl rfl ?_
        refine iv_get (M := mX4_fewestStrokes) (l1 := 0) (l2 := (rm0 : Int)) dX4_fewestStrokes_101 FX8 1 wd198 (by decide) ha0.1 rfl I14 ha0.2.2.1 104 rfl (fun v24 ev24 pv24 qv24 => ?_)
        refine pv_iload_n (M := mX4_fewestStrokes) 3 dX4_fewestStrokes_104 105 rfl rfl rfl ?_
        refine pv_callv (M := mX4_fewestStrokes) (as := [.int v24, .int x2]) (st := []) (kc2 := 0) (ks2 := 0) dX4_fewestStrokes_105 wd898 YX4_fewestTo ⟨wd900, wd32⟩ (mk_get (tl104 hT)) rfl rfl (s_X4_fewestTo g hT I14 v24 (by omega) (by omega) x2) rfl rfl (Nat.le_of_ble_eq_true rfl) (by decide) rfl rfl 108 rfl (fun rv h1 q25 => ?_)
        obtain ⟨v26, rfl, rfl, pv26, qv26, rv26⟩ := q25
        show PV _ _ _ _ _ _ _ 108 [.ref 104, .ref a0, .ref a1, .int x2, .int y11, pv_U] [.int v26] _
        exact pv_iret (M := mX4_fewestStrokes) dX4_fewestStrokes_108 rfl rfl ⟨_, _, _, rfl, rfl, I14, K15, (iv_rng v26).1, (iv_rng v26).2, trivial⟩
      · have c23 := iv_nle (X := v22.toInt) (Y := y11.toInt) c23 rfl rfl
        refine pv_aload_n (M := mX4_fewestStrokes) 1 dX4_fewestStrokes_28 29 rfl rfl rfl ?_
        refine iv_get (M := mX4_fewestStrokes) (l1 := 0) (l2 := (rm0 : Int)) dX4_fewestStrokes_29 FX8 1 wd198 (by decide) ha0.1 rfl I14 ha0.2.2.1 32 rfl (fun v27 ev27 pv27 qv27 => ?_)
        refine pv_iconst (M := mX4_fewestStrokes) (v := 1) dX4_fewestStrokes_32 33 rfl (by decide) ?_
        refine iv_isub (M := mX4_fewestStrokes) (X := v27.toInt) (Y := 1) dX4_fewestStrokes_33 34 rfl rfl (by decide) (by omega) (by omega) (fun v28 ev28 => ?_)
        refine pv_istore (M := mX4_fewestStrokes) (lo2 := [.ref 104, .ref a0, .ref a1, .int x2, .int y11, .int v28]) dX4_fewestStrokes_34 36 rfl (by decide) rfl rfl ?_
        have lp35 : ∀ (fuel34 : Nat) (y29 : Int32) (m30 : Nat → Nat → Int32) (n31 : Nat → Nat → Int64), (-1 ≤ y29.toInt) → (y29.toInt ≤ 39) → (y29.toInt < (rm0 : Int)) → IV BB m30 → fr (wl [(105, 105, none)]) m m30 → ((y29.toInt - (-1)) : Int).toNat < fuel34 → PV none g mX4_fewestStrokes (sqI T BB (wl [(105, 105, none)]) r m (-2147483648) 2147483647 (fun m' v => True)) 3 0 0 36 [.ref 104, .ref a0, .ref a1, .int x2, .int y11, .int y29] [] (mk T m30 n31 r) := by
          intro fuel34
          induction fuel34 with
          | zero => intro y29 m30 n31 b37 b38 b39 I32 K33 z40; omega
          | succ fuel34 ih36 =>
            intro y29 m30 n31 b37 b38 b39 I32 K33 z40
            refine pv_iload (M := mX4_fewestStrokes) dX4_fewestStrokes_36 38 rfl rfl ?_
            refine pv_if_lt (M := mX4_fewestStrokes) (tgt := 85) dX4_fewestStrokes_38 41 rfl (by decide) (fun c41 => ?_) (fun c41 => ?_)
            · have c41 := iv_lt (X := y29.toInt) (Y := 0) c41 rfl (by decide)
              refine pv_aload_n (M := mX4_fewestStrokes) 0 dX4_fewestStrokes_85 86 rfl rfl rfl ?_
              refine mv_get (M := mX4_fewestStrokes) (v := .ref 105) dX4_fewestStrokes_86 FX4 0 wd332 (by decide) (tl104 hT) rfl rfl 89 rfl ?_
              refine pv_iconst (M := mX4_fewestStrokes) (v := 0) dX4_fewestStrokes_89 90 rfl (by decide) ?_
              refine pv_ldc (M := mX4_fewestStrokes) (v := 1000000) dX4_fewestStrokes_90 92 rfl wd878 ?_
              refine iv_iast (M := mX4_fewestStrokes) (X := 0) (l1 := (-2147483648)) (l2 := 2147483647) dX4_fewestStrokes_92 (tl105 hT) (by decide) (by omega) (by omega) I32 (fun _ => rfl) (by decide) (by decide) 93 rfl (fun m42 e45 I43 => ?_)
              have K44 := K33.set e45 (wl_r (by omega) (by omega))
              refine iv_inc (M := mX4_fewestStrokes) (C := 1) dX4_fewestStrokes_93 96 rfl rfl (by decide) rfl rfl (by decide) (by omega) (by omega) (fun v46 ev46 => ?_)
              show PV _ _ _ _ _ _ _ 96 [.ref 104, .ref a0, .ref a1, .int x2, .int v46, .int y29] [] _
              refine pv_goto (M := mX4_fewestStrokes) (tgt := 19) dX4_fewestStrokes_96 (by decide) ?_
              refine pv_fg (lo2 := [.ref 104, .ref a0, .ref a1, .int x2, .int v46, pv_U]) ⟨Or.inr rfl, ⟨Or.inr rfl, ⟨Or.inr rfl, ⟨Or.inr rfl, ⟨Or.inr rfl, ⟨Or.inl rfl, trivial⟩⟩⟩⟩⟩⟩ ?_
              exact ih18 v46 m42 n31 (by first | omega | assumption | exact (iv_rng _).2 | exact (iv_rng _).1 | decide) (by first | omega | assumption | exact (iv_rng _).2 | exact (iv_rng _).1 | decide) I43 K44 (by omega)
            · have c41 := iv_nlt (X := y29.toInt) (Y := 0) c41 rfl (by decide)
              refine pv_aload_n (M := mX4_fewestStrokes) 0 dX4_fewestStrokes_41 42 rfl rfl rfl ?_
              refine mv_get (M := mX4_fewestStrokes) (v := .ref 105) dX4_fewestStrokes_42 FX4 0 wd332 (by decide) (tl104 hT) rfl rfl 45 rfl ?_
              refine pv_iload (M := mX4_fewestStrokes) dX4_fewestStrokes_45 47 rfl rfl ?_
              refine pv_iconst (M := mX4_fewestStrokes) (v := 1) dX4_fewestStrokes_47 48 rfl (by decide) ?_
              refine iv_iadd (M := mX4_fewestStrokes) (X := y29.toInt) (Y := 1) dX4_fewestStrokes_48 49 rfl rfl (by decide) (by omega) (by omega) (fun v47 ev47 => ?_)
              refine pv_aload_n (M := mX4_fewestStrokes) 1 dX4_fewestStrokes_49 50 rfl rfl rfl ?_
              refine mv_get (M := mX4_fewestStrokes) (v := .ref (a0 + 1)) dX4_fewestStrokes_50 FX8 0 wd189 (by decide) ha0.1 rfl rfl 53 rfl ?_
              refine pv_iload (M := mX4_fewestStrokes) dX4_fewestStrokes_53 55 rfl rfl ?_
              refine iv_iald (M := mX4_fewestStrokes) (X := y29.toInt) (l1 := (-2147483648)) (l2 := 2147483647) dX4_fewestStrokes_55 ha0.2.1 rfl (by omega) (by omega) I32 ha0.2.2.2.1 56 rfl (fun v48 ev48 pv48 qv48 => ?_)
              refine pv_aload_n (M := mX4_fewestStrokes) 2 dX4_fewestStrokes_56 57 rfl rfl rfl ?_
              refine mv_get (M := mX4_fewestStrokes) (v := .ref (a1 + 1)) dX4_fewestStrokes_57 FX8 0 wd189 (by decide) ha1.1 rfl rfl 60 rfl ?_
              refine pv_iload (M := mX4_fewestStrokes) dX4_fewestStrokes_60 62 rfl rfl ?_
              refine iv_iald (M := mX4_fewestStrokes) (X := y11.toInt) (l1 := (-2147483648)) (l2 := 2147483647) dX4_fewestStrokes_62 ha1.2.1 rfl (by omega) (by omega) I32 ha1.2.2.2.1 63 rfl (fun v49 ev49 pv49 qv49 => ?_)
              refine pv_icmp_ne (M := mX4_fewestStrokes) (tgt := 76) dX4_fewestStrokes_63 66 rfl (by decide) (fun c50 => ?_) (fun c50 => ?_)
              · have c50 := iv_ne (X := v48.toInt) (Y := v49.toInt) c50 rfl rfl
                refine pv_ldc (M := mX4_fewestStrokes) (v := 1000000) dX4_fewestStrokes_76 78 rfl wd878 ?_
                refine iv_iast (M := mX4_fewestStrokes) (X := v47.toInt) (l1 := (-2147483648)) (l2 := 2147483647) dX4_fewestStrokes_78 (tl105 hT) rfl (by omega) (by omega) I32 (fun _ => rfl) (by decide) (by decide) 79 rfl (fun m51 e54 I52 => ?_)
                have K53 := K33.set e54 (wl_r (by omega) (by omega))
                refine iv_inc (M := mX4_fewestStrokes) (C := (-1)) dX4_fewestStrokes_79 82 rfl rfl (by decide) rfl rfl (by decide) (by omega) (by omega) (fun v55 ev55 => ?_)
                show PV _ _ _ _ _ _ _ 82 [.ref 104, .ref a0, .ref a1, .int x2, .int y11, .int v55] [] _
                refine pv_goto (M := mX4_fewestStrokes) (tgt := 36) dX4_fewestStrokes_82 (by decide) ?_
                exact ih36 v55 m51 n31 (by first | omega | assumption | exact (iv_rng _).2 | exact (iv_rng _).1 | decide) (by first | omega | assumption | exact (iv_rng _).2 | exact (iv_rng _).1 | decide) (by first | omega | assumption | (show v55.toInt < (rm0 : Int); omega) | decide) I52 K53 (by omega)
              · have c50 := iv_eq (X := v48.toInt) (Y := v49.toInt) c50 rfl rfl
                refine pv_aload_n (M := mX4_fewestStrokes) 0 dX4_fewestStrokes_66 67 rfl rfl rfl ?_
                refine pv_iload (M := mX4_fewestStrokes) dX4_fewestStrokes_67 69 rfl rfl ?_
                refine pv_iload_n (M := mX4_fewestStrokes) 3 dX4_fewestStrokes_69 70 rfl rfl rfl ?_
                refine pv_callv (M := mX4_fewestStrokes) (as := [.int y29, .int x2]) (st := [.int v47, .ref 105]) (kc2 := 0) (ks2 := 0) dX4_fewestStrokes_70 wd898 YX4_fewestTo ⟨wd900, wd32⟩ (mk_get (tl104 hT)) rfl rfl (s_X4_fewestTo g hT I32 y29 (by omega) (by omega) x2) rfl rfl (Nat.le_of_ble_eq_true rfl) (by decide) rfl rfl 73 rfl (fun rv h1 q56 => ?_)
                obtain ⟨v57, rfl, rfl, pv57, qv57, rv57⟩ := q56
                show PV _ _ _ _ _ _ _ 73 [.ref 104, .ref a0, .ref a1, .int x2, .int y11, .int y29] [.int v57, .int v47, .ref 105] _
                refine pv_goto (M := mX4_fewestStrokes) (tgt := 78) dX4_fewestStrokes_73 (by decide) ?_
                refine iv_iast (M := mX4_fewestStrokes) (X := v47.toInt) (l1 := (-2147483648)) (l2 := 2147483647) dX4_fewestStrokes_78 (tl105 hT) rfl (by omega) (by omega) I32 (fun _ => rfl) (iv_rng v57).1 (iv_rng v57).2 79 rfl (fun m58 e61 I59 => ?_)
                have K60 := K33.set e61 (wl_r (by omega) (by omega))
                refine iv_inc (M := mX4_fewestStrokes) (C := (-1)) dX4_fewestStrokes_79 82 rfl rfl (by decide) rfl rfl (by decide) (by omega) (by omega) (fun v62 ev62 => ?_)
                show PV _ _ _ _ _ _ _ 82 [.ref 104, .ref a0, .ref a1, .int x2, .int y11, .int v62] [] _
                refine pv_goto (M := mX4_fewestStrokes) (tgt := 36) dX4_fewestStrokes_82 (by decide) ?_
                exact ih36 v62 m58 n31 (by first | omega | assumption | exact (iv_rng _).2 | exact (iv_rng _).1 | decide) (by first | omega | assumption | exact (iv_rng _).2 | exact (iv_rng _).1 | decide) (by first | omega | assumption | (show v62.toInt < (rm0 : Int); omega) | decide) I59 K60 (by omega)
        exact lp35 (((v28.toInt - (-1)) : Int).toNat + 1) v28 m12 n13 (by first | omega | assumption | exact (iv_rng _).2 | exact (iv_rng _).1 | decide) (by first | omega | assumption | exact (iv_rng _).2 | exact (iv_rng _).1 | decide) (by first | omega | assumption | (show v28.toInt < (rm0 : Int); omega) | decide) I14 K15 (by omega)
  have z63 : (0 : Int32).toInt = 0 := by decide
  exact lp17 (((48 - 0) : Int).toNat + 1) 0 m7 n4 (by first | omega | assumption | exact (iv_rng _).2 | exact (iv_rng _).1 | decide) (by first | omega | assumption | exact (iv_rng _).2 | exact (iv_rng _).1 | decide) I8 K9 (by omega)

set_option maxHeartbeats 2000000 in
set_option maxRecDepth 20000 in
theorem s_X4_evenChoices (g : pv_G) {T : List mv_T} {m : Nat → Nat → Int32} {n : Nat → Nat → Int64} {r : Nat → Value} (hT : TX T) (I : IV BB m) (a0 : Nat) (rm0 : Nat) (ha0 : RowAt T a0 rm0) (hm0 : rm0 ≤ 40) (a1 : Nat) (rm1 : Nat) (ha1 : RowAt T a1 rm1) (x2 : Int32) : PM g mX4_evenChoices yX4_evenChoices (sqJ T BB (wl []) r m (fun m' => True)) 2 0 0 [.ref 104, .ref a0, .ref a1, .int x2] (mk T m n r) := by
  have Kp : fr (wl []) m m := fr.rf
  have zr0 := ha0.2.2.2.2
  have zr1 := ha1.2.2.2.2
  refine PM.of 2 (lo := [.ref 104, .ref a0, .ref a1, .int x2, pv_U, pv_U]) rfl (by decide) rfl rfl (Nat.le_of_ble_eq_true rfl) ?_
  refine pv_aload_n (M := mX4_evenChoices) 0 dX4_evenChoices_0 1 rfl rfl rfl ?_
  refine mv_get (M := mX4_evenChoices) (v := .ref 106) dX4_evenChoices_1 FX4 1 wd333 (by decide) (tl104 hT) rfl rfl 4 rfl ?_
  refine pv_lconst (M := mX4_evenChoices) (v := 0) dX4_evenChoices_4 5 rfl (by decide) ?_
  refine pv_calls (M := mX4_evenChoices) (as := [.ref 106, .long 0]) (st := []) (kc2 := 0) (ks2 := 0) dX4_evenChoices_5 wd837 YJ7_fill_d0a16 wd838 (s_J7_fill_d0a16 g hT I 106 41 ⟨(tl106 hT), by decide⟩ 0) rfl rfl (Nat.le_of_ble_eq_true rfl) (by decide) rfl rfl 8 rfl (fun rv h1 q1 => ?_)
  obtain ⟨m2, n3, rfl, rfl, I4, K5, rm2⟩ := q1
  have K5c := K5
  have K5 := Kp.trans (K5.sub (fun _ _ q => q))
  show PV _ _ _ _ _ _ _ 8 [.ref 104, .ref a0, .ref a1, .int x2, pv_U, pv_U] [] _
  refine pv_aload_n (M := mX4_evenChoices) 0 dX4_evenChoices_8 9 rfl rfl rfl ?_
  refine mv_get (M := mX4_evenChoices) (v := .ref 106) dX4_evenChoices_9 FX4 1 wd333 (by decide) (tl104 hT) rfl rfl 12 rfl ?_
  refine pv_iconst (M := mX4_evenChoices) (v := 0) dX4_evenChoices_12 13 rfl (by decide) ?_
  refine pv_lconst (M := mX4_evenChoices) (v := 1) dX4_evenChoices_13 14 rfl (by decide) ?_
  refine iv_last (M := mX4_evenChoices) (X := 0) dX4_evenChoices_14 (tl106 hT) (by decide) (by omega) (by omega) 15 rfl (fun n6 en6 => ?_)
  refine pv_iconst (M := mX4_evenChoices) (v := 0) dX4_evenChoices_15 16 rfl (by decide) ?_
  refine pv_istore (M := mX4_evenChoices) (lo2 := [.ref 104, .ref a0, .ref a1, .int x2, .int 0, pv_U]) dX4_evenChoices_16 18 rfl (by decide) rfl rfl ?_
  have lp13 : ∀ (fuel12 : Nat) (y7 : Int32) (m8 : Nat → Nat → Int32) (n9 : Nat → Nat → Int64), (0 ≤ y7.toInt) → (y7.toInt ≤ 48) → IV BB m8 → fr (wl []) m m8 → ((48 - y7.toInt) : Int).toNat < fuel12 → PV none g mX4_evenChoices (sqJ T BB (wl []) r m (fun m' => True)) 2 0 0 18 [.ref 104, .ref a0, .ref a1, .int x2, .int y7, pv_U] [] (mk T m8 n9 r) := by
    intro fuel12
    induction fuel12 with
    | zero => intro y7 m8 n9 b15 b16 I10 K11 z17; omega
    | succ fuel12 ih14 =>
      intro y7 m8 n9 b15 b16 I10 K11 z17
      refine pv_iload (M := mX4_evenChoices) dX4_evenChoices_18 20 rfl rfl ?_
      refine pv_aload_n (M := mX4_evenChoices) 2 dX4_evenChoices_20 21 rfl rfl rfl ?_
      refine iv_get (M := mX4_evenChoices) (l1 := 0) (l2 := (rm1 : Int)) dX4_evenChoices_21 FX8 1 wd198 (by decide) ha1.1 rfl I10 ha1.2.2.1 24 rfl (fun v18 ev18 pv18 qv18 => ?_)
      refine pv_icmp_ge (M := mX4_evenChoices) (tgt := 96) dX4_evenChoices_24 27 rfl (by decide) (fun c19 => ?_) (fun c19 => ?_)
      · have c19 := iv_le (X := v18.toInt) (Y := y7.toInt) c19 rfl rfl
        refine pv_aload_n (M := mX4_evenChoices) 0 dX4_evenChoices_96 97 rfl rfl rfl ?_
        refine pv_aload_n (M := mX4_evenChoices) 1 dX4_evenChoices_97 98 rfl rfl rfl ?_
        refine iv_get (M := mX4_evenChoices) (l1 := 0) (l2 := (rm0 : Int)) dX4_evenChoices_98 FX8 1 wd198 (by decide) ha0.1 rfl I10 ha0.2.2.1 101 rfl (fun v20 ev20 pv20 qv20 => ?_)
        refine pv_iload_n (M := mX4_evenChoices) 3 dX4_evenChoices_101 102 rfl rfl rfl ?_
        refine pv_callv (M := mX4_evenChoices) (as := [.int v20, .int x2]) (st := []) (kc2 := 0) (ks2 := 0) dX4_evenChoices_102 wd840 YX4_manyTo ⟨wd842, wd26⟩ (mk_get (tl104 hT)) rfl rfl (s_X4_manyTo g hT I10 v20 (by omega) (by omega) x2) rfl rfl (Nat.le_of_ble_eq_true rfl) (by decide) rfl rfl 105 rfl (fun rv h1 q21 => ?_)
        obtain ⟨v22, rfl, rfl⟩ := q21
        show PV _ _ _ _ _ _ _ 105 [.ref 104, .ref a0, .ref a1, .int x2, .int y7, pv_U] [.long v22] _
        exact pv_lret (M := mX4_evenChoices) dX4_evenChoices_105 rfl ⟨_, _, _, rfl, rfl, I10, K11, trivial⟩
      · have c19 := iv_nle (X := v18.toInt) (Y := y7.toInt) c19 rfl rfl
        refine pv_aload_n (M := mX4_evenChoices) 1 dX4_evenChoices_27 28 rfl rfl rfl ?_
        refine iv_get (M := mX4_evenChoices) (l1 := 0) (l2 := (rm0 : Int)) dX4_evenChoices_28 FX8 1 wd198 (by decide) ha0.1 rfl I10 ha0.2.2.1 31 rfl (fun v23 ev23 pv23 qv23 => ?_)
        refine pv_iconst (M := mX4_evenChoices) (v := 1) dX4_evenChoices_31 32 rfl (by decide) ?_
        refine iv_isub (M := mX4_evenChoices) (X := v23.toInt) (Y := 1) dX4_evenChoices_32 33 rfl rfl (by decide) (by omega) (by omega) (fun v24 ev24 => ?_)
        refine pv_istore (M := mX4_evenChoices) (lo2 := [.ref 104, .ref a0, .ref a1, .int x2, .int y7, .int v24]) dX4_evenChoices_33 35 rfl (by decide) rfl rfl ?_
        have lp31 : ∀ (fuel30 : Nat) (y25 : Int32) (m26 : Nat → Nat → Int32) (n27 : Nat → Nat → Int64), (-1 ≤ y25.toInt) → (y25.toInt ≤ 39) → (y25.toInt < (rm0 : Int)) → IV BB m26 → fr (wl []) m m26 → ((y25.toInt - (-1)) : Int).toNat < fuel30 → PV none g mX4_evenChoices (sqJ T BB (wl []) r m (fun m' => True)) 2 0 0 35 [.ref 104, .ref a0, .ref a1, .int x2, .int y7, .int y25] [] (mk T m26 n27 r) := by
          intro fuel30
          induction fuel30 with
          | zero => intro y25 m26 n27 b33 b34 b35 I28 K29 z36; omega
          | succ fuel30 ih32 =>
            intro y25 m26 n27 b33 b34 b35 I28 K29 z36
            refine pv_iload (M := mX4_evenChoices) dX4_evenChoices_35 37 rfl rfl ?_
            refine pv_if_lt (M := mX4_evenChoices) (tgt := 83) dX4_evenChoices_37 40 rfl (by decide) (fun c37 => ?_) (fun c37 => ?_)
            · have c37 := iv_lt (X := y25.toInt) (Y := 0) c37 rfl (by decide)
              refine pv_aload_n (M := mX4_evenChoices) 0 dX4_evenChoices_83 84 rfl rfl rfl ?_
              refine mv_get (M := mX4_evenChoices) (v := .ref 106) dX4_evenChoices_84 FX4 1 wd333 (by decide) (tl104 hT) rfl rfl 87 rfl ?_
              refine pv_iconst (M := mX4_evenChoices) (v := 0) dX4_evenChoices_87 88 rfl (by decide) ?_
              refine pv_lconst (M := mX4_evenChoices) (v := 0) dX4_evenChoices_88 89 rfl (by decide) ?_
              refine iv_last (M := mX4_evenChoices) (X := 0) dX4_evenChoices_89 (tl106 hT) (by decide) (by omega) (by omega) 90 rfl (fun n38 en38 => ?_)
              refine iv_inc (M := mX4_evenChoices) (C := 1) dX4_evenChoices_90 93 rfl rfl (by decide) rfl rfl (by decide) (by omega) (by omega) (fun v39 ev39 => ?_)
              show PV _ _ _ _ _ _ _ 93 [.ref 104, .ref a0, .ref a1, .int x2, .int v39, .int y25] [] _
              refine pv_goto (M := mX4_evenChoices) (tgt := 18) dX4_evenChoices_93 (by decide) ?_
              refine pv_fg (lo2 := [.ref 104, .ref a0, .ref a1, .int x2, .int v39, pv_U]) ⟨Or.inr rfl, ⟨Or.inr rfl, ⟨Or.inr rfl, ⟨Or.inr rfl, ⟨Or.inr rfl, ⟨Or.inl rfl, trivial⟩⟩⟩⟩⟩⟩ ?_
              exact ih14 v39 m26 n38 (by first | omega | assumption | exact (iv_rng _).2 | exact (iv_rng _).1 | decide) (by first | omega | assumption | exact (iv_rng _).2 | exact (iv_rng _).1 | decide) I28 K29 (by omega)
            · have c37 := iv_nlt (X := y25.toInt) (Y := 0) c37 rfl (by decide)
              refine pv_aload_n (M := mX4_evenChoices) 0 dX4_evenChoices_40 41 rfl rfl rfl ?_
              refine mv_get (M := mX4_evenChoices) (v := .ref 106) dX4_evenChoices_41 FX4 1 wd333 (by decide) (tl104 hT) rfl rfl 44 rfl ?_
              refine pv_iload (M := mX4_evenChoices) dX4_evenChoices_44 46 rfl rfl ?_
              refine pv_iconst (M := mX4_evenChoices) (v := 1) dX4_evenChoices_46 47 rfl (by decide) ?_
              refine iv_iadd (M := mX4_evenChoices) (X := y25.toInt) (Y := 1) dX4_evenChoices_47 48 rfl rfl (by decide) (by omega) (by omega) (fun v40 ev40 => ?_)
              refine pv_aload_n (M := mX4_evenChoices) 1 dX4_evenChoices_48 49 rfl rfl rfl ?_
              refine mv_get (M := mX4_evenChoices) (v := .ref (a0 + 1)) dX4_evenChoices_49 FX8 0 wd189 (by decide) ha0.1 rfl rfl 52 rfl ?_
              refine pv_iload (M := mX4_evenChoices) dX4_evenChoices_52 54 rfl rfl ?_
              refine iv_iald (M := mX4_evenChoices) (X := y25.toInt) (l1 := (-2147483648)) (l2 := 2147483647) dX4_evenChoices_54 ha0.2.1 rfl (by omega) (by omega) I28 ha0.2.2.2.1 55 rfl (fun v41 ev41 pv41 qv41 => ?_)
              refine pv_aload_n (M := mX4_evenChoices) 2 dX4_evenChoices_55 56 rfl rfl rfl ?_
              refine mv_get (M := mX4_evenChoices) (v := .ref (a1 + 1)) dX4_evenChoices_56 FX8 0 wd189 (by decide) ha1.1 rfl rfl 59 rfl ?_
              refine pv_iload (M := mX4_evenChoices) dX4_evenChoices_59 61 rfl rfl ?_
              refine iv_iald (M := mX4_evenChoices) (X := y7.toInt) (l1 := (-2147483648)) (l2 := 2147483647) dX4_evenChoices_61 ha1.2.1 rfl (by omega) (by omega) I28 ha1.2.2.2.1 62 rfl (fun v42 ev42 pv42 qv42 => ?_)
              refine pv_icmp_ne (M := mX4_evenChoices) (tgt := 75) dX4_evenChoices_62 65 rfl (by decide) (fun c43 => ?_) (fun c43 => ?_)
              · have c43 := iv_ne (X := v41.toInt) (Y := v42.toInt) c43 rfl rfl
                refine pv_lconst (M := mX4_evenChoices) (v := 0) dX4_evenChoices_75 76 rfl (by decide) ?_
                refine iv_last (M := mX4_evenChoices) (X := v40.toInt) dX4_evenChoices_76 (tl106 hT) rfl (by omega) (by omega) 77 rfl (fun n44 en44 => ?_)
                refine iv_inc (M := mX4_evenChoices) (C := (-1)) dX4_evenChoices_77 80 rfl rfl (by decide) rfl rfl (by decide) (by omega) (by omega) (fun v45 ev45 => ?_)
                show PV _ _ _ _ _ _ _ 80 [.ref 104, .ref a0, .ref a1, .int x2, .int y7, .int v45] [] _
                refine pv_goto (M := mX4_evenChoices) (tgt := 35) dX4_evenChoices_80 (by decide) ?_
                exact ih32 v45 m26 n44 (by first | omega | assumption | exact (iv_rng _).2 | exact (iv_rng _).1 | decide) (by first | omega | assumption | exact (iv_rng _).2 | exact (iv_rng _).1 | decide) (by first | omega | assumption | (show v45.toInt < (rm0 : Int); omega) | decide) I28 K29 (by omega)
              · have c43 := iv_eq (X := v41.toInt) (Y := v42.toInt) c43 rfl rfl
                refine pv_aload_n (M := mX4_evenChoices) 0 dX4_evenChoices_65 66 rfl rfl rfl ?_
                refine pv_iload (M := mX4_evenChoices) dX4_evenChoices_66 68 rfl rfl ?_
                refine pv_iload_n (M := mX4_evenChoices) 3 dX4_evenChoices_68 69 rfl rfl rfl ?_
                refine pv_callv (M := mX4_evenChoices) (as := [.int y25, .int x2]) (st := [.int v40, .ref 106]) (kc2 := 0) (ks2 := 0) dX4_evenChoices_69 wd840 YX4_manyTo ⟨wd842, wd26⟩ (mk_get (tl104 hT)) rfl rfl (s_X4_manyTo g hT I28 y25 (by omega) (by omega) x2) rfl rfl (Nat.le_of_ble_eq_true rfl) (by decide) rfl rfl 72 rfl (fun rv h1 q46 => ?_)
                obtain ⟨v47, rfl, rfl⟩ := q46
                show PV _ _ _ _ _ _ _ 72 [.ref 104, .ref a0, .ref a1, .int x2, .int y7, .int y25] [.long v47, .int v40, .ref 106] _
                refine pv_goto (M := mX4_evenChoices) (tgt := 76) dX4_evenChoices_72 (by decide) ?_
                refine iv_last (M := mX4_evenChoices) (X := v40.toInt) dX4_evenChoices_76 (tl106 hT) rfl (by omega) (by omega) 77 rfl (fun n48 en48 => ?_)
                refine iv_inc (M := mX4_evenChoices) (C := (-1)) dX4_evenChoices_77 80 rfl rfl (by decide) rfl rfl (by decide) (by omega) (by omega) (fun v49 ev49 => ?_)
                show PV _ _ _ _ _ _ _ 80 [.ref 104, .ref a0, .ref a1, .int x2, .int y7, .int v49] [] _
                refine pv_goto (M := mX4_evenChoices) (tgt := 35) dX4_evenChoices_80 (by decide) ?_
                exact ih32 v49 m26 n48 (by first | omega | assumption | exact (iv_rng _).2 | exact (iv_rng _).1 | decide) (by first | omega | assumption | exact (iv_rng _).2 | exact (iv_rng _).1 | decide) (by first | omega | assumption | (show v49.toInt < (rm0 : Int); omega) | decide) I28 K29 (by omega)
        exact lp31 (((v24.toInt - (-1)) : Int).toNat + 1) v24 m8 n9 (by first | omega | assumption | exact (iv_rng _).2 | exact (iv_rng _).1 | decide) (by first | omega | assumption | exact (iv_rng _).2 | exact (iv_rng _).1 | decide) (by first | omega | assumption | (show v24.toInt < (rm0 : Int); omega) | decide) I10 K11 (by omega)
  have z50 : (0 : Int32).toInt = 0 := by decide
  exact lp13 (((48 - 0) : Int).toNat + 1) 0 m2 n6 (by first | omega | assumption | exact (iv_rng _).2 | exact (iv_rng _).1 | decide) (by first | omega | assumption | exact (iv_rng _).2 | exact (iv_rng _).1 | decide) I4 K5 (by omega)

set_option maxHeartbeats 2000000 in
set_option maxRecDepth 20000 in
theorem s_X2_ifStruck (g : pv_G) {T : List mv_T} {m : Nat → Nat → Int32} {n : Nat → Nat → Int64} {r : Nat → Value} (hT : TX T) (I : IV BB m) (x0 : Int32) (hl0 : 0 ≤ x0.toInt) (hh0 : x0.toInt ≤ 39) (x1 : Int32) (hl1 : 0 ≤ x1.toInt) (hh1 : x1.toInt ≤ 16) : PM g mX2_ifStruck yX2_ifStruck (sqP (mk T m n r) (-2147483648) 2147483647 (fun v => True)) 1 0 0 [.ref 107, .int x0, .int x1] (mk T m n r) := by
  have Kp : fr (wl []) m m := fr.rf
  refine PM.of 1 (lo := [.ref 107, .int x0, .int x1, pv_U]) rfl (by decide) rfl rfl (Nat.le_of_ble_eq_true rfl) ?_
  refine pv_aload_n (M := mX2_ifStruck) 0 dX2_ifStruck_0 1 rfl rfl rfl ?_
  refine mv_get (M := mX2_ifStruck) (v := .ref 111) dX2_ifStruck_1 FX2 3 wd352 (by decide) (tl107 hT) rfl rfl 4 rfl ?_
  refine pv_iload_n (M := mX2_ifStruck) 1 dX2_ifStruck_4 5 rfl rfl rfl ?_
  refine pv_iconst (M := mX2_ifStruck) (v := 1) dX2_ifStruck_5 6 rfl (by decide) ?_
  refine iv_iadd (M := mX2_ifStruck) (X := x0.toInt) (Y := 1) dX2_ifStruck_6 7 rfl rfl (by decide) (by omega) (by omega) (fun v1 ev1 => ?_)
  refine pv_bipush (M := mX2_ifStruck) (v := 17) dX2_ifStruck_7 9 rfl (by decide) ?_
  refine iv_imul (M := mX2_ifStruck) (X := v1.toInt) (Y := 17) dX2_ifStruck_9 10 rfl rfl (by decide) (by omega) (by omega) (fun v2 ev2 => ?_)
  refine pv_iload_n (M := mX2_ifStruck) 2 dX2_ifStruck_10 11 rfl rfl rfl ?_
  refine iv_iadd (M := mX2_ifStruck) (X := v2.toInt) (Y := x1.toInt) dX2_ifStruck_11 12 rfl rfl rfl (by omega) (by omega) (fun v3 ev3 => ?_)
  refine iv_iald (M := mX2_ifStruck) (X := v3.toInt) (l1 := (-2147483648)) (l2 := 2147483647) dX2_ifStruck_12 (tl111 hT) rfl (by omega) (by omega) I (fun _ => rfl) 13 rfl (fun v4 ev4 pv4 qv4 => ?_)
  refine pv_istore_n (M := mX2_ifStruck) 3 (lo2 := [.ref 107, .int x0, .int x1, .int v4]) dX2_ifStruck_13 14 rfl rfl (by decide) rfl rfl ?_
  refine pv_aload_n (M := mX2_ifStruck) 0 dX2_ifStruck_14 15 rfl rfl rfl ?_
  refine mv_get (M := mX2_ifStruck) (v := .ref 108) dX2_ifStruck_15 FX2 0 wd346 (by decide) (tl107 hT) rfl rfl 18 rfl ?_
  refine pv_iload_n (M := mX2_ifStruck) 1 dX2_ifStruck_18 19 rfl rfl rfl ?_
  refine iv_zald (M := mX2_ifStruck) (X := x0.toInt) (l1 := 0) (l2 := 1) dX2_ifStruck_19 (tl108 hT) rfl (by omega) (by omega) I (fun _ => rfl) 20 rfl (fun v5 ev5 pv5 qv5 => ?_)
  refine pv_if_eq (M := mX2_ifStruck) (tgt := 40) dX2_ifStruck_20 23 rfl (by decide) (fun c6 => ?_) (fun c6 => ?_)
  · have c6 := iv_eq (X := v5.toInt) (Y := 0) c6 rfl (by decide)
    refine pv_ldc (M := mX2_ifStruck) (v := 1000000) dX2_ifStruck_40 42 rfl wd853 ?_
    exact pv_iret (M := mX2_ifStruck) dX2_ifStruck_42 rfl rfl ⟨_, rfl, rfl, by decide, by decide, trivial⟩
  · have c6 := iv_ne (X := v5.toInt) (Y := 0) c6 rfl (by decide)
    refine pv_iload_n (M := mX2_ifStruck) 3 dX2_ifStruck_23 24 rfl rfl rfl ?_
    refine pv_ldc (M := mX2_ifStruck) (v := 1000000) dX2_ifStruck_24 26 rfl wd853 ?_
    refine pv_icmp_ge (M := mX2_ifStruck) (tgt := 40) dX2_ifStruck_26 29 rfl (by decide) (fun c7 => ?_) (fun c7 => ?_)
    · have c7 := iv_le (X := 1000000) (Y := v4.toInt) c7 (by decide) rfl
      refine pv_ldc (M := mX2_ifStruck) (v := 1000000) dX2_ifStruck_40 42 rfl wd853 ?_
      exact pv_iret (M := mX2_ifStruck) dX2_ifStruck_42 rfl rfl ⟨_, rfl, rfl, by decide, by decide, trivial⟩
    · have c7 := iv_nle (X := 1000000) (Y := v4.toInt) c7 (by decide) rfl
      refine pv_iload_n (M := mX2_ifStruck) 3 dX2_ifStruck_29 30 rfl rfl rfl ?_
      refine pv_aload_n (M := mX2_ifStruck) 0 dX2_ifStruck_30 31 rfl rfl rfl ?_
      refine mv_get (M := mX2_ifStruck) (v := .ref 109) dX2_ifStruck_31 FX2 1 wd348 (by decide) (tl107 hT) rfl rfl 34 rfl ?_
      refine pv_iload_n (M := mX2_ifStruck) 1 dX2_ifStruck_34 35 rfl rfl rfl ?_
      refine iv_iald (M := mX2_ifStruck) (X := x0.toInt) (l1 := (-2147483648)) (l2 := 2147483647) dX2_ifStruck_35 (tl109 hT) rfl (by omega) (by omega) I (fun _ => rfl) 36 rfl (fun v8 ev8 pv8 qv8 => ?_)
      refine iv_addU (M := mX2_ifStruck) dX2_ifStruck_36 37 rfl (fun v9 ev9 => ?_)
      refine pv_goto (M := mX2_ifStruck) (tgt := 42) dX2_ifStruck_37 (by decide) ?_
      exact pv_iret (M := mX2_ifStruck) dX2_ifStruck_42 rfl rfl ⟨_, rfl, rfl, (iv_rng v9).1, (iv_rng v9).2, trivial⟩

set_option maxHeartbeats 2000000 in
set_option maxRecDepth 20000 in
theorem s_X2_ifKept (g : pv_G) {T : List mv_T} {m : Nat → Nat → Int32} {n : Nat → Nat → Int64} {r : Nat → Value} (hT : TX T) (I : IV BB m) (a0 : Nat) (ha0 : RowAt T a0 40) (a1 : Nat) (ha1 : RowAt T a1 16) (x2 : Int32) (hl2 : 0 ≤ x2.toInt) (hh2 : x2.toInt ≤ 39) (x3 : Int32) (hl3 : 0 ≤ x3.toInt) (hh3 : x3.toInt ≤ 16) : PM g mX2_ifKept yX2_ifKept (sqP (mk T m n r) (-2147483648) 2147483647 (fun v => True)) 1 0 0 [.ref 107, .ref a0, .ref a1, .int x2, .int x3] (mk T m n r) := by
  have Kp : fr (wl []) m m := fr.rf
  have zr0 := ha0.2.2.2.2
  have zr1 := ha1.2.2.2.2
  refine PM.of 1 (lo := [.ref 107, .ref a0, .ref a1, .int x2, .int x3, pv_U]) rfl (by decide) rfl rfl (Nat.le_of_ble_eq_true rfl) ?_
  refine pv_iload (M := mX2_ifKept) dX2_ifKept_0 2 rfl rfl ?_
  refine pv_aload_n (M := mX2_ifKept) 2 dX2_ifKept_2 3 rfl rfl rfl ?_
  refine iv_get (M := mX2_ifKept) (l1 := 0) (l2 := 16) dX2_ifKept_3 FX8 1 wd194 (by decide) ha1.1 rfl I ha1.2.2.1 6 rfl (fun v1 ev1 pv1 qv1 => ?_)
  refine pv_icmp_ge (M := mX2_ifKept) (tgt := 29) dX2_ifKept_6 9 rfl (by decide) (fun c2 => ?_) (fun c2 => ?_)
  · have c2 := iv_le (X := v1.toInt) (Y := x3.toInt) c2 rfl rfl
    refine pv_iconst (M := mX2_ifKept) (v := 0) dX2_ifKept_29 30 rfl (by decide) ?_
    refine pv_istore (M := mX2_ifKept) (lo2 := [.ref 107, .ref a0, .ref a1, .int x2, .int x3, .int 0]) dX2_ifKept_30 32 rfl (by decide) rfl rfl ?_
    refine pv_iload (M := mX2_ifKept) dX2_ifKept_32 34 rfl rfl ?_
    refine pv_if_eq (M := mX2_ifKept) (tgt := 56) dX2_ifKept_34 37 rfl (by decide) (fun _ => ?_) (fun q => absurd (by decide) q)
    refine pv_ldc (M := mX2_ifKept) (v := 1000000) dX2_ifKept_56 58 rfl wd853 ?_
    exact pv_iret (M := mX2_ifKept) dX2_ifKept_58 rfl rfl ⟨_, rfl, rfl, by decide, by decide, trivial⟩
  · have c2 := iv_nle (X := v1.toInt) (Y := x3.toInt) c2 rfl rfl
    refine pv_aload_n (M := mX2_ifKept) 1 dX2_ifKept_9 10 rfl rfl rfl ?_
    refine mv_get (M := mX2_ifKept) (v := .ref (a0 + 1)) dX2_ifKept_10 FX8 0 wd190 (by decide) ha0.1 rfl rfl 13 rfl ?_
    refine pv_iload_n (M := mX2_ifKept) 3 dX2_ifKept_13 14 rfl rfl rfl ?_
    refine iv_iald (M := mX2_ifKept) (X := x2.toInt) (l1 := (-2147483648)) (l2 := 2147483647) dX2_ifKept_14 ha0.2.1 rfl (by omega) (by omega) I ha0.2.2.2.1 15 rfl (fun v4 ev4 pv4 qv4 => ?_)
    refine pv_aload_n (M := mX2_ifKept) 2 dX2_ifKept_15 16 rfl rfl rfl ?_
    refine mv_get (M := mX2_ifKept) (v := .ref (a1 + 1)) dX2_ifKept_16 FX8 0 wd190 (by decide) ha1.1 rfl rfl 19 rfl ?_
    refine pv_iload (M := mX2_ifKept) dX2_ifKept_19 21 rfl rfl ?_
    refine iv_iald (M := mX2_ifKept) (X := x3.toInt) (l1 := (-2147483648)) (l2 := 2147483647) dX2_ifKept_21 ha1.2.1 rfl (by omega) (by omega) I ha1.2.2.2.1 22 rfl (fun v5 ev5 pv5 qv5 => ?_)
    refine pv_icmp_ne (M := mX2_ifKept) (tgt := 29) dX2_ifKept_22 25 rfl (by decide) (fun c6 => ?_) (fun c6 => ?_)
    · have c6 := iv_ne (X := v4.toInt) (Y := v5.toInt) c6 rfl rfl
      refine pv_iconst (M := mX2_ifKept) (v := 0) dX2_ifKept_29 30 rfl (by decide) ?_
      refine pv_istore (M := mX2_ifKept) (lo2 := [.ref 107, .ref a0, .ref a1, .int x2, .int x3, .int 0]) dX2_ifKept_30 32 rfl (by decide) rfl rfl ?_
      refine pv_iload (M := mX2_ifKept) dX2_ifKept_32 34 rfl rfl ?_
      refine pv_if_eq (M := mX2_ifKept) (tgt := 56) dX2_ifKept_34 37 rfl (by decide) (fun _ => ?_) (fun q => absurd (by decide) q)
      refine pv_ldc (M := mX2_ifKept) (v := 1000000) dX2_ifKept_56 58 rfl wd853 ?_
      exact pv_iret (M := mX2_ifKept) dX2_ifKept_58 rfl rfl ⟨_, rfl, rfl, by decide, by decide, trivial⟩
    · have c6 := iv_eq (X := v4.toInt) (Y := v5.toInt) c6 rfl rfl
      refine pv_iconst (M := mX2_ifKept) (v := 1) dX2_ifKept_25 26 rfl (by decide) ?_
      refine pv_goto (M := mX2_ifKept) (tgt := 30) dX2_ifKept_26 (by decide) ?_
      refine pv_istore (M := mX2_ifKept) (lo2 := [.ref 107, .ref a0, .ref a1, .int x2, .int x3, .int 1]) dX2_ifKept_30 32 rfl (by decide) rfl rfl ?_
      refine pv_iload (M := mX2_ifKept) dX2_ifKept_32 34 rfl rfl ?_
      refine pv_if_eq (M := mX2_ifKept) (tgt := 56) dX2_ifKept_34 37 rfl (by decide) (fun q => absurd q (by decide)) (fun _ => ?_)
      refine pv_aload_n (M := mX2_ifKept) 0 dX2_ifKept_37 38 rfl rfl rfl ?_
      refine mv_get (M := mX2_ifKept) (v := .ref 111) dX2_ifKept_38 FX2 3 wd352 (by decide) (tl107 hT) rfl rfl 41 rfl ?_
      refine pv_iload_n (M := mX2_ifKept) 3 dX2_ifKept_41 42 rfl rfl rfl ?_
      refine pv_iconst (M := mX2_ifKept) (v := 1) dX2_ifKept_42 43 rfl (by decide) ?_
      refine iv_iadd (M := mX2_ifKept) (X := x2.toInt) (Y := 1) dX2_ifKept_43 44 rfl rfl (by decide) (by omega) (by omega) (fun v9 ev9 => ?_)
      refine pv_bipush (M := mX2_ifKept) (v := 17) dX2_ifKept_44 46 rfl (by decide) ?_
      refine iv_imul (M := mX2_ifKept) (X := v9.toInt) (Y := 17) dX2_ifKept_46 47 rfl rfl (by decide) (by omega) (by omega) (fun v10 ev10 => ?_)
      refine pv_iload (M := mX2_ifKept) dX2_ifKept_47 49 rfl rfl ?_
      refine iv_iadd (M := mX2_ifKept) (X := v10.toInt) (Y := x3.toInt) dX2_ifKept_49 50 rfl rfl rfl (by omega) (by omega) (fun v11 ev11 => ?_)
      refine pv_iconst (M := mX2_ifKept) (v := 1) dX2_ifKept_50 51 rfl (by decide) ?_
      refine iv_iadd (M := mX2_ifKept) (X := v11.toInt) (Y := 1) dX2_ifKept_51 52 rfl rfl (by decide) (by omega) (by omega) (fun v12 ev12 => ?_)
      refine iv_iald (M := mX2_ifKept) (X := v12.toInt) (l1 := (-2147483648)) (l2 := 2147483647) dX2_ifKept_52 (tl111 hT) rfl (by omega) (by omega) I (fun _ => rfl) 53 rfl (fun v13 ev13 pv13 qv13 => ?_)
      refine pv_goto (M := mX2_ifKept) (tgt := 58) dX2_ifKept_53 (by decide) ?_
      exact pv_iret (M := mX2_ifKept) dX2_ifKept_58 rfl rfl ⟨_, rfl, rfl, (iv_rng v13).1, (iv_rng v13).2, trivial⟩

set_option maxHeartbeats 2000000 in
set_option maxRecDepth 20000 in
theorem s_X2_trace (g : pv_G) {T : List mv_T} {m : Nat → Nat → Int32} {n : Nat → Nat → Int64} {r : Nat → Value} (hT : TX T) (I : IV BB m) (a0 : Nat) (ha0 : RowAt T a0 40) (a1 : Nat) (ha1 : RowAt T a1 16) : PM g mX2_trace yX2_trace (sqV T BB (wl [(110, 110, none)]) r m (fun m' => True)) 2 0 0 [.ref 107, .ref a0, .ref a1] (mk T m n r) := by
  have Kp : fr (wl [(110, 110, none)]) m m := fr.rf
  have zr0 := ha0.2.2.2.2
  have zr1 := ha1.2.2.2.2
  refine PM.of 2 (lo := [.ref 107, .ref a0, .ref a1, pv_U, pv_U]) rfl (by decide) rfl rfl (Nat.le_of_ble_eq_true rfl) ?_
  refine pv_iconst (M := mX2_trace) (v := 0) dX2_trace_0 1 rfl (by decide) ?_
  refine pv_istore_n (M := mX2_trace) 3 (lo2 := [.ref 107, .ref a0, .ref a1, .int 0, pv_U]) dX2_trace_1 2 rfl rfl (by decide) rfl rfl ?_
  refine pv_iconst (M := mX2_trace) (v := 0) dX2_trace_2 3 rfl (by decide) ?_
  refine pv_istore (M := mX2_trace) (lo2 := [.ref 107, .ref a0, .ref a1, .int 0, .int 0]) dX2_trace_3 5 rfl (by decide) rfl rfl ?_
  have lp8 : ∀ (fuel7 : Nat) (y1 : Int32) (y2 : Int32) (m3 : Nat → Nat → Int32) (n4 : Nat → Nat → Int64), (0 ≤ y1.toInt) → (y1.toInt ≤ 16) → (0 ≤ y2.toInt) → (y2.toInt ≤ 40) → IV BB m3 → fr (wl [(110, 110, none)]) m m3 → ((40 - y2.toInt) : Int).toNat < fuel7 → PV none g mX2_trace (sqV T BB (wl [(110, 110, none)]) r m (fun m' => True)) 2 0 0 5 [.ref 107, .ref a0, .ref a1, .int y1, .int y2] [] (mk T m3 n4 r) := by
    intro fuel7
    induction fuel7 with
    | zero => intro y1 y2 m3 n4 b10 b11 b12 b13 I5 K6 z14; omega
    | succ fuel7 ih9 =>
      intro y1 y2 m3 n4 b10 b11 b12 b13 I5 K6 z14
      refine pv_iload (M := mX2_trace) dX2_trace_5 7 rfl rfl ?_
      refine pv_aload_n (M := mX2_trace) 1 dX2_trace_7 8 rfl rfl rfl ?_
      refine iv_get (M := mX2_trace) (l1 := 0) (l2 := 40) dX2_trace_8 FX8 1 wd194 (by decide) ha0.1 rfl I5 ha0.2.2.1 11 rfl (fun v15 ev15 pv15 qv15 => ?_)
      refine pv_icmp_ge (M := mX2_trace) (tgt := 63) dX2_trace_11 14 rfl (by decide) (fun c16 => ?_) (fun c16 => ?_)
      · have c16 := iv_le (X := v15.toInt) (Y := y2.toInt) c16 rfl rfl
        exact pv_vret (M := mX2_trace) dX2_trace_63 rfl ⟨_, _, rfl, rfl, I5, K6, trivial⟩
      · have c16 := iv_nle (X := v15.toInt) (Y := y2.toInt) c16 rfl rfl
        refine pv_iload_n (M := mX2_trace) 3 dX2_trace_14 15 rfl rfl rfl ?_
        refine pv_aload_n (M := mX2_trace) 2 dX2_trace_15 16 rfl rfl rfl ?_
        refine iv_get (M := mX2_trace) (l1 := 0) (l2 := 16) dX2_trace_16 FX8 1 wd194 (by decide) ha1.1 rfl I5 ha1.2.2.1 19 rfl (fun v17 ev17 pv17 qv17 => ?_)
        refine pv_icmp_ge (M := mX2_trace) (tgt := 63) dX2_trace_19 22 rfl (by decide) (fun c18 => ?_) (fun c18 => ?_)
        · have c18 := iv_le (X := v17.toInt) (Y := y1.toInt) c18 rfl rfl
          exact pv_vret (M := mX2_trace) dX2_trace_63 rfl ⟨_, _, rfl, rfl, I5, K6, trivial⟩
        · have c18 := iv_nle (X := v17.toInt) (Y := y1.toInt) c18 rfl rfl
          refine pv_aload_n (M := mX2_trace) 0 dX2_trace_22 23 rfl rfl rfl ?_
          refine pv_aload_n (M := mX2_trace) 1 dX2_trace_23 24 rfl rfl rfl ?_
          refine pv_aload_n (M := mX2_trace) 2 dX2_trace_24 25 rfl rfl rfl ?_
          refine pv_iload (M := mX2_trace) dX2_trace_25 27 rfl rfl ?_
          refine pv_iload_n (M := mX2_trace) 3 dX2_trace_27 28 rfl rfl rfl ?_
          refine pv_callv (M := mX2_trace) (as := [.ref a0, .ref a1, .int y2, .int y1]) (st := []) (kc2 := 0) (ks2 := 0) dX2_trace_28 wd854 YX2_ifKept ⟨wd856, wd27⟩ (mk_get (tl107 hT)) rfl rfl (s_X2_ifKept g hT I5 a0 ha0 a1 ha1 y2 (by omega) (by omega) y1 (by omega) (by omega)) rfl rfl (Nat.le_of_ble_eq_true rfl) (by decide) rfl rfl 31 rfl (fun rv h1 q19 => ?_)
          obtain ⟨v20, rfl, rfl, pv20, qv20, rv20⟩ := q19
          show PV _ _ _ _ _ _ _ 31 [.ref 107, .ref a0, .ref a1, .int y1, .int y2] [.int v20] _
          refine pv_aload_n (M := mX2_trace) 0 dX2_trace_31 32 rfl rfl rfl ?_
          refine mv_get (M := mX2_trace) (v := .ref 111) dX2_trace_32 FX2 3 wd352 (by decide) (tl107 hT) rfl rfl 35 rfl ?_
          refine pv_iload (M := mX2_trace) dX2_trace_35 37 rfl rfl ?_
          refine pv_bipush (M := mX2_trace) (v := 17) dX2_trace_37 39 rfl (by decide) ?_
          refine iv_imul (M := mX2_trace) (X := y2.toInt) (Y := 17) dX2_trace_39 40 rfl rfl (by decide) (by omega) (by omega) (fun v21 ev21 => ?_)
          refine pv_iload_n (M := mX2_trace) 3 dX2_trace_40 41 rfl rfl rfl ?_
          refine iv_iadd (M := mX2_trace) (X := v21.toInt) (Y := y1.toInt) dX2_trace_41 42 rfl rfl rfl (by omega) (by omega) (fun v22 ev22 => ?_)
          refine iv_iald (M := mX2_trace) (X := v22.toInt) (l1 := (-2147483648)) (l2 := 2147483647) dX2_trace_42 (tl111 hT) rfl (by omega) (by omega) I5 (fun _ => rfl) 43 rfl (fun v23 ev23 pv23 qv23 => ?_)
          refine pv_icmp_ne (M := mX2_trace) (tgt := 57) dX2_trace_43 46 rfl (by decide) (fun c24 => ?_) (fun c24 => ?_)
          · have c24 := iv_ne (X := v20.toInt) (Y := v23.toInt) c24 rfl rfl
            refine iv_inc (M := mX2_trace) (C := 1) dX2_trace_57 60 rfl rfl (by decide) rfl rfl (by decide) (by omega) (by omega) (fun v25 ev25 => ?_)
            show PV _ _ _ _ _ _ _ 60 [.ref 107, .ref a0, .ref a1, .int y1, .int v25] [] _
            refine pv_goto (M := mX2_trace) (tgt := 5) dX2_trace_60 (by decide) ?_
            exact ih9 y1 v25 m3 n4 (by first | omega | assumption | exact (iv_rng _).2 | exact (iv_rng _).1 | decide) (by first | omega | assumption | exact (iv_rng _).2 | exact (iv_rng _).1 | decide) (by first | omega | assumption | exact (iv_rng _).2 | exact (iv_rng _).1 | decide) (by first | omega | assumption | exact (iv_rng _).2 | exact (iv_rng _).1 | decide) I5 K6 (by omega)
          · have c24 := iv_eq (X := v20.toInt) (Y := v23.toInt) c24 rfl rfl
            refine pv_aload_n (M := mX2_trace) 0 dX2_trace_46 47 rfl rfl rfl ?_
            refine mv_get (M := mX2_trace) (v := .ref 110) dX2_trace_47 FX2 2 wd350 (by decide) (tl107 hT) rfl rfl 50 rfl ?_
            refine pv_iload_n (M := mX2_trace) 3 dX2_trace_50 51 rfl rfl rfl ?_
            refine pv_iload (M := mX2_trace) dX2_trace_51 53 rfl rfl ?_
            refine iv_iast (M := mX2_trace) (X := y1.toInt) (l1 := 0) (l2 := 39) dX2_trace_53 (tl110 hT) rfl (by omega) (by omega) I5 (fun _ => rfl) (by omega) (by omega) 54 rfl (fun m26 e29 I27 => ?_)
            have K28 := K6.set e29 rfl
            refine iv_inc (M := mX2_trace) (C := 1) dX2_trace_54 57 rfl rfl (by decide) rfl rfl (by decide) (by omega) (by omega) (fun v30 ev30 => ?_)
            show PV _ _ _ _ _ _ _ 57 [.ref 107, .ref a0, .ref a1, .int v30, .int y2] [] _
            refine iv_inc (M := mX2_trace) (C := 1) dX2_trace_57 60 rfl rfl (by decide) rfl rfl (by decide) (by omega) (by omega) (fun v31 ev31 => ?_)
            show PV _ _ _ _ _ _ _ 60 [.ref 107, .ref a0, .ref a1, .int v30, .int v31] [] _
            refine pv_goto (M := mX2_trace) (tgt := 5) dX2_trace_60 (by decide) ?_
            exact ih9 v30 v31 m26 n4 (by first | omega | assumption | exact (iv_rng _).2 | exact (iv_rng _).1 | decide) (by first | omega | assumption | exact (iv_rng _).2 | exact (iv_rng _).1 | decide) (by first | omega | assumption | exact (iv_rng _).2 | exact (iv_rng _).1 | decide) (by first | omega | assumption | exact (iv_rng _).2 | exact (iv_rng _).1 | decide) I27 K28 (by omega)
  have z32 : (0 : Int32).toInt = 0 := by decide
  have z33 : (0 : Int32).toInt = 0 := by decide
  exact lp8 (((40 - 0) : Int).toNat + 1) 0 0 m n (by first | omega | assumption | exact (iv_rng _).2 | exact (iv_rng _).1 | decide) (by first | omega | assumption | exact (iv_rng _).2 | exact (iv_rng _).1 | decide) (by first | omega | assumption | exact (iv_rng _).2 | exact (iv_rng _).1 | decide) (by first | omega | assumption | exact (iv_rng _).2 | exact (iv_rng _).1 | decide) I Kp (by omega)

set_option maxHeartbeats 2000000 in
set_option maxRecDepth 20000 in
theorem s_X2_choose (g : pv_G) {T : List mv_T} {m : Nat → Nat → Int32} {n : Nat → Nat → Int64} {r : Nat → Value} (hT : TX T) (I : IV BB m) (a0 : Nat) (ha0 : RowAt T a0 40) (a1 : Nat) (ha1 : RowAt T a1 16) : PM g mX2_choose yX2_choose (sqI T BB (wl [(110, 110, none), (111, 111, none)]) r m (-2147483648) 2147483647 (fun m' v => True)) 3 0 0 [.ref 107, .ref a0, .ref a1] (mk T m n r) := by
  have Kp : fr (wl [(110, 110, none), (111, 111, none)]) m m := fr.rf
  have zr0 := ha0.2.2.2.2
  have zr1 := ha1.2.2.2.2
  refine PM.of 2 (lo := [.ref 107, .ref a0, .ref a1, pv_U, pv_U]) rfl (by decide) rfl rfl (Nat.le_of_ble_eq_true rfl) ?_
  refine pv_iconst (M := mX2_choose) (v := 0) dX2_choose_0 1 rfl (by decide) ?_
  refine pv_istore_n (M := mX2_choose) 3 (lo2 := [.ref 107, .ref a0, .ref a1, .int 0, pv_U]) dX2_choose_1 2 rfl rfl (by decide) rfl rfl ?_
  have lp7 : ∀ (fuel6 : Nat) (y1 : Int32) (m2 : Nat → Nat → Int32) (n3 : Nat → Nat → Int64), (0 ≤ y1.toInt) → (y1.toInt ≤ 17) → IV BB m2 → fr (wl [(110, 110, none), (111, 111, none)]) m m2 → ((17 - y1.toInt) : Int).toNat < fuel6 → PV none g mX2_choose (sqI T BB (wl [(110, 110, none), (111, 111, none)]) r m (-2147483648) 2147483647 (fun m' v => True)) 3 0 0 2 [.ref 107, .ref a0, .ref a1, .int y1, pv_U] [] (mk T m2 n3 r) := by
    intro fuel6
    induction fuel6 with
    | zero => intro y1 m2 n3 b9 b10 I4 K5 z11; omega
    | succ fuel6 ih8 =>
      intro y1 m2 n3 b9 b10 I4 K5 z11
      refine pv_iload_n (M := mX2_choose) 3 dX2_choose_2 3 rfl rfl rfl ?_
      refine pv_aload_n (M := mX2_choose) 2 dX2_choose_3 4 rfl rfl rfl ?_
      refine iv_get (M := mX2_choose) (l1 := 0) (l2 := 16) dX2_choose_4 FX8 1 wd194 (by decide) ha1.1 rfl I4 ha1.2.2.1 7 rfl (fun v12 ev12 pv12 qv12 => ?_)
      refine pv_icmp_gt (M := mX2_choose) (tgt := 44) dX2_choose_7 10 rfl (by decide) (fun c13 => ?_) (fun c13 => ?_)
      · have c13 := iv_lt (X := v12.toInt) (Y := y1.toInt) c13 rfl rfl
        refine pv_aload_n (M := mX2_choose) 1 dX2_choose_44 45 rfl rfl rfl ?_
        refine iv_get (M := mX2_choose) (l1 := 0) (l2 := 40) dX2_choose_45 FX8 1 wd194 (by decide) ha0.1 rfl I4 ha0.2.2.1 48 rfl (fun v14 ev14 pv14 qv14 => ?_)
        refine pv_iconst (M := mX2_choose) (v := 1) dX2_choose_48 49 rfl (by decide) ?_
        refine iv_isub (M := mX2_choose) (X := v14.toInt) (Y := 1) dX2_choose_49 50 rfl rfl (by decide) (by omega) (by omega) (fun v15 ev15 => ?_)
        refine pv_istore_n (M := mX2_choose) 3 (lo2 := [.ref 107, .ref a0, .ref a1, .int v15, pv_U]) dX2_choose_50 51 rfl rfl (by decide) rfl rfl ?_
        have lp22 : ∀ (fuel21 : Nat) (y16 : Int32) (m17 : Nat → Nat → Int32) (n18 : Nat → Nat → Int64), (-1 ≤ y16.toInt) → (y16.toInt ≤ 39) → IV BB m17 → fr (wl [(110, 110, none), (111, 111, none)]) m m17 → ((y16.toInt - (-1)) : Int).toNat < fuel21 → PV none g mX2_choose (sqI T BB (wl [(110, 110, none), (111, 111, none)]) r m (-2147483648) 2147483647 (fun m' v => True)) 3 0 0 51 [.ref 107, .ref a0, .ref a1, .int y16, pv_U] [] (mk T m17 n18 r) := by
          intro fuel21
          induction fuel21 with
          | zero => intro y16 m17 n18 b24 b25 I19 K20 z26; omega
          | succ fuel21 ih23 =>
            intro y16 m17 n18 b24 b25 I19 K20 z26
            refine pv_iload_n (M := mX2_choose) 3 dX2_choose_51 52 rfl rfl rfl ?_
            refine pv_if_lt (M := mX2_choose) (tgt := 110) dX2_choose_52 55 rfl (by decide) (fun c27 => ?_) (fun c27 => ?_)
            · have c27 := iv_lt (X := y16.toInt) (Y := 0) c27 rfl (by decide)
              refine pv_aload_n (M := mX2_choose) 0 dX2_choose_110 111 rfl rfl rfl ?_
              refine mv_get (M := mX2_choose) (v := .ref 111) dX2_choose_111 FX2 3 wd352 (by decide) (tl107 hT) rfl rfl 114 rfl ?_
              refine pv_iconst (M := mX2_choose) (v := 0) dX2_choose_114 115 rfl (by decide) ?_
              refine iv_iald (M := mX2_choose) (X := 0) (l1 := (-2147483648)) (l2 := 2147483647) dX2_choose_115 (tl111 hT) (by decide) (by omega) (by omega) I19 (fun _ => rfl) 116 rfl (fun v28 ev28 pv28 qv28 => ?_)
              refine pv_ldc (M := mX2_choose) (v := 1000000) dX2_choose_116 118 rfl wd853 ?_
              refine pv_icmp_lt (M := mX2_choose) (tgt := 123) dX2_choose_118 121 rfl (by decide) (fun c29 => ?_) (fun c29 => ?_)
              · have c29 := iv_lt (X := v28.toInt) (Y := 1000000) c29 rfl (by decide)
                refine pv_aload_n (M := mX2_choose) 0 dX2_choose_123 124 rfl rfl rfl ?_
                refine pv_aload_n (M := mX2_choose) 1 dX2_choose_124 125 rfl rfl rfl ?_
                refine pv_aload_n (M := mX2_choose) 2 dX2_choose_125 126 rfl rfl rfl ?_
                refine pv_callv (M := mX2_choose) (as := [.ref a0, .ref a1]) (st := []) (kc2 := 0) (ks2 := 0) dX2_choose_126 wd863 YX2_trace ⟨wd865, wd29⟩ (mk_get (tl107 hT)) rfl rfl (s_X2_trace g hT I19 a0 ha0 a1 ha1) rfl rfl (Nat.le_of_ble_eq_true rfl) (by decide) rfl rfl 129 rfl (fun rv h1 q30 => ?_)
                obtain ⟨m31, n32, rfl, rfl, I33, K34, rm31⟩ := q30
                have K34c := K34
                have K34 := K20.trans (K34.sub (wl_sub (by decide)))
                show PV _ _ _ _ _ _ _ 129 [.ref 107, .ref a0, .ref a1, .int y16, pv_U] [] _
                refine pv_aload_n (M := mX2_choose) 0 dX2_choose_129 130 rfl rfl rfl ?_
                refine mv_get (M := mX2_choose) (v := .ref 111) dX2_choose_130 FX2 3 wd352 (by decide) (tl107 hT) rfl rfl 133 rfl ?_
                refine pv_iconst (M := mX2_choose) (v := 0) dX2_choose_133 134 rfl (by decide) ?_
                refine iv_iald (M := mX2_choose) (X := 0) (l1 := (-2147483648)) (l2 := 2147483647) dX2_choose_134 (tl111 hT) (by decide) (by omega) (by omega) I33 (fun _ => rfl) 135 rfl (fun v35 ev35 pv35 qv35 => ?_)
                exact pv_iret (M := mX2_choose) dX2_choose_135 rfl rfl ⟨_, _, _, rfl, rfl, I33, K34, (iv_rng v35).1, (iv_rng v35).2, trivial⟩
              · have c29 := iv_nlt (X := v28.toInt) (Y := 1000000) c29 rfl (by decide)
                refine pv_iconst (M := mX2_choose) (v := (-1)) dX2_choose_121 122 rfl (by decide) ?_
                exact pv_iret (M := mX2_choose) dX2_choose_122 rfl rfl ⟨_, _, _, rfl, rfl, I19, K20, by decide, by decide, trivial⟩
            · have c27 := iv_nlt (X := y16.toInt) (Y := 0) c27 rfl (by decide)
              refine pv_iconst (M := mX2_choose) (v := 0) dX2_choose_55 56 rfl (by decide) ?_
              refine pv_istore (M := mX2_choose) (lo2 := [.ref 107, .ref a0, .ref a1, .int y16, .int 0]) dX2_choose_56 58 rfl (by decide) rfl rfl ?_
              have lp42 : ∀ (fuel41 : Nat) (y36 : Int32) (m37 : Nat → Nat → Int32) (n38 : Nat → Nat → Int64), (0 ≤ y36.toInt) → (y36.toInt ≤ 17) → IV BB m37 → fr (wl [(110, 110, none), (111, 111, none)]) m m37 → ((17 - y36.toInt) : Int).toNat < fuel41 → PV none g mX2_choose (sqI T BB (wl [(110, 110, none), (111, 111, none)]) r m (-2147483648) 2147483647 (fun m' v => True)) 3 0 0 58 [.ref 107, .ref a0, .ref a1, .int y16, .int y36] [] (mk T m37 n38 r) := by
                intro fuel41
                induction fuel41 with
                | zero => intro y36 m37 n38 b44 b45 I39 K40 z46; omega
                | succ fuel41 ih43 =>
                  intro y36 m37 n38 b44 b45 I39 K40 z46
                  refine pv_iload (M := mX2_choose) dX2_choose_58 60 rfl rfl ?_
                  refine pv_aload_n (M := mX2_choose) 2 dX2_choose_60 61 rfl rfl rfl ?_
                  refine iv_get (M := mX2_choose) (l1 := 0) (l2 := 16) dX2_choose_61 FX8 1 wd194 (by decide) ha1.1 rfl I39 ha1.2.2.1 64 rfl (fun v47 ev47 pv47 qv47 => ?_)
                  refine pv_icmp_gt (M := mX2_choose) (tgt := 104) dX2_choose_64 67 rfl (by decide) (fun c48 => ?_) (fun c48 => ?_)
                  · have c48 := iv_lt (X := v47.toInt) (Y := y36.toInt) c48 rfl rfl
                    refine iv_inc (M := mX2_choose) (C := (-1)) dX2_choose_104 107 rfl rfl (by decide) rfl rfl (by decide) (by omega) (by omega) (fun v49 ev49 => ?_)
                    show PV _ _ _ _ _ _ _ 107 [.ref 107, .ref a0, .ref a1, .int v49, .int y36] [] _
                    refine pv_goto (M := mX2_choose) (tgt := 51) dX2_choose_107 (by decide) ?_
                    refine pv_fg (lo2 := [.ref 107, .ref a0, .ref a1, .int v49, pv_U]) ⟨Or.inr rfl, ⟨Or.inr rfl, ⟨Or.inr rfl, ⟨Or.inr rfl, ⟨Or.inl rfl, trivial⟩⟩⟩⟩⟩ ?_
                    exact ih23 v49 m37 n38 (by first | omega | assumption | exact (iv_rng _).2 | exact (iv_rng _).1 | decide) (by first | omega | assumption | exact (iv_rng _).2 | exact (iv_rng _).1 | decide) I39 K40 (by omega)
                  · have c48 := iv_nlt (X := v47.toInt) (Y := y36.toInt) c48 rfl rfl
                    refine pv_aload_n (M := mX2_choose) 0 dX2_choose_67 68 rfl rfl rfl ?_
                    refine mv_get (M := mX2_choose) (v := .ref 111) dX2_choose_68 FX2 3 wd352 (by decide) (tl107 hT) rfl rfl 71 rfl ?_
                    refine pv_iload_n (M := mX2_choose) 3 dX2_choose_71 72 rfl rfl rfl ?_
                    refine pv_bipush (M := mX2_choose) (v := 17) dX2_choose_72 74 rfl (by decide) ?_
                    refine iv_imul (M := mX2_choose) (X := y16.toInt) (Y := 17) dX2_choose_74 75 rfl rfl (by decide) (by omega) (by omega) (fun v50 ev50 => ?_)
                    refine pv_iload (M := mX2_choose) dX2_choose_75 77 rfl rfl ?_
                    refine iv_iadd (M := mX2_choose) (X := v50.toInt) (Y := y36.toInt) dX2_choose_77 78 rfl rfl rfl (by omega) (by omega) (fun v51 ev51 => ?_)
                    refine pv_aload_n (M := mX2_choose) 0 dX2_choose_78 79 rfl rfl rfl ?_
                    refine pv_aload_n (M := mX2_choose) 1 dX2_choose_79 80 rfl rfl rfl ?_
                    refine pv_aload_n (M := mX2_choose) 2 dX2_choose_80 81 rfl rfl rfl ?_
                    refine pv_iload_n (M := mX2_choose) 3 dX2_choose_81 82 rfl rfl rfl ?_
                    refine pv_iload (M := mX2_choose) dX2_choose_82 84 rfl rfl ?_
                    refine pv_callv (M := mX2_choose) (as := [.ref a0, .ref a1, .int y16, .int y36]) (st := [.int v51, .ref 111]) (kc2 := 0) (ks2 := 0) dX2_choose_84 wd854 YX2_ifKept ⟨wd856, wd27⟩ (mk_get (tl107 hT)) rfl rfl (s_X2_ifKept g hT I39 a0 ha0 a1 ha1 y16 (by omega) (by omega) y36 (by omega) (by omega)) rfl rfl (Nat.le_of_ble_eq_true rfl) (by decide) rfl rfl 87 rfl (fun rv h1 q52 => ?_)
                    obtain ⟨v53, rfl, rfl, pv53, qv53, rv53⟩ := q52
                    show PV _ _ _ _ _ _ _ 87 [.ref 107, .ref a0, .ref a1, .int y16, .int y36] [.int v53, .int v51, .ref 111] _
                    refine pv_aload_n (M := mX2_choose) 0 dX2_choose_87 88 rfl rfl rfl ?_
                    refine pv_iload_n (M := mX2_choose) 3 dX2_choose_88 89 rfl rfl rfl ?_
                    refine pv_iload (M := mX2_choose) dX2_choose_89 91 rfl rfl ?_
                    refine pv_callv (M := mX2_choose) (as := [.int y16, .int y36]) (st := [.int v53, .int v51, .ref 111]) (kc2 := 0) (ks2 := 0) dX2_choose_91 wd858 YX2_ifStruck ⟨wd860, wd28⟩ (mk_get (tl107 hT)) rfl rfl (s_X2_ifStruck g hT I39 y16 (by omega) (by omega) y36 (by omega) (by omega)) rfl rfl (Nat.le_of_ble_eq_true rfl) (by decide) rfl rfl 94 rfl (fun rv h1 q54 => ?_)
                    obtain ⟨v55, rfl, rfl, pv55, qv55, rv55⟩ := q54
                    show PV _ _ _ _ _ _ _ 94 [.ref 107, .ref a0, .ref a1, .int y16, .int y36] [.int v55, .int v53, .int v51, .ref 111] _
                    refine iv_min (M := mX2_choose) (X := v53.toInt) (Y := v55.toInt) dX2_choose_94 wd862 Wmmin (Nat.le_of_ble_eq_true rfl) (by decide) rfl rfl 97 rfl (fun v56 ev56 fv56 gv56 => ?_)
                    refine iv_iast (M := mX2_choose) (X := v51.toInt) (l1 := (-2147483648)) (l2 := 2147483647) dX2_choose_97 (tl111 hT) rfl (by omega) (by omega) I39 (fun _ => rfl) (iv_rng v56).1 (iv_rng v56).2 98 rfl (fun m57 e60 I58 => ?_)
                    have K59 := K40.set e60 rfl
                    refine iv_inc (M := mX2_choose) (C := 1) dX2_choose_98 101 rfl rfl (by decide) rfl rfl (by decide) (by omega) (by omega) (fun v61 ev61 => ?_)
                    show PV _ _ _ _ _ _ _ 101 [.ref 107, .ref a0, .ref a1, .int y16, .int v61] [] _
                    refine pv_goto (M := mX2_choose) (tgt := 58) dX2_choose_101 (by decide) ?_
                    exact ih43 v61 m57 n38 (by first | omega | assumption | exact (iv_rng _).2 | exact (iv_rng _).1 | decide) (by first | omega | assumption | exact (iv_rng _).2 | exact (iv_rng _).1 | decide) I58 K59 (by omega)
              have z62 : (0 : Int32).toInt = 0 := by decide
              exact lp42 (((17 - 0) : Int).toNat + 1) 0 m17 n18 (by first | omega | assumption | exact (iv_rng _).2 | exact (iv_rng _).1 | decide) (by first | omega | assumption | exact (iv_rng _).2 | exact (iv_rng _).1 | decide) I19 K20 (by omega)
        exact lp22 (((v15.toInt - (-1)) : Int).toNat + 1) v15 m2 n3 (by first | omega | assumption | exact (iv_rng _).2 | exact (iv_rng _).1 | decide) (by first | omega | assumption | exact (iv_rng _).2 | exact (iv_rng _).1 | decide) I4 K5 (by omega)
      · have c13 := iv_nlt (X := v12.toInt) (Y := y1.toInt) c13 rfl rfl
        refine pv_aload_n (M := mX2_choose) 0 dX2_choose_10 11 rfl rfl rfl ?_
        refine mv_get (M := mX2_choose) (v := .ref 111) dX2_choose_11 FX2 3 wd352 (by decide) (tl107 hT) rfl rfl 14 rfl ?_
        refine pv_aload_n (M := mX2_choose) 1 dX2_choose_14 15 rfl rfl rfl ?_
        refine iv_get (M := mX2_choose) (l1 := 0) (l2 := 40) dX2_choose_15 FX8 1 wd194 (by decide) ha0.1 rfl I4 ha0.2.2.1 18 rfl (fun v63 ev63 pv63 qv63 => ?_)
        refine pv_bipush (M := mX2_choose) (v := 17) dX2_choose_18 20 rfl (by decide) ?_
        refine iv_imul (M := mX2_choose) (X := v63.toInt) (Y := 17) dX2_choose_20 21 rfl rfl (by decide) (by omega) (by omega) (fun v64 ev64 => ?_)
        refine pv_iload_n (M := mX2_choose) 3 dX2_choose_21 22 rfl rfl rfl ?_
        refine iv_iadd (M := mX2_choose) (X := v64.toInt) (Y := y1.toInt) dX2_choose_22 23 rfl rfl rfl (by omega) (by omega) (fun v65 ev65 => ?_)
        refine pv_iload_n (M := mX2_choose) 3 dX2_choose_23 24 rfl rfl rfl ?_
        refine pv_aload_n (M := mX2_choose) 2 dX2_choose_24 25 rfl rfl rfl ?_
        refine iv_get (M := mX2_choose) (l1 := 0) (l2 := 16) dX2_choose_25 FX8 1 wd194 (by decide) ha1.1 rfl I4 ha1.2.2.1 28 rfl (fun v66 ev66 pv66 qv66 => ?_)
        refine pv_icmp_ne (M := mX2_choose) (tgt := 35) dX2_choose_28 31 rfl (by decide) (fun c67 => ?_) (fun c67 => ?_)
        · have c67 := iv_ne (X := y1.toInt) (Y := v66.toInt) c67 rfl rfl
          refine pv_ldc (M := mX2_choose) (v := 1000000) dX2_choose_35 37 rfl wd853 ?_
          refine iv_iast (M := mX2_choose) (X := v65.toInt) (l1 := (-2147483648)) (l2 := 2147483647) dX2_choose_37 (tl111 hT) rfl (by omega) (by omega) I4 (fun _ => rfl) (by decide) (by decide) 38 rfl (fun m68 e71 I69 => ?_)
          have K70 := K5.set e71 rfl
          refine iv_inc (M := mX2_choose) (C := 1) dX2_choose_38 41 rfl rfl (by decide) rfl rfl (by decide) (by omega) (by omega) (fun v72 ev72 => ?_)
          show PV _ _ _ _ _ _ _ 41 [.ref 107, .ref a0, .ref a1, .int v72, pv_U] [] _
          refine pv_goto (M := mX2_choose) (tgt := 2) dX2_choose_41 (by decide) ?_
          exact ih8 v72 m68 n3 (by first | omega | assumption | exact (iv_rng _).2 | exact (iv_rng _).1 | decide) (by first | omega | assumption | exact (iv_rng _).2 | exact (iv_rng _).1 | decide) I69 K70 (by omega)
        · have c67 := iv_eq (X := y1.toInt) (Y := v66.toInt) c67 rfl rfl
          refine pv_iconst (M := mX2_choose) (v := 0) dX2_choose_31 32 rfl (by decide) ?_
          refine pv_goto (M := mX2_choose) (tgt := 37) dX2_choose_32 (by decide) ?_
          refine iv_iast (M := mX2_choose) (X := v65.toInt) (l1 := (-2147483648)) (l2 := 2147483647) dX2_choose_37 (tl111 hT) rfl (by omega) (by omega) I4 (fun _ => rfl) (by decide) (by decide) 38 rfl (fun m73 e76 I74 => ?_)
          have K75 := K5.set e76 rfl
          refine iv_inc (M := mX2_choose) (C := 1) dX2_choose_38 41 rfl rfl (by decide) rfl rfl (by decide) (by omega) (by omega) (fun v77 ev77 => ?_)
          show PV _ _ _ _ _ _ _ 41 [.ref 107, .ref a0, .ref a1, .int v77, pv_U] [] _
          refine pv_goto (M := mX2_choose) (tgt := 2) dX2_choose_41 (by decide) ?_
          exact ih8 v77 m73 n3 (by first | omega | assumption | exact (iv_rng _).2 | exact (iv_rng _).1 | decide) (by first | omega | assumption | exact (iv_rng _).2 | exact (iv_rng _).1 | decide) I74 K75 (by omega)
  have z78 : (0 : Int32).toInt = 0 := by decide
  exact lp7 (((17 - 0) : Int).toNat + 1) 0 m n (by first | omega | assumption | exact (iv_rng _).2 | exact (iv_rng _).1 | decide) (by first | omega | assumption | exact (iv_rng _).2 | exact (iv_rng _).1 | decide) I Kp (by omega)

set_option maxHeartbeats 2000000 in
set_option maxRecDepth 20000 in
theorem s_X5_cell (g : pv_G) {T : List mv_T} {m : Nat → Nat → Int32} {n : Nat → Nat → Int64} {r : Nat → Value} (hT : TX T) (I : IV BB m) (x0 : Int32) (hl0 : 0 ≤ x0.toInt) (hh0 : x0.toInt ≤ 16) (x1 : Int32) (hl1 : 0 ≤ x1.toInt) (hh1 : x1.toInt ≤ 16) (x2 : Int32) (hl2 : 0 ≤ x2.toInt) (hh2 : x2.toInt ≤ 16) : PM g mX5_cell yX5_cell (sqP (mk T m n r) 0 4912 (fun v => True)) 1 0 0 [.int x0, .int x1, .int x2] (mk T m n r) := by
  have Kp : fr (wl []) m m := fr.rf
  refine PM.of 0 (lo := [.int x0, .int x1, .int x2]) rfl (by decide) rfl rfl (Nat.le_of_ble_eq_true rfl) ?_
  refine pv_iload_n (M := mX5_cell) 0 dX5_cell_0 1 rfl rfl rfl ?_
  refine pv_bipush (M := mX5_cell) (v := 17) dX5_cell_1 3 rfl (by decide) ?_
  refine iv_imul (M := mX5_cell) (X := x0.toInt) (Y := 17) dX5_cell_3 4 rfl rfl (by decide) (by omega) (by omega) (fun v1 ev1 => ?_)
  refine pv_iload_n (M := mX5_cell) 1 dX5_cell_4 5 rfl rfl rfl ?_
  refine iv_iadd (M := mX5_cell) (X := v1.toInt) (Y := x1.toInt) dX5_cell_5 6 rfl rfl rfl (by omega) (by omega) (fun v2 ev2 => ?_)
  refine pv_bipush (M := mX5_cell) (v := 17) dX5_cell_6 8 rfl (by decide) ?_
  refine iv_imul (M := mX5_cell) (X := v2.toInt) (Y := 17) dX5_cell_8 9 rfl rfl (by decide) (by omega) (by omega) (fun v3 ev3 => ?_)
  refine pv_iload_n (M := mX5_cell) 2 dX5_cell_9 10 rfl rfl rfl ?_
  refine iv_iadd (M := mX5_cell) (X := v3.toInt) (Y := x2.toInt) dX5_cell_10 11 rfl rfl rfl (by omega) (by omega) (fun v4 ev4 => ?_)
  exact pv_iret (M := mX5_cell) dX5_cell_11 rfl rfl ⟨_, rfl, rfl, by omega, by omega, trivial⟩

set_option maxHeartbeats 2000000 in
set_option maxRecDepth 20000 in
theorem s_X5_mostFrom (g : pv_G) {T : List mv_T} {m : Nat → Nat → Int32} {n : Nat → Nat → Int64} {r : Nat → Value} (hT : TX T) (I : IV BB m) (a0 : Nat) (ha0 : RowAt T a0 16) (a1 : Nat) (ha1 : RowAt T a1 16) (a2 : Nat) (ha2 : RowAt T a2 16) (x3 : Int32) (hl3 : 0 ≤ x3.toInt) (hh3 : x3.toInt ≤ 16) (x4 : Int32) (hl4 : 0 ≤ x4.toInt) (hh4 : x4.toInt ≤ 16) (x5 : Int32) (hl5 : 0 ≤ x5.toInt) (hh5 : x5.toInt ≤ 16) (hp0 : x3.toInt ≤ (m a0 1).toInt) (hp1 : x4.toInt ≤ (m a1 1).toInt) (hp2 : x5.toInt ≤ (m a2 1).toInt) : PM g mX5_mostFrom yX5_mostFrom (sqP (mk T m n r) (-2147483648) 2147483647 (fun v => True)) 2 0 0 [.ref 112, .ref a0, .ref a1, .ref a2, .int x3, .int x4, .int x5] (mk T m n r) := by
  have Kp : fr (wl []) m m := fr.rf
  have zr0 := ha0.2.2.2.2
  have zr1 := ha1.2.2.2.2
  have zr2 := ha2.2.2.2.2
  refine PM.of 2 (lo := [.ref 112, .ref a0, .ref a1, .ref a2, .int x3, .int x4, .int x5, pv_U, pv_U]) rfl (by decide) rfl rfl (Nat.le_of_ble_eq_true rfl) ?_
  refine pv_iload (M := mX5_mostFrom) dX5_mostFrom_0 2 rfl rfl ?_
  refine pv_aload_n (M := mX5_mostFrom) 1 dX5_mostFrom_2 3 rfl rfl rfl ?_
  refine iv_get (M := mX5_mostFrom) (l1 := 0) (l2 := 16) dX5_mostFrom_3 FX8 1 wd196 (by decide) ha0.1 rfl I ha0.2.2.1 6 rfl (fun v1 ev1 pv1 qv1 => ?_)
  have wv1 : v1.toInt = (m a0 1).toInt := congrArg Int32.toInt ev1
  refine pv_icmp_eq (M := mX5_mostFrom) (tgt := 27) dX5_mostFrom_6 9 rfl (by decide) (fun c2 => ?_) (fun c2 => ?_)
  · have c2 := iv_eq (X := x3.toInt) (Y := v1.toInt) c2 rfl rfl
    refine pv_iconst (M := mX5_mostFrom) (v := 0) dX5_mostFrom_27 28 rfl (by decide) ?_
    exact pv_iret (M := mX5_mostFrom) dX5_mostFrom_28 rfl rfl ⟨_, rfl, rfl, by decide, by decide, trivial⟩
  · have c2 := iv_ne (X := x3.toInt) (Y := v1.toInt) c2 rfl rfl
    refine pv_iload (M := mX5_mostFrom) dX5_mostFrom_9 11 rfl rfl ?_
    refine pv_aload_n (M := mX5_mostFrom) 2 dX5_mostFrom_11 12 rfl rfl rfl ?_
    refine iv_get (M := mX5_mostFrom) (l1 := 0) (l2 := 16) dX5_mostFrom_12 FX8 1 wd196 (by decide) ha1.1 rfl I ha1.2.2.1 15 rfl (fun v3 ev3 pv3 qv3 => ?_)
    have wv3 : v3.toInt = (m a1 1).toInt := congrArg Int32.toInt ev3
    refine pv_icmp_eq (M := mX5_mostFrom) (tgt := 27) dX5_mostFrom_15 18 rfl (by decide) (fun c4 => ?_) (fun c4 => ?_)
    · have c4 := iv_eq (X := x4.toInt) (Y := v3.toInt) c4 rfl rfl
      refine pv_iconst (M := mX5_mostFrom) (v := 0) dX5_mostFrom_27 28 rfl (by decide) ?_
      exact pv_iret (M := mX5_mostFrom) dX5_mostFrom_28 rfl rfl ⟨_, rfl, rfl, by decide, by decide, trivial⟩
    · have c4 := iv_ne (X := x4.toInt) (Y := v3.toInt) c4 rfl rfl
      refine pv_iload (M := mX5_mostFrom) dX5_mostFrom_18 20 rfl rfl ?_
      refine pv_aload_n (M := mX5_mostFrom) 3 dX5_mostFrom_20 21 rfl rfl rfl ?_
      refine iv_get (M := mX5_mostFrom) (l1 := 0) (l2 := 16) dX5_mostFrom_21 FX8 1 wd196 (by decide) ha2.1 rfl I ha2.2.2.1 24 rfl (fun v5 ev5 pv5 qv5 => ?_)
      have wv5 : v5.toInt = (m a2 1).toInt := congrArg Int32.toInt ev5
      refine pv_icmp_ne (M := mX5_mostFrom) (tgt := 29) dX5_mostFrom_24 27 rfl (by decide) (fun c6 => ?_) (fun c6 => ?_)
      · have c6 := iv_ne (X := x5.toInt) (Y := v5.toInt) c6 rfl rfl
        refine pv_aload_n (M := mX5_mostFrom) 1 dX5_mostFrom_29 30 rfl rfl rfl ?_
        refine mv_get (M := mX5_mostFrom) (v := .ref (a0 + 1)) dX5_mostFrom_30 FX8 0 wd191 (by decide) ha0.1 rfl rfl 33 rfl ?_
        refine pv_iload (M := mX5_mostFrom) dX5_mostFrom_33 35 rfl rfl ?_
        refine iv_iald (M := mX5_mostFrom) (X := x3.toInt) (l1 := (-2147483648)) (l2 := 2147483647) dX5_mostFrom_35 ha0.2.1 rfl (by omega) (by omega) I ha0.2.2.2.1 36 rfl (fun v7 ev7 pv7 qv7 => ?_)
        refine pv_istore (M := mX5_mostFrom) (lo2 := [.ref 112, .ref a0, .ref a1, .ref a2, .int x3, .int x4, .int x5, .int v7, pv_U]) dX5_mostFrom_36 38 rfl (by decide) rfl rfl ?_
        refine pv_iload (M := mX5_mostFrom) dX5_mostFrom_38 40 rfl rfl ?_
        refine pv_aload_n (M := mX5_mostFrom) 2 dX5_mostFrom_40 41 rfl rfl rfl ?_
        refine mv_get (M := mX5_mostFrom) (v := .ref (a1 + 1)) dX5_mostFrom_41 FX8 0 wd191 (by decide) ha1.1 rfl rfl 44 rfl ?_
        refine pv_iload (M := mX5_mostFrom) dX5_mostFrom_44 46 rfl rfl ?_
        refine iv_iald (M := mX5_mostFrom) (X := x4.toInt) (l1 := (-2147483648)) (l2 := 2147483647) dX5_mostFrom_46 ha1.2.1 rfl (by omega) (by omega) I ha1.2.2.2.1 47 rfl (fun v8 ev8 pv8 qv8 => ?_)
        refine pv_icmp_ne (M := mX5_mostFrom) (tgt := 85) dX5_mostFrom_47 50 rfl (by decide) (fun c9 => ?_) (fun c9 => ?_)
        · have c9 := iv_ne (X := v7.toInt) (Y := v8.toInt) c9 rfl rfl
          refine pv_aload_n (M := mX5_mostFrom) 0 dX5_mostFrom_85 86 rfl rfl rfl ?_
          refine mv_get (M := mX5_mostFrom) (v := .ref 115) dX5_mostFrom_86 FX5 2 wd374 (by decide) (tl112 hT) rfl rfl 89 rfl ?_
          refine pv_iload (M := mX5_mostFrom) dX5_mostFrom_89 91 rfl rfl ?_
          refine pv_iconst (M := mX5_mostFrom) (v := 1) dX5_mostFrom_91 92 rfl (by decide) ?_
          refine iv_iadd (M := mX5_mostFrom) (X := x3.toInt) (Y := 1) dX5_mostFrom_92 93 rfl rfl (by decide) (by omega) (by omega) (fun v10 ev10 => ?_)
          refine pv_iload (M := mX5_mostFrom) dX5_mostFrom_93 95 rfl rfl ?_
          refine pv_iload (M := mX5_mostFrom) dX5_mostFrom_95 97 rfl rfl ?_
          refine pv_calls (M := mX5_mostFrom) (as := [.int v10, .int x4, .int x5]) (st := [.ref 115]) (kc2 := 0) (ks2 := 0) dX5_mostFrom_97 wd938 YX5_cell wd939 (s_X5_cell g hT I v10 (by omega) (by omega) x4 (by omega) (by omega) x5 (by omega) (by omega)) rfl rfl (Nat.le_of_ble_eq_true rfl) (by decide) rfl rfl 100 rfl (fun rv h1 q11 => ?_)
          obtain ⟨v12, rfl, rfl, pv12, qv12, rv12⟩ := q11
          show PV _ _ _ _ _ _ _ 100 [.ref 112, .ref a0, .ref a1, .ref a2, .int x3, .int x4, .int x5, .int v7, pv_U] [.int v12, .ref 115] _
          refine iv_iald (M := mX5_mostFrom) (X := v12.toInt) (l1 := (-2147483648)) (l2 := 2147483647) dX5_mostFrom_100 (tl115 hT) rfl (by omega) (by omega) I (fun _ => rfl) 101 rfl (fun v13 ev13 pv13 qv13 => ?_)
          refine pv_aload_n (M := mX5_mostFrom) 0 dX5_mostFrom_101 102 rfl rfl rfl ?_
          refine mv_get (M := mX5_mostFrom) (v := .ref 115) dX5_mostFrom_102 FX5 2 wd374 (by decide) (tl112 hT) rfl rfl 105 rfl ?_
          refine pv_iload (M := mX5_mostFrom) dX5_mostFrom_105 107 rfl rfl ?_
          refine pv_iload (M := mX5_mostFrom) dX5_mostFrom_107 109 rfl rfl ?_
          refine pv_iconst (M := mX5_mostFrom) (v := 1) dX5_mostFrom_109 110 rfl (by decide) ?_
          refine iv_iadd (M := mX5_mostFrom) (X := x4.toInt) (Y := 1) dX5_mostFrom_110 111 rfl rfl (by decide) (by omega) (by omega) (fun v14 ev14 => ?_)
          refine pv_iload (M := mX5_mostFrom) dX5_mostFrom_111 113 rfl rfl ?_
          refine pv_calls (M := mX5_mostFrom) (as := [.int x3, .int v14, .int x5]) (st := [.ref 115, .int v13]) (kc2 := 0) (ks2 := 0) dX5_mostFrom_113 wd938 YX5_cell wd939 (s_X5_cell g hT I x3 (by omega) (by omega) v14 (by omega) (by omega) x5 (by omega) (by omega)) rfl rfl (Nat.le_of_ble_eq_true rfl) (by decide) rfl rfl 116 rfl (fun rv h1 q15 => ?_)
          obtain ⟨v16, rfl, rfl, pv16, qv16, rv16⟩ := q15
          show PV _ _ _ _ _ _ _ 116 [.ref 112, .ref a0, .ref a1, .ref a2, .int x3, .int x4, .int x5, .int v7, pv_U] [.int v16, .ref 115, .int v13] _
          refine iv_iald (M := mX5_mostFrom) (X := v16.toInt) (l1 := (-2147483648)) (l2 := 2147483647) dX5_mostFrom_116 (tl115 hT) rfl (by omega) (by omega) I (fun _ => rfl) 117 rfl (fun v17 ev17 pv17 qv17 => ?_)
          refine iv_max (M := mX5_mostFrom) (X := v13.toInt) (Y := v17.toInt) dX5_mostFrom_117 wd945 Wmmax (Nat.le_of_ble_eq_true rfl) (by decide) rfl rfl 120 rfl (fun v18 ev18 fv18 gv18 => ?_)
          refine pv_istore (M := mX5_mostFrom) (lo2 := [.ref 112, .ref a0, .ref a1, .ref a2, .int x3, .int x4, .int x5, .int v7, .int v18]) dX5_mostFrom_120 122 rfl (by decide) rfl rfl ?_
          refine pv_iload (M := mX5_mostFrom) dX5_mostFrom_122 124 rfl rfl ?_
          refine pv_aload_n (M := mX5_mostFrom) 0 dX5_mostFrom_124 125 rfl rfl rfl ?_
          refine mv_get (M := mX5_mostFrom) (v := .ref 115) dX5_mostFrom_125 FX5 2 wd374 (by decide) (tl112 hT) rfl rfl 128 rfl ?_
          refine pv_iload (M := mX5_mostFrom) dX5_mostFrom_128 130 rfl rfl ?_
          refine pv_iload (M := mX5_mostFrom) dX5_mostFrom_130 132 rfl rfl ?_
          refine pv_iload (M := mX5_mostFrom) dX5_mostFrom_132 134 rfl rfl ?_
          refine pv_iconst (M := mX5_mostFrom) (v := 1) dX5_mostFrom_134 135 rfl (by decide) ?_
          refine iv_iadd (M := mX5_mostFrom) (X := x5.toInt) (Y := 1) dX5_mostFrom_135 136 rfl rfl (by decide) (by omega) (by omega) (fun v19 ev19 => ?_)
          refine pv_calls (M := mX5_mostFrom) (as := [.int x3, .int x4, .int v19]) (st := [.ref 115, .int v18]) (kc2 := 0) (ks2 := 0) dX5_mostFrom_136 wd938 YX5_cell wd939 (s_X5_cell g hT I x3 (by omega) (by omega) x4 (by omega) (by omega) v19 (by omega) (by omega)) rfl rfl (Nat.le_of_ble_eq_true rfl) (by decide) rfl rfl 139 rfl (fun rv h1 q20 => ?_)
          obtain ⟨v21, rfl, rfl, pv21, qv21, rv21⟩ := q20
          show PV _ _ _ _ _ _ _ 139 [.ref 112, .ref a0, .ref a1, .ref a2, .int x3, .int x4, .int x5, .int v7, .int v18] [.int v21, .ref 115, .int v18] _
          refine iv_iald (M := mX5_mostFrom) (X := v21.toInt) (l1 := (-2147483648)) (l2 := 2147483647) dX5_mostFrom_139 (tl115 hT) rfl (by omega) (by omega) I (fun _ => rfl) 140 rfl (fun v22 ev22 pv22 qv22 => ?_)
          refine iv_max (M := mX5_mostFrom) (X := v18.toInt) (Y := v22.toInt) dX5_mostFrom_140 wd945 Wmmax (Nat.le_of_ble_eq_true rfl) (by decide) rfl rfl 143 rfl (fun v23 ev23 fv23 gv23 => ?_)
          exact pv_iret (M := mX5_mostFrom) dX5_mostFrom_143 rfl rfl ⟨_, rfl, rfl, (iv_rng v23).1, (iv_rng v23).2, trivial⟩
        · have c9 := iv_eq (X := v7.toInt) (Y := v8.toInt) c9 rfl rfl
          refine pv_iload (M := mX5_mostFrom) dX5_mostFrom_50 52 rfl rfl ?_
          refine pv_aload_n (M := mX5_mostFrom) 3 dX5_mostFrom_52 53 rfl rfl rfl ?_
          refine mv_get (M := mX5_mostFrom) (v := .ref (a2 + 1)) dX5_mostFrom_53 FX8 0 wd191 (by decide) ha2.1 rfl rfl 56 rfl ?_
          refine pv_iload (M := mX5_mostFrom) dX5_mostFrom_56 58 rfl rfl ?_
          refine iv_iald (M := mX5_mostFrom) (X := x5.toInt) (l1 := (-2147483648)) (l2 := 2147483647) dX5_mostFrom_58 ha2.2.1 rfl (by omega) (by omega) I ha2.2.2.2.1 59 rfl (fun v24 ev24 pv24 qv24 => ?_)
          refine pv_icmp_ne (M := mX5_mostFrom) (tgt := 85) dX5_mostFrom_59 62 rfl (by decide) (fun c25 => ?_) (fun c25 => ?_)
          · have c25 := iv_ne (X := v7.toInt) (Y := v24.toInt) c25 rfl rfl
            refine pv_aload_n (M := mX5_mostFrom) 0 dX5_mostFrom_85 86 rfl rfl rfl ?_
            refine mv_get (M := mX5_mostFrom) (v := .ref 115) dX5_mostFrom_86 FX5 2 wd374 (by decide) (tl112 hT) rfl rfl 89 rfl ?_
            refine pv_iload (M := mX5_mostFrom) dX5_mostFrom_89 91 rfl rfl ?_
            refine pv_iconst (M := mX5_mostFrom) (v := 1) dX5_mostFrom_91 92 rfl (by decide) ?_
            refine iv_iadd (M := mX5_mostFrom) (X := x3.toInt) (Y := 1) dX5_mostFrom_92 93 rfl rfl (by decide) (by omega) (by omega) (fun v26 ev26 => ?_)
            refine pv_iload (M := mX5_mostFrom) dX5_mostFrom_93 95 rfl rfl ?_
            refine pv_iload (M := mX5_mostFrom) dX5_mostFrom_95 97 rfl rfl ?_
            refine pv_calls (M := mX5_mostFrom) (as := [.int v26, .int x4, .int x5]) (st := [.ref 115]) (kc2 := 0) (ks2 := 0) dX5_mostFrom_97 wd938 YX5_cell wd939 (s_X5_cell g hT I v26 (by omega) (by omega) x4 (by omega) (by omega) x5 (by omega) (by omega)) rfl rfl (Nat.le_of_ble_eq_true rfl) (by decide) rfl rfl 100 rfl (fun rv h1 q27 => ?_)
            obtain ⟨v28, rfl, rfl, pv28, qv28, rv28⟩ := q27
            show PV _ _ _ _ _ _ _ 100 [.ref 112, .ref a0, .ref a1, .ref a2, .int x3, .int x4, .int x5, .int v7, pv_U] [.int v28, .ref 115] _
            refine iv_iald (M := mX5_mostFrom) (X := v28.toInt) (l1 := (-2147483648)) (l2 := 2147483647) dX5_mostFrom_100 (tl115 hT) rfl (by omega) (by omega) I (fun _ => rfl) 101 rfl (fun v29 ev29 pv29 qv29 => ?_)
            refine pv_aload_n (M := mX5_mostFrom) 0 dX5_mostFrom_101 102 rfl rfl rfl ?_
            refine mv_get (M := mX5_mostFrom) (v := .ref 115) dX5_mostFrom_102 FX5 2 wd374 (by decide) (tl112 hT) rfl rfl 105 rfl ?_
            refine pv_iload (M := mX5_mostFrom) dX5_mostFrom_105 107 rfl rfl ?_
            refine pv_iload (M := mX5_mostFrom) dX5_mostFrom_107 109 rfl rfl ?_
            refine pv_iconst (M := mX5_mostFrom) (v := 1) dX5_mostFrom_109 110 rfl (by decide) ?_
            refine iv_iadd (M := mX5_mostFrom) (X := x4.toInt) (Y := 1) dX5_mostFrom_110 111 rfl rfl (by decide) (by omega) (by omega) (fun v30 ev30 => ?_)
            refine pv_iload (M := mX5_mostFrom) dX5_mostFrom_111 113 rfl rfl ?_
            refine pv_calls (M := mX5_mostFrom) (as := [.int x3, .int v30, .int x5]) (st := [.ref 115, .int v29]) (kc2 := 0) (ks2 := 0) dX5_mostFrom_113 wd938 YX5_cell wd939 (s_X5_cell g hT I x3 (by omega) (by omega) v30 (by omega) (by omega) x5 (by omega) (by omega)) rfl rfl (Nat.le_of_ble_eq_true rfl) (by decide) rfl rfl 116 rfl (fun rv h1 q31 => ?_)
            obtain ⟨v32, rfl, rfl, pv32, qv32, rv32⟩ := q31
            show PV _ _ _ _ _ _ _ 116 [.ref 112, .ref a0, .ref a1, .ref a2, .int x3, .int x4, .int x5, .int v7, pv_U] [.int v32, .ref 115, .int v29] _
            refine iv_iald (M := mX5_mostFrom) (X := v32.toInt) (l1 := (-2147483648)) (l2 := 2147483647) dX5_mostFrom_116 (tl115 hT) rfl (by omega) (by omega) I (fun _ => rfl) 117 rfl (fun v33 ev33 pv33 qv33 => ?_)
            refine iv_max (M := mX5_mostFrom) (X := v29.toInt) (Y := v33.toInt) dX5_mostFrom_117 wd945 Wmmax (Nat.le_of_ble_eq_true rfl) (by decide) rfl rfl 120 rfl (fun v34 ev34 fv34 gv34 => ?_)
            refine pv_istore (M := mX5_mostFrom) (lo2 := [.ref 112, .ref a0, .ref a1, .ref a2, .int x3, .int x4, .int x5, .int v7, .int v34]) dX5_mostFrom_120 122 rfl (by decide) rfl rfl ?_
            refine pv_iload (M := mX5_mostFrom) dX5_mostFrom_122 124 rfl rfl ?_
            refine pv_aload_n (M := mX5_mostFrom) 0 dX5_mostFrom_124 125 rfl rfl rfl ?_
            refine mv_get (M := mX5_mostFrom) (v := .ref 115) dX5_mostFrom_125 FX5 2 wd374 (by decide) (tl112 hT) rfl rfl 128 rfl ?_
            refine pv_iload (M := mX5_mostFrom) dX5_mostFrom_128 130 rfl rfl ?_
            refine pv_iload (M := mX5_mostFrom) dX5_mostFrom_130 132 rfl rfl ?_
            refine pv_iload (M := mX5_mostFrom) dX5_mostFrom_132 134 rfl rfl ?_
            refine pv_iconst (M := mX5_mostFrom) (v := 1) dX5_mostFrom_134 135 rfl (by decide) ?_
            refine iv_iadd (M := mX5_mostFrom) (X := x5.toInt) (Y := 1) dX5_mostFrom_135 136 rfl rfl (by decide) (by omega) (by omega) (fun v35 ev35 => ?_)
            refine pv_calls (M := mX5_mostFrom) (as := [.int x3, .int x4, .int v35]) (st := [.ref 115, .int v34]) (kc2 := 0) (ks2 := 0) dX5_mostFrom_136 wd938 YX5_cell wd939 (s_X5_cell g hT I x3 (by omega) (by omega) x4 (by omega) (by omega) v35 (by omega) (by omega)) rfl rfl (Nat.le_of_ble_eq_true rfl) (by decide) rfl rfl 139 rfl (fun rv h1 q36 => ?_)
            obtain ⟨v37, rfl, rfl, pv37, qv37, rv37⟩ := q36
            show PV _ _ _ _ _ _ _ 139 [.ref 112, .ref a0, .ref a1, .ref a2, .int x3, .int x4, .int x5, .int v7, .int v34] [.int v37, .ref 115, .int v34] _
            refine iv_iald (M := mX5_mostFrom) (X := v37.toInt) (l1 := (-2147483648)) (l2 := 2147483647) dX5_mostFrom_139 (tl115 hT) rfl (by omega) (by omega) I (fun _ => rfl) 140 rfl (fun v38 ev38 pv38 qv38 => ?_)
            refine iv_max (M := mX5_mostFrom) (X := v34.toInt) (Y := v38.toInt) dX5_mostFrom_140 wd945 Wmmax (Nat.le_of_ble_eq_true rfl) (by decide) rfl rfl 143 rfl (fun v39 ev39 fv39 gv39 => ?_)
            exact pv_iret (M := mX5_mostFrom) dX5_mostFrom_143 rfl rfl ⟨_, rfl, rfl, (iv_rng v39).1, (iv_rng v39).2, trivial⟩
          · have c25 := iv_eq (X := v7.toInt) (Y := v24.toInt) c25 rfl rfl
            refine pv_iconst (M := mX5_mostFrom) (v := 1) dX5_mostFrom_62 63 rfl (by decide) ?_
            refine pv_aload_n (M := mX5_mostFrom) 0 dX5_mostFrom_63 64 rfl rfl rfl ?_
            refine mv_get (M := mX5_mostFrom) (v := .ref 115) dX5_mostFrom_64 FX5 2 wd374 (by decide) (tl112 hT) rfl rfl 67 rfl ?_
            refine pv_iload (M := mX5_mostFrom) dX5_mostFrom_67 69 rfl rfl ?_
            refine pv_iconst (M := mX5_mostFrom) (v := 1) dX5_mostFrom_69 70 rfl (by decide) ?_
            refine iv_iadd (M := mX5_mostFrom) (X := x3.toInt) (Y := 1) dX5_mostFrom_70 71 rfl rfl (by decide) (by omega) (by omega) (fun v40 ev40 => ?_)
            refine pv_iload (M := mX5_mostFrom) dX5_mostFrom_71 73 rfl rfl ?_
            refine pv_iconst (M := mX5_mostFrom) (v := 1) dX5_mostFrom_73 74 rfl (by decide) ?_
            refine iv_iadd (M := mX5_mostFrom) (X := x4.toInt) (Y := 1) dX5_mostFrom_74 75 rfl rfl (by decide) (by omega) (by omega) (fun v41 ev41 => ?_)
            refine pv_iload (M := mX5_mostFrom) dX5_mostFrom_75 77 rfl rfl ?_
            refine pv_iconst (M := mX5_mostFrom) (v := 1) dX5_mostFrom_77 78 rfl (by decide) ?_
            refine iv_iadd (M := mX5_mostFrom) (X := x5.toInt) (Y := 1) dX5_mostFrom_78 79 rfl rfl (by decide) (by omega) (by omega) (fun v42 ev42 => ?_)
            refine pv_calls (M := mX5_mostFrom) (as := [.int v40, .int v41, .int v42]) (st := [.ref 115, .int 1]) (kc2 := 0) (ks2 := 0) dX5_mostFrom_79 wd938 YX5_cell wd939 (s_X5_cell g hT I v40 (by omega) (by omega) v41 (by omega) (by omega) v42 (by omega) (by omega)) rfl rfl (Nat.le_of_ble_eq_true rfl) (by decide) rfl rfl 82 rfl (fun rv h1 q43 => ?_)
            obtain ⟨v44, rfl, rfl, pv44, qv44, rv44⟩ := q43
            show PV _ _ _ _ _ _ _ 82 [.ref 112, .ref a0, .ref a1, .ref a2, .int x3, .int x4, .int x5, .int v7, pv_U] [.int v44, .ref 115, .int 1] _
            refine iv_iald (M := mX5_mostFrom) (X := v44.toInt) (l1 := (-2147483648)) (l2 := 2147483647) dX5_mostFrom_82 (tl115 hT) rfl (by omega) (by omega) I (fun _ => rfl) 83 rfl (fun v45 ev45 pv45 qv45 => ?_)
            refine iv_addU (M := mX5_mostFrom) dX5_mostFrom_83 84 rfl (fun v46 ev46 => ?_)
            exact pv_iret (M := mX5_mostFrom) dX5_mostFrom_84 rfl rfl ⟨_, rfl, rfl, (iv_rng v46).1, (iv_rng v46).2, trivial⟩
      · have c6 := iv_eq (X := x5.toInt) (Y := v5.toInt) c6 rfl rfl
        refine pv_iconst (M := mX5_mostFrom) (v := 0) dX5_mostFrom_27 28 rfl (by decide) ?_
        exact pv_iret (M := mX5_mostFrom) dX5_mostFrom_28 rfl rfl ⟨_, rfl, rfl, by decide, by decide, trivial⟩

set_option maxHeartbeats 2000000 in
set_option maxRecDepth 20000 in
theorem s_X5_trace (g : pv_G) {T : List mv_T} {m : Nat → Nat → Int32} {n : Nat → Nat → Int64} {r : Nat → Value} (hT : TX T) (I : IV BB m) (a0 : Nat) (ha0 : RowAt T a0 16) (a1 : Nat) (ha1 : RowAt T a1 16) (a2 : Nat) (ha2 : RowAt T a2 16) : PM g mX5_trace yX5_trace (sqV T BB (wl [(112, 115, none)]) r m (fun m' => True)) 2 0 0 [.ref 112, .ref a0, .ref a1, .ref a2] (mk T m n r) := by
  have Kp : fr (wl [(112, 115, none)]) m m := fr.rf
  have zr0 := ha0.2.2.2.2
  have zr1 := ha1.2.2.2.2
  have zr2 := ha2.2.2.2.2
  refine PM.of 9 (lo := [.ref 112, .ref a0, .ref a1, .ref a2, pv_U, pv_U, pv_U, pv_U, pv_U, pv_U, pv_U, pv_U, pv_U]) rfl (by decide) rfl rfl (Nat.le_of_ble_eq_true rfl) ?_
  refine pv_aload_n (M := mX5_trace) 0 dX5_trace_0 1 rfl rfl rfl ?_
  refine mv_get (M := mX5_trace) (v := .ref 113) dX5_trace_1 FX5 0 wd370 (by decide) (tl112 hT) rfl rfl 4 rfl ?_
  refine pv_iconst (M := mX5_trace) (v := 0) dX5_trace_4 5 rfl (by decide) ?_
  refine iv_put (M := mX5_trace) (l1 := 0) (l2 := 16) dX5_trace_5 FX8 1 wd196 (by decide) rfl (tl113 hT) rfl rfl rfl I rfl (by decide) (by decide) 8 rfl (fun m1 e4 I2 => ?_)
  have K3 := Kp.set e4 (wl_r (by omega) (by omega))
  refine pv_iconst (M := mX5_trace) (v := 0) dX5_trace_8 9 rfl (by decide) ?_
  refine pv_istore (M := mX5_trace) (lo2 := [.ref 112, .ref a0, .ref a1, .ref a2, .int 0, pv_U, pv_U, pv_U, pv_U, pv_U, pv_U, pv_U, pv_U]) dX5_trace_9 11 rfl (by decide) rfl rfl ?_
  refine pv_iconst (M := mX5_trace) (v := 0) dX5_trace_11 12 rfl (by decide) ?_
  refine pv_istore (M := mX5_trace) (lo2 := [.ref 112, .ref a0, .ref a1, .ref a2, .int 0, .int 0, pv_U, pv_U, pv_U, pv_U, pv_U, pv_U, pv_U]) dX5_trace_12 14 rfl (by decide) rfl rfl ?_
  refine pv_iconst (M := mX5_trace) (v := 0) dX5_trace_14 15 rfl (by decide) ?_
  refine pv_istore (M := mX5_trace) (lo2 := [.ref 112, .ref a0, .ref a1, .ref a2, .int 0, .int 0, .int 0, pv_U, pv_U, pv_U, pv_U, pv_U, pv_U]) dX5_trace_15 17 rfl (by decide) rfl rfl ?_
  refine pv_aload_n (M := mX5_trace) 0 dX5_trace_17 18 rfl rfl rfl ?_
  refine mv_get (M := mX5_trace) (v := .ref 115) dX5_trace_18 FX5 2 wd374 (by decide) (tl112 hT) rfl rfl 21 rfl ?_
  refine pv_iconst (M := mX5_trace) (v := 0) dX5_trace_21 22 rfl (by decide) ?_
  refine iv_iald (M := mX5_trace) (X := 0) (l1 := (-2147483648)) (l2 := 2147483647) dX5_trace_22 (tl115 hT) (by decide) (by omega) (by omega) I2 (fun _ => rfl) 23 rfl (fun v5 ev5 pv5 qv5 => ?_)
  refine pv_istore (M := mX5_trace) (lo2 := [.ref 112, .ref a0, .ref a1, .ref a2, .int 0, .int 0, .int 0, .int v5, pv_U, pv_U, pv_U, pv_U, pv_U]) dX5_trace_23 25 rfl (by decide) rfl rfl ?_
  have lp15 : ∀ (fuel14 : Nat) (y6 : Int32) (y7 : Int32) (y8 : Int32) (y9 : Int32) (m10 : Nat → Nat → Int32) (n11 : Nat → Nat → Int64), (0 ≤ y6.toInt) → (y6.toInt ≤ 48) → (0 ≤ y7.toInt) → (y7.toInt ≤ 48) → (0 ≤ y8.toInt) → (y8.toInt ≤ 48) → IV BB m10 → fr (wl [(112, 115, none)]) m m10 → ((y9.toInt - (-2147483648)) : Int).toNat < fuel14 → PV none g mX5_trace (sqV T BB (wl [(112, 115, none)]) r m (fun m' => True)) 2 0 0 25 [.ref 112, .ref a0, .ref a1, .ref a2, .int y6, .int y7, .int y8, .int y9, pv_U, pv_U, pv_U, pv_U, pv_U] [] (mk T m10 n11 r) := by
    intro fuel14
    induction fuel14 with
    | zero => intro y6 y7 y8 y9 m10 n11 b17 b18 b19 b20 b21 b22 I12 K13 z23; omega
    | succ fuel14 ih16 =>
      intro y6 y7 y8 y9 m10 n11 b17 b18 b19 b20 b21 b22 I12 K13 z23
      refine pv_iload (M := mX5_trace) dX5_trace_25 27 rfl rfl ?_
      refine pv_if_le (M := mX5_trace) (tgt := 169) dX5_trace_27 30 rfl (by decide) (fun c24 => ?_) (fun c24 => ?_)
      · have c24 := iv_le (X := y9.toInt) (Y := 0) c24 rfl (by decide)
        exact pv_vret (M := mX5_trace) dX5_trace_169 rfl ⟨_, _, rfl, rfl, I12, K13, trivial⟩
      · have c24 := iv_nle (X := y9.toInt) (Y := 0) c24 rfl (by decide)
        refine pv_iconst (M := mX5_trace) (v := 0) dX5_trace_30 31 rfl (by decide) ?_
        refine pv_istore (M := mX5_trace) (lo2 := [.ref 112, .ref a0, .ref a1, .ref a2, .int y6, .int y7, .int y8, .int y9, .int 0, pv_U, pv_U, pv_U, pv_U]) dX5_trace_31 33 rfl (by decide) rfl rfl ?_
        have lp34 : ∀ (fuel33 : Nat) (y25 : Int32) (y26 : Int32) (y27 : Int32) (y28 : Int32) (m29 : Nat → Nat → Int32) (n30 : Nat → Nat → Int64), (0 ≤ y25.toInt) → (y25.toInt ≤ 48) → (0 ≤ y26.toInt) → (y26.toInt ≤ 48) → (0 ≤ y27.toInt) → (y27.toInt ≤ 48) → (0 ≤ y28.toInt) → (y28.toInt ≤ 26) → IV BB m29 → fr (wl [(112, 115, none)]) m m29 → ((26 - y28.toInt) : Int).toNat < fuel33 → PV none g mX5_trace (sqV T BB (wl [(112, 115, none)]) r m (fun m' => True)) 2 0 0 33 [.ref 112, .ref a0, .ref a1, .ref a2, .int y25, .int y26, .int y27, .int y9, .int y28, pv_U, pv_U, pv_U, pv_U] [] (mk T m29 n30 r) := by
          intro fuel33
          induction fuel33 with
          | zero => intro y25 y26 y27 y28 m29 n30 b36 b37 b38 b39 b40 b41 b42 b43 I31 K32 z44; omega
          | succ fuel33 ih35 =>
            intro y25 y26 y27 y28 m29 n30 b36 b37 b38 b39 b40 b41 b42 b43 I31 K32 z44
            refine pv_iload (M := mX5_trace) dX5_trace_33 35 rfl rfl ?_
            refine pv_bipush (M := mX5_trace) (v := 26) dX5_trace_35 37 rfl (by decide) ?_
            refine pv_icmp_ge (M := mX5_trace) (tgt := 163) dX5_trace_37 40 rfl (by decide) (fun c45 => ?_) (fun c45 => ?_)
            · have c45 := iv_le (X := 26) (Y := y28.toInt) c45 (by decide) rfl
              have z47 := iv_rng y9
              refine iv_inc (M := mX5_trace) (C := (-1)) dX5_trace_163 166 rfl rfl (by decide) rfl rfl (by decide) (by omega) (by omega) (fun v46 ev46 => ?_)
              show PV _ _ _ _ _ _ _ 166 [.ref 112, .ref a0, .ref a1, .ref a2, .int y25, .int y26, .int y27, .int v46, .int y28, pv_U, pv_U, pv_U, pv_U] [] _
              refine pv_goto (M := mX5_trace) (tgt := 25) dX5_trace_166 (by decide) ?_
              refine pv_fg (lo2 := [.ref 112, .ref a0, .ref a1, .ref a2, .int y25, .int y26, .int y27, .int v46, pv_U, pv_U, pv_U, pv_U, pv_U]) ⟨Or.inr rfl, ⟨Or.inr rfl, ⟨Or.inr rfl, ⟨Or.inr rfl, ⟨Or.inr rfl, ⟨Or.inr rfl, ⟨Or.inr rfl, ⟨Or.inr rfl, ⟨Or.inl rfl, ⟨Or.inl rfl, ⟨Or.inl rfl, ⟨Or.inl rfl, ⟨Or.inl rfl, trivial⟩⟩⟩⟩⟩⟩⟩⟩⟩⟩⟩⟩⟩ ?_
              exact ih16 y25 y26 y27 v46 m29 n30 (by first | omega | assumption | exact (iv_rng _).2 | exact (iv_rng _).1 | decide) (by first | omega | assumption | exact (iv_rng _).2 | exact (iv_rng _).1 | decide) (by first | omega | assumption | exact (iv_rng _).2 | exact (iv_rng _).1 | decide) (by first | omega | assumption | exact (iv_rng _).2 | exact (iv_rng _).1 | decide) (by first | omega | assumption | exact (iv_rng _).2 | exact (iv_rng _).1 | decide) (by first | omega | assumption | exact (iv_rng _).2 | exact (iv_rng _).1 | decide) I31 K32 (by omega)
            · have c45 := iv_nle (X := 26) (Y := y28.toInt) c45 (by decide) rfl
              refine pv_aload_n (M := mX5_trace) 1 dX5_trace_40 41 rfl rfl rfl ?_
              refine pv_iload (M := mX5_trace) dX5_trace_41 43 rfl rfl ?_
              refine pv_iload (M := mX5_trace) dX5_trace_43 45 rfl rfl ?_
              refine pv_callv (M := mX5_trace) (as := [.int y28, .int y25]) (st := []) (kc2 := 0) (ks2 := 0) dX5_trace_45 wd950 YX8_placeOf ⟨wd951, wd952⟩ (mk_get ha0.1) rfl rfl (s_X8_placeOf g hT I31 a0 16 ha0 y28 y25) rfl rfl (Nat.le_of_ble_eq_true rfl) (by decide) rfl rfl 48 rfl (fun rv h1 q48 => ?_)
              obtain ⟨v49, rfl, rfl, pv49, qv49, rv49⟩ := q48
              replace rv49 : v49.toInt < (16 : Int) := rv49
              show PV _ _ _ _ _ _ _ 48 [.ref 112, .ref a0, .ref a1, .ref a2, .int y25, .int y26, .int y27, .int y9, .int y28, pv_U, pv_U, pv_U, pv_U] [.int v49] _
              refine pv_istore (M := mX5_trace) (lo2 := [.ref 112, .ref a0, .ref a1, .ref a2, .int y25, .int y26, .int y27, .int y9, .int y28, .int v49, pv_U, pv_U, pv_U]) dX5_trace_48 50 rfl (by decide) rfl rfl ?_
              refine pv_aload_n (M := mX5_trace) 2 dX5_trace_50 51 rfl rfl rfl ?_
              refine pv_iload (M := mX5_trace) dX5_trace_51 53 rfl rfl ?_
              refine pv_iload (M := mX5_trace) dX5_trace_53 55 rfl rfl ?_
              refine pv_callv (M := mX5_trace) (as := [.int y28, .int y26]) (st := []) (kc2 := 0) (ks2 := 0) dX5_trace_55 wd950 YX8_placeOf ⟨wd951, wd952⟩ (mk_get ha1.1) rfl rfl (s_X8_placeOf g hT I31 a1 16 ha1 y28 y26) rfl rfl (Nat.le_of_ble_eq_true rfl) (by decide) rfl rfl 58 rfl (fun rv h1 q50 => ?_)
              obtain ⟨v51, rfl, rfl, pv51, qv51, rv51⟩ := q50
              replace rv51 : v51.toInt < (16 : Int) := rv51
              show PV _ _ _ _ _ _ _ 58 [.ref 112, .ref a0, .ref a1, .ref a2, .int y25, .int y26, .int y27, .int y9, .int y28, .int v49, pv_U, pv_U, pv_U] [.int v51] _
              refine pv_istore (M := mX5_trace) (lo2 := [.ref 112, .ref a0, .ref a1, .ref a2, .int y25, .int y26, .int y27, .int y9, .int y28, .int v49, .int v51, pv_U, pv_U]) dX5_trace_58 60 rfl (by decide) rfl rfl ?_
              refine pv_aload_n (M := mX5_trace) 3 dX5_trace_60 61 rfl rfl rfl ?_
              refine pv_iload (M := mX5_trace) dX5_trace_61 63 rfl rfl ?_
              refine pv_iload (M := mX5_trace) dX5_trace_63 65 rfl rfl ?_
              refine pv_callv (M := mX5_trace) (as := [.int y28, .int y27]) (st := []) (kc2 := 0) (ks2 := 0) dX5_trace_65 wd950 YX8_placeOf ⟨wd951, wd952⟩ (mk_get ha2.1) rfl rfl (s_X8_placeOf g hT I31 a2 16 ha2 y28 y27) rfl rfl (Nat.le_of_ble_eq_true rfl) (by decide) rfl rfl 68 rfl (fun rv h1 q52 => ?_)
              obtain ⟨v53, rfl, rfl, pv53, qv53, rv53⟩ := q52
              replace rv53 : v53.toInt < (16 : Int) := rv53
              show PV _ _ _ _ _ _ _ 68 [.ref 112, .ref a0, .ref a1, .ref a2, .int y25, .int y26, .int y27, .int y9, .int y28, .int v49, .int v51, pv_U, pv_U] [.int v53] _
              refine pv_istore (M := mX5_trace) (lo2 := [.ref 112, .ref a0, .ref a1, .ref a2, .int y25, .int y26, .int y27, .int y9, .int y28, .int v49, .int v51, .int v53, pv_U]) dX5_trace_68 70 rfl (by decide) rfl rfl ?_
              refine pv_iload (M := mX5_trace) dX5_trace_70 72 rfl rfl ?_
              refine pv_iconst (M := mX5_trace) (v := (-1)) dX5_trace_72 73 rfl (by decide) ?_
              refine pv_icmp_eq (M := mX5_trace) (tgt := 92) dX5_trace_73 76 rfl (by decide) (fun c54 => ?_) (fun c54 => ?_)
              · have c54 := iv_eq (X := v49.toInt) (Y := (-1)) c54 rfl (by decide)
                refine pv_iconst (M := mX5_trace) (v := 0) dX5_trace_92 93 rfl (by decide) ?_
                refine pv_istore (M := mX5_trace) (lo2 := [.ref 112, .ref a0, .ref a1, .ref a2, .int y25, .int y26, .int y27, .int y9, .int y28, .int v49, .int v51, .int v53, .int 0]) dX5_trace_93 95 rfl (by decide) rfl rfl ?_
                refine pv_iload (M := mX5_trace) dX5_trace_95 97 rfl rfl ?_
                refine pv_if_eq (M := mX5_trace) (tgt := 157) dX5_trace_97 100 rfl (by decide) (fun _ => ?_) (fun q => absurd (by decide) q)
                refine iv_inc (M := mX5_trace) (C := 1) dX5_trace_157 160 rfl rfl (by decide) rfl rfl (by decide) (by omega) (by omega) (fun v56 ev56 => ?_)
                show PV _ _ _ _ _ _ _ 160 [.ref 112, .ref a0, .ref a1, .ref a2, .int y25, .int y26, .int y27, .int y9, .int v56, .int v49, .int v51, .int v53, .int 0] [] _
                refine pv_goto (M := mX5_trace) (tgt := 33) dX5_trace_160 (by decide) ?_
                refine pv_fg (lo2 := [.ref 112, .ref a0, .ref a1, .ref a2, .int y25, .int y26, .int y27, .int y9, .int v56, pv_U, pv_U, pv_U, pv_U]) ⟨Or.inr rfl, ⟨Or.inr rfl, ⟨Or.inr rfl, ⟨Or.inr rfl, ⟨Or.inr rfl, ⟨Or.inr rfl, ⟨Or.inr rfl, ⟨Or.inr rfl, ⟨Or.inr rfl, ⟨Or.inl rfl, ⟨Or.inl rfl, ⟨Or.inl rfl, ⟨Or.inl rfl, trivial⟩⟩⟩⟩⟩⟩⟩⟩⟩⟩⟩⟩⟩ ?_
                exact ih35 y25 y26 y27 v56 m29 n30 (by first | omega | assumption | exact (iv_rng _).2 | exact (iv_rng _).1 | decide) (by first | omega | assumption | exact (iv_rng _).2 | exact (iv_rng _).1 | decide) (by first | omega | assumption | exact (iv_rng _).2 | exact (iv_rng _).1 | decide) (by first | omega | assumption | exact (iv_rng _).2 | exact (iv_rng _).1 | decide) (by first | omega | assumption | exact (iv_rng _).2 | exact (iv_rng _).1 | decide) (by first | omega | assumption | exact (iv_rng _).2 | exact (iv_rng _).1 | decide) (by first | omega | assumption | exact (iv_rng _).2 | exact (iv_rng _).1 | decide) (by first | omega | assumption | exact (iv_rng _).2 | exact (iv_rng _).1 | decide) I31 K32 (by omega)
              · have c54 := iv_ne (X := v49.toInt) (Y := (-1)) c54 rfl (by decide)
                refine pv_iload (M := mX5_trace) dX5_trace_76 78 rfl rfl ?_
                refine pv_iconst (M := mX5_trace) (v := (-1)) dX5_trace_78 79 rfl (by decide) ?_
                refine pv_icmp_eq (M := mX5_trace) (tgt := 92) dX5_trace_79 82 rfl (by decide) (fun c57 => ?_) (fun c57 => ?_)
                · have c57 := iv_eq (X := v51.toInt) (Y := (-1)) c57 rfl (by decide)
                  refine pv_iconst (M := mX5_trace) (v := 0) dX5_trace_92 93 rfl (by decide) ?_
                  refine pv_istore (M := mX5_trace) (lo2 := [.ref 112, .ref a0, .ref a1, .ref a2, .int y25, .int y26, .int y27, .int y9, .int y28, .int v49, .int v51, .int v53, .int 0]) dX5_trace_93 95 rfl (by decide) rfl rfl ?_
                  refine pv_iload (M := mX5_trace) dX5_trace_95 97 rfl rfl ?_
                  refine pv_if_eq (M := mX5_trace) (tgt := 157) dX5_trace_97 100 rfl (by decide) (fun _ => ?_) (fun q => absurd (by decide) q)
                  refine iv_inc (M := mX5_trace) (C := 1) dX5_trace_157 160 rfl rfl (by decide) rfl rfl (by decide) (by omega) (by omega) (fun v59 ev59 => ?_)
                  show PV _ _ _ _ _ _ _ 160 [.ref 112, .ref a0, .ref a1, .ref a2, .int y25, .int y26, .int y27, .int y9, .int v59, .int v49, .int v51, .int v53, .int 0] [] _
                  refine pv_goto (M := mX5_trace) (tgt := 33) dX5_trace_160 (by decide) ?_
                  refine pv_fg (lo2 := [.ref 112, .ref a0, .ref a1, .ref a2, .int y25, .int y26, .int y27, .int y9, .int v59, pv_U, pv_U, pv_U, pv_U]) ⟨Or.inr rfl, ⟨Or.inr rfl, ⟨Or.inr rfl, ⟨Or.inr rfl, ⟨Or.inr rfl, ⟨Or.inr rfl, ⟨Or.inr rfl, ⟨Or.inr rfl, ⟨Or.inr rfl, ⟨Or.inl rfl, ⟨Or.inl rfl, ⟨Or.inl rfl, ⟨Or.inl rfl, trivial⟩⟩⟩⟩⟩⟩⟩⟩⟩⟩⟩⟩⟩ ?_
                  exact ih35 y25 y26 y27 v59 m29 n30 (by first | omega | assumption | exact (iv_rng _).2 | exact (iv_rng _).1 | decide) (by first | omega | assumption | exact (iv_rng _).2 | exact (iv_rng _).1 | decide) (by first | omega | assumption | exact (iv_rng _).2 | exact (iv_rng _).1 | decide) (by first | omega | assumption | exact (iv_rng _).2 | exact (iv_rng _).1 | decide) (by first | omega | assumption | exact (iv_rng _).2 | exact (iv_rng _).1 | decide) (by first | omega | assumption | exact (iv_rng _).2 | exact (iv_rng _).1 | decide) (by first | omega | assumption | exact (iv_rng _).2 | exact (iv_rng _).1 | decide) (by first | omega | assumption | exact (iv_rng _).2 | exact (iv_rng _).1 | decide) I31 K32 (by omega)
                · have c57 := iv_ne (X := v51.toInt) (Y := (-1)) c57 rfl (by decide)
                  refine pv_iload (M := mX5_trace) dX5_trace_82 84 rfl rfl ?_
                  refine pv_iconst (M := mX5_trace) (v := (-1)) dX5_trace_84 85 rfl (by decide) ?_
                  refine pv_icmp_eq (M := mX5_trace) (tgt := 92) dX5_trace_85 88 rfl (by decide) (fun c60 => ?_) (fun c60 => ?_)
                  · have c60 := iv_eq (X := v53.toInt) (Y := (-1)) c60 rfl (by decide)
                    refine pv_iconst (M := mX5_trace) (v := 0) dX5_trace_92 93 rfl (by decide) ?_
                    refine pv_istore (M := mX5_trace) (lo2 := [.ref 112, .ref a0, .ref a1, .ref a2, .int y25, .int y26, .int y27, .int y9, .int y28, .int v49, .int v51, .int v53, .int 0]) dX5_trace_93 95 rfl (by decide) rfl rfl ?_
                    refine pv_iload (M := mX5_trace) dX5_trace_95 97 rfl rfl ?_
                    refine pv_if_eq (M := mX5_trace) (tgt := 157) dX5_trace_97 100 rfl (by decide) (fun _ => ?_) (fun q => absurd (by decide) q)
                    refine iv_inc (M := mX5_trace) (C := 1) dX5_trace_157 160 rfl rfl (by decide) rfl rfl (by decide) (by omega) (by omega) (fun v62 ev62 => ?_)
                    show PV _ _ _ _ _ _ _ 160 [.ref 112, .ref a0, .ref a1, .ref a2, .int y25, .int y26, .int y27, .int y9, .int v62, .int v49, .int v51, .int v53, .int 0] [] _
                    refine pv_goto (M := mX5_trace) (tgt := 33) dX5_trace_160 (by decide) ?_
                    refine pv_fg (lo2 := [.ref 112, .ref a0, .ref a1, .ref a2, .int y25, .int y26, .int y27, .int y9, .int v62, pv_U, pv_U, pv_U, pv_U]) ⟨Or.inr rfl, ⟨Or.inr rfl, ⟨Or.inr rfl, ⟨Or.inr rfl, ⟨Or.inr rfl, ⟨Or.inr rfl, ⟨Or.inr rfl, ⟨Or.inr rfl, ⟨Or.inr rfl, ⟨Or.inl rfl, ⟨Or.inl rfl, ⟨Or.inl rfl, ⟨Or.inl rfl, trivial⟩⟩⟩⟩⟩⟩⟩⟩⟩⟩⟩⟩⟩ ?_
                    exact ih35 y25 y26 y27 v62 m29 n30 (by first | omega | assumption | exact (iv_rng _).2 | exact (iv_rng _).1 | decide) (by first | omega | assumption | exact (iv_rng _).2 | exact (iv_rng _).1 | decide) (by first | omega | assumption | exact (iv_rng _).2 | exact (iv_rng _).1 | decide) (by first | omega | assumption | exact (iv_rng _).2 | exact (iv_rng _).1 | decide) (by first | omega | assumption | exact (iv_rng _).2 | exact (iv_rng _).1 | decide) (by first | omega | assumption | exact (iv_rng _).2 | exact (iv_rng _).1 | decide) (by first | omega | assumption | exact (iv_rng _).2 | exact (iv_rng _).1 | decide) (by first | omega | assumption | exact (iv_rng _).2 | exact (iv_rng _).1 | decide) I31 K32 (by omega)
                  · have c60 := iv_ne (X := v53.toInt) (Y := (-1)) c60 rfl (by decide)
                    refine pv_iconst (M := mX5_trace) (v := 1) dX5_trace_88 89 rfl (by decide) ?_
                    refine pv_goto (M := mX5_trace) (tgt := 93) dX5_trace_89 (by decide) ?_
                    refine pv_istore (M := mX5_trace) (lo2 := [.ref 112, .ref a0, .ref a1, .ref a2, .int y25, .int y26, .int y27, .int y9, .int y28, .int v49, .int v51, .int v53, .int 1]) dX5_trace_93 95 rfl (by decide) rfl rfl ?_
                    refine pv_iload (M := mX5_trace) dX5_trace_95 97 rfl rfl ?_
                    refine pv_if_eq (M := mX5_trace) (tgt := 157) dX5_trace_97 100 rfl (by decide) (fun q => absurd q (by decide)) (fun _ => ?_)
                    refine pv_aload_n (M := mX5_trace) 0 dX5_trace_100 101 rfl rfl rfl ?_
                    refine mv_get (M := mX5_trace) (v := .ref 115) dX5_trace_101 FX5 2 wd374 (by decide) (tl112 hT) rfl rfl 104 rfl ?_
                    refine pv_iload (M := mX5_trace) dX5_trace_104 106 rfl rfl ?_
                    refine pv_iconst (M := mX5_trace) (v := 1) dX5_trace_106 107 rfl (by decide) ?_
                    refine iv_iadd (M := mX5_trace) (X := v49.toInt) (Y := 1) dX5_trace_107 108 rfl rfl (by decide) (by omega) (by omega) (fun v64 ev64 => ?_)
                    refine pv_iload (M := mX5_trace) dX5_trace_108 110 rfl rfl ?_
                    refine pv_iconst (M := mX5_trace) (v := 1) dX5_trace_110 111 rfl (by decide) ?_
                    refine iv_iadd (M := mX5_trace) (X := v51.toInt) (Y := 1) dX5_trace_111 112 rfl rfl (by decide) (by omega) (by omega) (fun v65 ev65 => ?_)
                    refine pv_iload (M := mX5_trace) dX5_trace_112 114 rfl rfl ?_
                    refine pv_iconst (M := mX5_trace) (v := 1) dX5_trace_114 115 rfl (by decide) ?_
                    refine iv_iadd (M := mX5_trace) (X := v53.toInt) (Y := 1) dX5_trace_115 116 rfl rfl (by decide) (by omega) (by omega) (fun v66 ev66 => ?_)
                    refine pv_calls (M := mX5_trace) (as := [.int v64, .int v65, .int v66]) (st := [.ref 115]) (kc2 := 0) (ks2 := 0) dX5_trace_116 wd938 YX5_cell wd939 (s_X5_cell g hT I31 v64 (by omega) (by omega) v65 (by omega) (by omega) v66 (by omega) (by omega)) rfl rfl (Nat.le_of_ble_eq_true rfl) (by decide) rfl rfl 119 rfl (fun rv h1 q67 => ?_)
                    obtain ⟨v68, rfl, rfl, pv68, qv68, rv68⟩ := q67
                    show PV _ _ _ _ _ _ _ 119 [.ref 112, .ref a0, .ref a1, .ref a2, .int y25, .int y26, .int y27, .int y9, .int y28, .int v49, .int v51, .int v53, .int 1] [.int v68, .ref 115] _
                    refine iv_iald (M := mX5_trace) (X := v68.toInt) (l1 := (-2147483648)) (l2 := 2147483647) dX5_trace_119 (tl115 hT) rfl (by omega) (by omega) I31 (fun _ => rfl) 120 rfl (fun v69 ev69 pv69 qv69 => ?_)
                    refine pv_iload (M := mX5_trace) dX5_trace_120 122 rfl rfl ?_
                    refine pv_iconst (M := mX5_trace) (v := 1) dX5_trace_122 123 rfl (by decide) ?_
                    have z71 := iv_rng y9
                    refine iv_isub (M := mX5_trace) (X := y9.toInt) (Y := 1) dX5_trace_123 124 rfl rfl (by decide) (by omega) (by omega) (fun v70 ev70 => ?_)
                    refine pv_icmp_ne (M := mX5_trace) (tgt := 157) dX5_trace_124 127 rfl (by decide) (fun c72 => ?_) (fun c72 => ?_)
                    · have c72 := iv_ne (X := v69.toInt) (Y := v70.toInt) c72 rfl rfl
                      refine iv_inc (M := mX5_trace) (C := 1) dX5_trace_157 160 rfl rfl (by decide) rfl rfl (by decide) (by omega) (by omega) (fun v73 ev73 => ?_)
                      show PV _ _ _ _ _ _ _ 160 [.ref 112, .ref a0, .ref a1, .ref a2, .int y25, .int y26, .int y27, .int y9, .int v73, .int v49, .int v51, .int v53, .int 1] [] _
                      refine pv_goto (M := mX5_trace) (tgt := 33) dX5_trace_160 (by decide) ?_
                      refine pv_fg (lo2 := [.ref 112, .ref a0, .ref a1, .ref a2, .int y25, .int y26, .int y27, .int y9, .int v73, pv_U, pv_U, pv_U, pv_U]) ⟨Or.inr rfl, ⟨Or.inr rfl, ⟨Or.inr rfl, ⟨Or.inr rfl, ⟨Or.inr rfl, ⟨Or.inr rfl, ⟨Or.inr rfl, ⟨Or.inr rfl, ⟨Or.inr rfl, ⟨Or.inl rfl, ⟨Or.inl rfl, ⟨Or.inl rfl, ⟨Or.inl rfl, trivial⟩⟩⟩⟩⟩⟩⟩⟩⟩⟩⟩⟩⟩ ?_
                      exact ih35 y25 y26 y27 v73 m29 n30 (by first | omega | assumption | exact (iv_rng _).2 | exact (iv_rng _).1 | decide) (by first | omega | assumption | exact (iv_rng _).2 | exact (iv_rng _).1 | decide) (by first | omega | assumption | exact (iv_rng _).2 | exact (iv_rng _).1 | decide) (by first | omega | assumption | exact (iv_rng _).2 | exact (iv_rng _).1 | decide) (by first | omega | assumption | exact (iv_rng _).2 | exact (iv_rng _).1 | decide) (by first | omega | assumption | exact (iv_rng _).2 | exact (iv_rng _).1 | decide) (by first | omega | assumption | exact (iv_rng _).2 | exact (iv_rng _).1 | decide) (by first | omega | assumption | exact (iv_rng _).2 | exact (iv_rng _).1 | decide) I31 K32 (by omega)
                    · have c72 := iv_eq (X := v69.toInt) (Y := v70.toInt) c72 rfl rfl
                      refine pv_aload_n (M := mX5_trace) 0 dX5_trace_127 128 rfl rfl rfl ?_
                      refine mv_get (M := mX5_trace) (v := .ref 113) dX5_trace_128 FX5 0 wd370 (by decide) (tl112 hT) rfl rfl 131 rfl ?_
                      refine pv_iload (M := mX5_trace) dX5_trace_131 133 rfl rfl ?_
                      refine pv_callv (M := mX5_trace) (as := [.int y28]) (st := []) (kc2 := 0) (ks2 := 0) dX5_trace_133 wd954 YX8_add ⟨wd488, wd489⟩ (mk_get (tl113 hT)) rfl rfl (s_X8_add g hT I31 113 16 (row113 hT) y28) rfl rfl (Nat.le_of_ble_eq_true rfl) (by decide) rfl rfl 136 rfl (fun rv h1 q74 => ?_)
                      obtain ⟨m75, n76, rfl, rfl, I77, K78, rm75⟩ := q74
                      replace rm75 : (m29 113 1).toInt ≤ (m75 113 1).toInt ∧ (m75 113 1).toInt ≤ (m29 113 1).toInt + 1 := rm75
                      have K78c := K78
                      have K78 := K32.trans (K78.sub (wr_wr (by omega) (by omega)))
                      show PV _ _ _ _ _ _ _ 136 [.ref 112, .ref a0, .ref a1, .ref a2, .int y25, .int y26, .int y27, .int y9, .int y28, .int v49, .int v51, .int v53, .int 1] [] _
                      refine pv_iload (M := mX5_trace) dX5_trace_136 138 rfl rfl ?_
                      refine pv_iconst (M := mX5_trace) (v := 1) dX5_trace_138 139 rfl (by decide) ?_
                      refine iv_iadd (M := mX5_trace) (X := v49.toInt) (Y := 1) dX5_trace_139 140 rfl rfl (by decide) (by omega) (by omega) (fun v79 ev79 => ?_)
                      refine pv_istore (M := mX5_trace) (lo2 := [.ref 112, .ref a0, .ref a1, .ref a2, .int v79, .int y26, .int y27, .int y9, .int y28, .int v49, .int v51, .int v53, .int 1]) dX5_trace_140 142 rfl (by decide) rfl rfl ?_
                      refine pv_iload (M := mX5_trace) dX5_trace_142 144 rfl rfl ?_
                      refine pv_iconst (M := mX5_trace) (v := 1) dX5_trace_144 145 rfl (by decide) ?_
                      refine iv_iadd (M := mX5_trace) (X := v51.toInt) (Y := 1) dX5_trace_145 146 rfl rfl (by decide) (by omega) (by omega) (fun v80 ev80 => ?_)
                      refine pv_istore (M := mX5_trace) (lo2 := [.ref 112, .ref a0, .ref a1, .ref a2, .int v79, .int v80, .int y27, .int y9, .int y28, .int v49, .int v51, .int v53, .int 1]) dX5_trace_146 148 rfl (by decide) rfl rfl ?_
                      refine pv_iload (M := mX5_trace) dX5_trace_148 150 rfl rfl ?_
                      refine pv_iconst (M := mX5_trace) (v := 1) dX5_trace_150 151 rfl (by decide) ?_
                      refine iv_iadd (M := mX5_trace) (X := v53.toInt) (Y := 1) dX5_trace_151 152 rfl rfl (by decide) (by omega) (by omega) (fun v81 ev81 => ?_)
                      refine pv_istore (M := mX5_trace) (lo2 := [.ref 112, .ref a0, .ref a1, .ref a2, .int v79, .int v80, .int v81, .int y9, .int y28, .int v49, .int v51, .int v53, .int 1]) dX5_trace_152 154 rfl (by decide) rfl rfl ?_
                      refine pv_goto (M := mX5_trace) (tgt := 163) dX5_trace_154 (by decide) ?_
                      have z83 := iv_rng y9
                      refine iv_inc (M := mX5_trace) (C := (-1)) dX5_trace_163 166 rfl rfl (by decide) rfl rfl (by decide) (by omega) (by omega) (fun v82 ev82 => ?_)
                      show PV _ _ _ _ _ _ _ 166 [.ref 112, .ref a0, .ref a1, .ref a2, .int v79, .int v80, .int v81, .int v82, .int y28, .int v49, .int v51, .int v53, .int 1] [] _
                      refine pv_goto (M := mX5_trace) (tgt := 25) dX5_trace_166 (by decide) ?_
                      refine pv_fg (lo2 := [.ref 112, .ref a0, .ref a1, .ref a2, .int v79, .int v80, .int v81, .int v82, pv_U, pv_U, pv_U, pv_U, pv_U]) ⟨Or.inr rfl, ⟨Or.inr rfl, ⟨Or.inr rfl, ⟨Or.inr rfl, ⟨Or.inr rfl, ⟨Or.inr rfl, ⟨Or.inr rfl, ⟨Or.inr rfl, ⟨Or.inl rfl, ⟨Or.inl rfl, ⟨Or.inl rfl, ⟨Or.inl rfl, ⟨Or.inl rfl, trivial⟩⟩⟩⟩⟩⟩⟩⟩⟩⟩⟩⟩⟩ ?_
                      exact ih16 v79 v80 v81 v82 m75 n76 (by first | omega | assumption | exact (iv_rng _).2 | exact (iv_rng _).1 | decide) (by first | omega | assumption | exact (iv_rng _).2 | exact (iv_rng _).1 | decide) (by first | omega | assumption | exact (iv_rng _).2 | exact (iv_rng _).1 | decide) (by first | omega | assumption | exact (iv_rng _).2 | exact (iv_rng _).1 | decide) (by first | omega | assumption | exact (iv_rng _).2 | exact (iv_rng _).1 | decide) (by first | omega | assumption | exact (iv_rng _).2 | exact (iv_rng _).1 | decide) I77 K78 (by omega)
        have z84 : (0 : Int32).toInt = 0 := by decide
        exact lp34 (((26 - 0) : Int).toNat + 1) y6 y7 y8 0 m10 n11 (by first | omega | assumption | exact (iv_rng _).2 | exact (iv_rng _).1 | decide) (by first | omega | assumption | exact (iv_rng _).2 | exact (iv_rng _).1 | decide) (by first | omega | assumption | exact (iv_rng _).2 | exact (iv_rng _).1 | decide) (by first | omega | assumption | exact (iv_rng _).2 | exact (iv_rng _).1 | decide) (by first | omega | assumption | exact (iv_rng _).2 | exact (iv_rng _).1 | decide) (by first | omega | assumption | exact (iv_rng _).2 | exact (iv_rng _).1 | decide) (by first | omega | assumption | exact (iv_rng _).2 | exact (iv_rng _).1 | decide) (by first | omega | assumption | exact (iv_rng _).2 | exact (iv_rng _).1 | decide) I12 K13 (by omega)
  have z85 : (0 : Int32).toInt = 0 := by decide
  have z86 : (0 : Int32).toInt = 0 := by decide
  have z87 : (0 : Int32).toInt = 0 := by decide
  exact lp15 (((v5.toInt - (-2147483648)) : Int).toNat + 1) 0 0 0 v5 m1 n (by first | omega | assumption | exact (iv_rng _).2 | exact (iv_rng _).1 | decide) (by first | omega | assumption | exact (iv_rng _).2 | exact (iv_rng _).1 | decide) (by first | omega | assumption | exact (iv_rng _).2 | exact (iv_rng _).1 | decide) (by first | omega | assumption | exact (iv_rng _).2 | exact (iv_rng _).1 | decide) (by first | omega | assumption | exact (iv_rng _).2 | exact (iv_rng _).1 | decide) (by first | omega | assumption | exact (iv_rng _).2 | exact (iv_rng _).1 | decide) I2 K3 (by omega)

set_option maxHeartbeats 2000000 in
set_option maxRecDepth 20000 in
theorem s_X5_solve (g : pv_G) {T : List mv_T} {m : Nat → Nat → Int32} {n : Nat → Nat → Int64} {r : Nat → Value} (hT : TX T) (I : IV BB m) (a0 : Nat) (ha0 : RowAt T a0 16) (a1 : Nat) (ha1 : RowAt T a1 16) (a2 : Nat) (ha2 : RowAt T a2 16) : PM g mX5_solve yX5_solve (sqV T BB (wl [(112, 115, none)]) r m (fun m' => True)) 3 0 0 [.ref 112, .ref a0, .ref a1, .ref a2] (mk T m n r) := by
  have Kp : fr (wl [(112, 115, none)]) m m := fr.rf
  have zr0 := ha0.2.2.2.2
  have zr1 := ha1.2.2.2.2
  have zr2 := ha2.2.2.2.2
  refine PM.of 3 (lo := [.ref 112, .ref a0, .ref a1, .ref a2, pv_U, pv_U, pv_U]) rfl (by decide) rfl rfl (Nat.le_of_ble_eq_true rfl) ?_
  refine pv_aload_n (M := mX5_solve) 1 dX5_solve_0 1 rfl rfl rfl ?_
  refine iv_get (M := mX5_solve) (l1 := 0) (l2 := 16) dX5_solve_1 FX8 1 wd196 (by decide) ha0.1 rfl I ha0.2.2.1 4 rfl (fun v1 ev1 pv1 qv1 => ?_)
  have wv1 : v1.toInt = (m a0 1).toInt := congrArg Int32.toInt ev1
  refine pv_istore (M := mX5_solve) (lo2 := [.ref 112, .ref a0, .ref a1, .ref a2, .int v1, pv_U, pv_U]) dX5_solve_4 6 rfl (by decide) rfl rfl ?_
  have lp8 : ∀ (fuel7 : Nat) (y2 : Int32) (m3 : Nat → Nat → Int32) (n4 : Nat → Nat → Int64), (-1 ≤ y2.toInt) → (y2.toInt ≤ 16) → (y2.toInt ≤ (m3 a0 1).toInt) → IV BB m3 → fr (wl [(112, 115, none)]) m m3 → ((y2.toInt - (-1)) : Int).toNat < fuel7 → PV none g mX5_solve (sqV T BB (wl [(112, 115, none)]) r m (fun m' => True)) 3 0 0 6 [.ref 112, .ref a0, .ref a1, .ref a2, .int y2, pv_U, pv_U] [] (mk T m3 n4 r) := by
    intro fuel7
    induction fuel7 with
    | zero => intro y2 m3 n4 b10 b11 b12 I5 K6 z13; omega
    | succ fuel7 ih9 =>
      intro y2 m3 n4 b10 b11 b12 I5 K6 z13
      refine pv_iload (M := mX5_solve) dX5_solve_6 8 rfl rfl ?_
      refine pv_if_lt (M := mX5_solve) (tgt := 78) dX5_solve_8 11 rfl (by decide) (fun c14 => ?_) (fun c14 => ?_)
      · have c14 := iv_lt (X := y2.toInt) (Y := 0) c14 rfl (by decide)
        refine pv_aload_n (M := mX5_solve) 0 dX5_solve_78 79 rfl rfl rfl ?_
        refine pv_aload_n (M := mX5_solve) 1 dX5_solve_79 80 rfl rfl rfl ?_
        refine pv_aload_n (M := mX5_solve) 2 dX5_solve_80 81 rfl rfl rfl ?_
        refine pv_aload_n (M := mX5_solve) 3 dX5_solve_81 82 rfl rfl rfl ?_
        refine pv_callv (M := mX5_solve) (as := [.ref a0, .ref a1, .ref a2]) (st := []) (kc2 := 0) (ks2 := 0) dX5_solve_82 wd946 YX5_trace ⟨wd948, wd37⟩ (mk_get (tl112 hT)) rfl rfl (s_X5_trace g hT I5 a0 ha0 a1 ha1 a2 ha2) rfl rfl (Nat.le_of_ble_eq_true rfl) (by decide) rfl rfl 85 rfl (fun rv h1 q15 => ?_)
        obtain ⟨m16, n17, rfl, rfl, I18, K19, rm16⟩ := q15
        have K19c := K19
        have K19 := K6.trans (K19.sub (fun _ _ q => q))
        show PV _ _ _ _ _ _ _ 85 [.ref 112, .ref a0, .ref a1, .ref a2, .int y2, pv_U, pv_U] [] _
        exact pv_vret (M := mX5_solve) dX5_solve_85 rfl ⟨_, _, rfl, rfl, I18, K19, trivial⟩
      · have c14 := iv_nlt (X := y2.toInt) (Y := 0) c14 rfl (by decide)
        refine pv_aload_n (M := mX5_solve) 2 dX5_solve_11 12 rfl rfl rfl ?_
        refine iv_get (M := mX5_solve) (l1 := 0) (l2 := 16) dX5_solve_12 FX8 1 wd196 (by decide) ha1.1 rfl I5 ha1.2.2.1 15 rfl (fun v20 ev20 pv20 qv20 => ?_)
        have wv20 : v20.toInt = (m3 a1 1).toInt := congrArg Int32.toInt ev20
        refine pv_istore (M := mX5_solve) (lo2 := [.ref 112, .ref a0, .ref a1, .ref a2, .int y2, .int v20, pv_U]) dX5_solve_15 17 rfl (by decide) rfl rfl ?_
        have lp27 : ∀ (fuel26 : Nat) (y21 : Int32) (m22 : Nat → Nat → Int32) (n23 : Nat → Nat → Int64), (-1 ≤ y21.toInt) → (y21.toInt ≤ 16) → (y2.toInt ≤ (m22 a0 1).toInt) → (y21.toInt ≤ (m22 a1 1).toInt) → IV BB m22 → fr (wl [(112, 115, none)]) m m22 → ((y21.toInt - (-1)) : Int).toNat < fuel26 → PV none g mX5_solve (sqV T BB (wl [(112, 115, none)]) r m (fun m' => True)) 3 0 0 17 [.ref 112, .ref a0, .ref a1, .ref a2, .int y2, .int y21, pv_U] [] (mk T m22 n23 r) := by
          intro fuel26
          induction fuel26 with
          | zero => intro y21 m22 n23 b29 b30 b31 b32 I24 K25 z33; omega
          | succ fuel26 ih28 =>
            intro y21 m22 n23 b29 b30 b31 b32 I24 K25 z33
            refine pv_iload (M := mX5_solve) dX5_solve_17 19 rfl rfl ?_
            refine pv_if_lt (M := mX5_solve) (tgt := 72) dX5_solve_19 22 rfl (by decide) (fun c34 => ?_) (fun c34 => ?_)
            · have c34 := iv_lt (X := y21.toInt) (Y := 0) c34 rfl (by decide)
              refine iv_inc (M := mX5_solve) (C := (-1)) dX5_solve_72 75 rfl rfl (by decide) rfl rfl (by decide) (by omega) (by omega) (fun v35 ev35 => ?_)
              show PV _ _ _ _ _ _ _ 75 [.ref 112, .ref a0, .ref a1, .ref a2, .int v35, .int y21, pv_U] [] _
              refine pv_goto (M := mX5_solve) (tgt := 6) dX5_solve_75 (by decide) ?_
              refine pv_fg (lo2 := [.ref 112, .ref a0, .ref a1, .ref a2, .int v35, pv_U, pv_U]) ⟨Or.inr rfl, ⟨Or.inr rfl, ⟨Or.inr rfl, ⟨Or.inr rfl, ⟨Or.inr rfl, ⟨Or.inl rfl, ⟨Or.inl rfl, trivial⟩⟩⟩⟩⟩⟩⟩ ?_
              exact ih9 v35 m22 n23 (by first | omega | assumption | exact (iv_rng _).2 | exact (iv_rng _).1 | decide) (by first | omega | assumption | exact (iv_rng _).2 | exact (iv_rng _).1 | decide) (by first | omega | assumption | (show v35.toInt ≤ (m22 a0 1).toInt; omega) | decide) I24 K25 (by omega)
            · have c34 := iv_nlt (X := y21.toInt) (Y := 0) c34 rfl (by decide)
              refine pv_aload_n (M := mX5_solve) 3 dX5_solve_22 23 rfl rfl rfl ?_
              refine iv_get (M := mX5_solve) (l1 := 0) (l2 := 16) dX5_solve_23 FX8 1 wd196 (by decide) ha2.1 rfl I24 ha2.2.2.1 26 rfl (fun v36 ev36 pv36 qv36 => ?_)
              have wv36 : v36.toInt = (m22 a2 1).toInt := congrArg Int32.toInt ev36
              refine pv_istore (M := mX5_solve) (lo2 := [.ref 112, .ref a0, .ref a1, .ref a2, .int y2, .int y21, .int v36]) dX5_solve_26 28 rfl (by decide) rfl rfl ?_
              have lp43 : ∀ (fuel42 : Nat) (y37 : Int32) (m38 : Nat → Nat → Int32) (n39 : Nat → Nat → Int64), (-1 ≤ y37.toInt) → (y37.toInt ≤ 16) → (y2.toInt ≤ (m38 a0 1).toInt) → (y21.toInt ≤ (m38 a1 1).toInt) → (y37.toInt ≤ (m38 a2 1).toInt) → IV BB m38 → fr (wl [(112, 115, none)]) m m38 → ((y37.toInt - (-1)) : Int).toNat < fuel42 → PV none g mX5_solve (sqV T BB (wl [(112, 115, none)]) r m (fun m' => True)) 3 0 0 28 [.ref 112, .ref a0, .ref a1, .ref a2, .int y2, .int y21, .int y37] [] (mk T m38 n39 r) := by
                intro fuel42
                induction fuel42 with
                | zero => intro y37 m38 n39 b45 b46 b47 b48 b49 I40 K41 z50; omega
                | succ fuel42 ih44 =>
                  intro y37 m38 n39 b45 b46 b47 b48 b49 I40 K41 z50
                  refine pv_iload (M := mX5_solve) dX5_solve_28 30 rfl rfl ?_
                  refine pv_if_lt (M := mX5_solve) (tgt := 66) dX5_solve_30 33 rfl (by decide) (fun c51 => ?_) (fun c51 => ?_)
                  · have c51 := iv_lt (X := y37.toInt) (Y := 0) c51 rfl (by decide)
                    refine iv_inc (M := mX5_solve) (C := (-1)) dX5_solve_66 69 rfl rfl (by decide) rfl rfl (by decide) (by omega) (by omega) (fun v52 ev52 => ?_)
                    show PV _ _ _ _ _ _ _ 69 [.ref 112, .ref a0, .ref a1, .ref a2, .int y2, .int v52, .int y37] [] _
                    refine pv_goto (M := mX5_solve) (tgt := 17) dX5_solve_69 (by decide) ?_
                    refine pv_fg (lo2 := [.ref 112, .ref a0, .ref a1, .ref a2, .int y2, .int v52, pv_U]) ⟨Or.inr rfl, ⟨Or.inr rfl, ⟨Or.inr rfl, ⟨Or.inr rfl, ⟨Or.inr rfl, ⟨Or.inr rfl, ⟨Or.inl rfl, trivial⟩⟩⟩⟩⟩⟩⟩ ?_
                    exact ih28 v52 m38 n39 (by first | omega | assumption | exact (iv_rng _).2 | exact (iv_rng _).1 | decide) (by first | omega | assumption | exact (iv_rng _).2 | exact (iv_rng _).1 | decide) (by first | omega | assumption | (show y2.toInt ≤ (m38 a0 1).toInt; omega) | decide) (by first | omega | assumption | (show v52.toInt ≤ (m38 a1 1).toInt; omega) | decide) I40 K41 (by omega)
                  · have c51 := iv_nlt (X := y37.toInt) (Y := 0) c51 rfl (by decide)
                    refine pv_aload_n (M := mX5_solve) 0 dX5_solve_33 34 rfl rfl rfl ?_
                    refine mv_get (M := mX5_solve) (v := .ref 115) dX5_solve_34 FX5 2 wd374 (by decide) (tl112 hT) rfl rfl 37 rfl ?_
                    refine pv_iload (M := mX5_solve) dX5_solve_37 39 rfl rfl ?_
                    refine pv_iload (M := mX5_solve) dX5_solve_39 41 rfl rfl ?_
                    refine pv_iload (M := mX5_solve) dX5_solve_41 43 rfl rfl ?_
                    refine pv_calls (M := mX5_solve) (as := [.int y2, .int y21, .int y37]) (st := [.ref 115]) (kc2 := 0) (ks2 := 0) dX5_solve_43 wd938 YX5_cell wd939 (s_X5_cell g hT I40 y2 (by omega) (by omega) y21 (by omega) (by omega) y37 (by omega) (by omega)) rfl rfl (Nat.le_of_ble_eq_true rfl) (by decide) rfl rfl 46 rfl (fun rv h1 q53 => ?_)
                    obtain ⟨v54, rfl, rfl, pv54, qv54, rv54⟩ := q53
                    show PV _ _ _ _ _ _ _ 46 [.ref 112, .ref a0, .ref a1, .ref a2, .int y2, .int y21, .int y37] [.int v54, .ref 115] _
                    refine pv_aload_n (M := mX5_solve) 0 dX5_solve_46 47 rfl rfl rfl ?_
                    refine pv_aload_n (M := mX5_solve) 1 dX5_solve_47 48 rfl rfl rfl ?_
                    refine pv_aload_n (M := mX5_solve) 2 dX5_solve_48 49 rfl rfl rfl ?_
                    refine pv_aload_n (M := mX5_solve) 3 dX5_solve_49 50 rfl rfl rfl ?_
                    refine pv_iload (M := mX5_solve) dX5_solve_50 52 rfl rfl ?_
                    refine pv_iload (M := mX5_solve) dX5_solve_52 54 rfl rfl ?_
                    refine pv_iload (M := mX5_solve) dX5_solve_54 56 rfl rfl ?_
                    refine pv_callv (M := mX5_solve) (as := [.ref a0, .ref a1, .ref a2, .int y2, .int y21, .int y37]) (st := [.int v54, .ref 115]) (kc2 := 0) (ks2 := 0) dX5_solve_56 wd941 YX5_mostFrom ⟨wd943, wd36⟩ (mk_get (tl112 hT)) rfl rfl (s_X5_mostFrom g hT I40 a0 ha0 a1 ha1 a2 ha2 y2 (by omega) (by omega) y21 (by omega) (by omega) y37 (by omega) (by omega) (by first | omega | assumption | exact (iv_rng _).2 | exact (iv_rng _).1 | decide) (by first | omega | assumption | exact (iv_rng _).2 | exact (iv_rng _).1 | decide) (by first | omega | assumption | exact (iv_rng _).2 | exact (iv_rng _).1 | decide)) rfl rfl (Nat.le_of_ble_eq_true rfl) (by decide) rfl rfl 59 rfl (fun rv h1 q55 => ?_)
                    obtain ⟨v56, rfl, rfl, pv56, qv56, rv56⟩ := q55
                    show PV _ _ _ _ _ _ _ 59 [.ref 112, .ref a0, .ref a1, .ref a2, .int y2, .int y21, .int y37] [.int v56, .int v54, .ref 115] _
                    refine iv_iast (M := mX5_solve) (X := v54.toInt) (l1 := (-2147483648)) (l2 := 2147483647) dX5_solve_59 (tl115 hT) rfl (by omega) (by omega) I40 (fun _ => rfl) (iv_rng v56).1 (iv_rng v56).2 60 rfl (fun m57 e60 I58 => ?_)
                    have K59 := K41.set e60 (wl_r (by omega) (by omega))
                    have w61 : (m57 a0 1).toInt = (m38 a0 1).toInt := by rw [e60, up2_ne (by omega)]
                    have w62 : (m57 a1 1).toInt = (m38 a1 1).toInt := by rw [e60, up2_ne (by omega)]
                    have w63 : (m57 a2 1).toInt = (m38 a2 1).toInt := by rw [e60, up2_ne (by omega)]
                    refine iv_inc (M := mX5_solve) (C := (-1)) dX5_solve_60 63 rfl rfl (by decide) rfl rfl (by decide) (by omega) (by omega) (fun v64 ev64 => ?_)
                    show PV _ _ _ _ _ _ _ 63 [.ref 112, .ref a0, .ref a1, .ref a2, .int y2, .int y21, .int v64] [] _
                    refine pv_goto (M := mX5_solve) (tgt := 28) dX5_solve_63 (by decide) ?_
                    exact ih44 v64 m57 n39 (by first | omega | assumption | exact (iv_rng _).2 | exact (iv_rng _).1 | decide) (by first | omega | assumption | exact (iv_rng _).2 | exact (iv_rng _).1 | decide) (by first | omega | assumption | (show y2.toInt ≤ (m57 a0 1).toInt; omega) | decide) (by first | omega | assumption | (show y21.toInt ≤ (m57 a1 1).toInt; omega) | decide) (by first | omega | assumption | (show v64.toInt ≤ (m57 a2 1).toInt; omega) | decide) I58 K59 (by omega)
              exact lp43 (((v36.toInt - (-1)) : Int).toNat + 1) v36 m22 n23 (by first | omega | assumption | exact (iv_rng _).2 | exact (iv_rng _).1 | decide) (by first | omega | assumption | exact (iv_rng _).2 | exact (iv_rng _).1 | decide) (by first | omega | assumption | (show y2.toInt ≤ (m22 a0 1).toInt; omega) | decide) (by first | omega | assumption | (show y21.toInt ≤ (m22 a1 1).toInt; omega) | decide) (by first | omega | assumption | (show v36.toInt ≤ (m22 a2 1).toInt; omega) | decide) I24 K25 (by omega)
        exact lp27 (((v20.toInt - (-1)) : Int).toNat + 1) v20 m3 n4 (by first | omega | assumption | exact (iv_rng _).2 | exact (iv_rng _).1 | decide) (by first | omega | assumption | exact (iv_rng _).2 | exact (iv_rng _).1 | decide) (by first | omega | assumption | (show y2.toInt ≤ (m3 a0 1).toInt; omega) | decide) (by first | omega | assumption | (show v20.toInt ≤ (m3 a1 1).toInt; omega) | decide) I5 K6 (by omega)
  exact lp8 (((v1.toInt - (-1)) : Int).toNat + 1) v1 m n (by first | omega | assumption | exact (iv_rng _).2 | exact (iv_rng _).1 | decide) (by first | omega | assumption | exact (iv_rng _).2 | exact (iv_rng _).1 | decide) (by first | omega | assumption | (show v1.toInt ≤ (m a0 1).toInt; omega) | decide) I Kp (by omega)

set_option maxHeartbeats 2000000 in
set_option maxRecDepth 20000 in
theorem s_X9_weigh (g : pv_G) {T : List mv_T} {m : Nat → Nat → Int32} {n : Nat → Nat → Int64} {r : Nat → Value} (hT : TX T) (I : IV BB m) (x0 : Int32) (x1 : Int32) (x2 : Int32) : PM g mX9_weigh yX9_weigh (sqV T BB (wl [(118, 118, none)]) r m (fun m' => True)) 1 0 0 [.ref 116, .int x0, .int x1, .int x2] (mk T m n r) := by
  have Kp : fr (wl [(118, 118, none)]) m m := fr.rf
  refine PM.of 0 (lo := [.ref 116, .int x0, .int x1, .int x2]) rfl (by decide) rfl rfl (Nat.le_of_ble_eq_true rfl) ?_
  refine pv_iload_n (M := mX9_weigh) 1 dX9_weigh_0 1 rfl rfl rfl ?_
  refine pv_if_lt (M := mX9_weigh) (tgt := 44) dX9_weigh_1 4 rfl (by decide) (fun c1 => ?_) (fun c1 => ?_)
  · have c1 := iv_lt (X := x0.toInt) (Y := 0) c1 rfl (by decide)
    exact pv_vret (M := mX9_weigh) dX9_weigh_44 rfl ⟨_, _, rfl, rfl, I, Kp, trivial⟩
  · have c1 := iv_nlt (X := x0.toInt) (Y := 0) c1 rfl (by decide)
    refine pv_iload_n (M := mX9_weigh) 1 dX9_weigh_4 5 rfl rfl rfl ?_
    refine pv_bipush (M := mX9_weigh) (v := 8) dX9_weigh_5 7 rfl (by decide) ?_
    refine pv_icmp_ge (M := mX9_weigh) (tgt := 44) dX9_weigh_7 10 rfl (by decide) (fun c2 => ?_) (fun c2 => ?_)
    · have c2 := iv_le (X := 8) (Y := x0.toInt) c2 (by decide) rfl
      exact pv_vret (M := mX9_weigh) dX9_weigh_44 rfl ⟨_, _, rfl, rfl, I, Kp, trivial⟩
    · have c2 := iv_nle (X := 8) (Y := x0.toInt) c2 (by decide) rfl
      refine pv_iload_n (M := mX9_weigh) 2 dX9_weigh_10 11 rfl rfl rfl ?_
      refine pv_if_lt (M := mX9_weigh) (tgt := 44) dX9_weigh_11 14 rfl (by decide) (fun c3 => ?_) (fun c3 => ?_)
      · have c3 := iv_lt (X := x1.toInt) (Y := 0) c3 rfl (by decide)
        exact pv_vret (M := mX9_weigh) dX9_weigh_44 rfl ⟨_, _, rfl, rfl, I, Kp, trivial⟩
      · have c3 := iv_nlt (X := x1.toInt) (Y := 0) c3 rfl (by decide)
        refine pv_iload_n (M := mX9_weigh) 2 dX9_weigh_14 15 rfl rfl rfl ?_
        refine pv_bipush (M := mX9_weigh) (v := 8) dX9_weigh_15 17 rfl (by decide) ?_
        refine pv_icmp_ge (M := mX9_weigh) (tgt := 44) dX9_weigh_17 20 rfl (by decide) (fun c4 => ?_) (fun c4 => ?_)
        · have c4 := iv_le (X := 8) (Y := x1.toInt) c4 (by decide) rfl
          exact pv_vret (M := mX9_weigh) dX9_weigh_44 rfl ⟨_, _, rfl, rfl, I, Kp, trivial⟩
        · have c4 := iv_nle (X := 8) (Y := x1.toInt) c4 (by decide) rfl
          refine pv_aload_n (M := mX9_weigh) 0 dX9_weigh_20 21 rfl rfl rfl ?_
          refine mv_get (M := mX9_weigh) (v := .ref 118) dX9_weigh_21 FX9 3 wd394 (by decide) (tl116 hT) rfl rfl 24 rfl ?_
          refine pv_iload_n (M := mX9_weigh) 1 dX9_weigh_24 25 rfl rfl rfl ?_
          refine pv_bipush (M := mX9_weigh) (v := 8) dX9_weigh_25 27 rfl (by decide) ?_
          refine iv_imul (M := mX9_weigh) (X := x0.toInt) (Y := 8) dX9_weigh_27 28 rfl rfl (by decide) (by omega) (by omega) (fun v5 ev5 => ?_)
          refine pv_iload_n (M := mX9_weigh) 2 dX9_weigh_28 29 rfl rfl rfl ?_
          refine iv_iadd (M := mX9_weigh) (X := v5.toInt) (Y := x1.toInt) dX9_weigh_29 30 rfl rfl rfl (by omega) (by omega) (fun v6 ev6 => ?_)
          refine pv_iload_n (M := mX9_weigh) 3 dX9_weigh_30 31 rfl rfl rfl ?_
          refine pv_if_ge (M := mX9_weigh) (tgt := 38) dX9_weigh_31 34 rfl (by decide) (fun c7 => ?_) (fun c7 => ?_)
          · have c7 := iv_le (X := 0) (Y := x2.toInt) c7 (by decide) rfl
            refine pv_sipush (M := mX9_weigh) (v := 1000) dX9_weigh_38 41 rfl (by decide) ?_
            refine pv_iload_n (M := mX9_weigh) 3 dX9_weigh_41 42 rfl rfl rfl ?_
            have z9 := iv_rng x2
            refine iv_isub (M := mX9_weigh) (X := 1000) (Y := x2.toInt) dX9_weigh_42 43 rfl (by decide) rfl (by omega) (by omega) (fun v8 ev8 => ?_)
            refine iv_iast (M := mX9_weigh) (X := v6.toInt) (l1 := (-2147483648)) (l2 := 2147483647) dX9_weigh_43 (tl118 hT) rfl (by omega) (by omega) I (fun _ => rfl) (iv_rng v8).1 (iv_rng v8).2 44 rfl (fun m10 e13 I11 => ?_)
            have K12 := Kp.set e13 rfl
            exact pv_vret (M := mX9_weigh) dX9_weigh_44 rfl ⟨_, _, rfl, rfl, I11, K12, trivial⟩
          · have c7 := iv_nle (X := 0) (Y := x2.toInt) c7 (by decide) rfl
            refine pv_iconst (M := mX9_weigh) (v := 0) dX9_weigh_34 35 rfl (by decide) ?_
            refine pv_goto (M := mX9_weigh) (tgt := 43) dX9_weigh_35 (by decide) ?_
            refine iv_iast (M := mX9_weigh) (X := v6.toInt) (l1 := (-2147483648)) (l2 := 2147483647) dX9_weigh_43 (tl118 hT) rfl (by omega) (by omega) I (fun _ => rfl) (by decide) (by decide) 44 rfl (fun m14 e17 I15 => ?_)
            have K16 := Kp.set e17 rfl
            exact pv_vret (M := mX9_weigh) dX9_weigh_44 rfl ⟨_, _, rfl, rfl, I15, K16, trivial⟩

set_option maxHeartbeats 2000000 in
set_option maxRecDepth 20000 in
theorem s_X9_withBlank (g : pv_G) {T : List mv_T} {m : Nat → Nat → Int32} {n : Nat → Nat → Int64} {r : Nat → Value} (hT : TX T) (I : IV BB m) (x0 : Int32) (hl0 : 0 ≤ x0.toInt) (hh0 : x0.toInt ≤ 7) (x1 : Int32) (hl1 : 0 ≤ x1.toInt) (hh1 : x1.toInt ≤ 255) (x2 : Int32) (hl2 : 0 ≤ x2.toInt) (hh2 : x2.toInt ≤ 7) : PM g mX9_withBlank yX9_withBlank (sqP (mk T m n r) (-2147483648) 2147483647 (fun v => True)) 1 0 0 [.ref 116, .int x0, .int x1, .int x2] (mk T m n r) := by
  have Kp : fr (wl []) m m := fr.rf
  refine PM.of 1 (lo := [.ref 116, .int x0, .int x1, .int x2, pv_U]) rfl (by decide) rfl rfl (Nat.le_of_ble_eq_true rfl) ?_
  refine pv_aload_n (M := mX9_withBlank) 0 dX9_withBlank_0 1 rfl rfl rfl ?_
  refine mv_get (M := mX9_withBlank) (v := .ref 118) dX9_withBlank_1 FX9 3 wd394 (by decide) (tl116 hT) rfl rfl 4 rfl ?_
  refine pv_iload_n (M := mX9_withBlank) 1 dX9_withBlank_4 5 rfl rfl rfl ?_
  refine pv_bipush (M := mX9_withBlank) (v := 8) dX9_withBlank_5 7 rfl (by decide) ?_
  refine iv_imul (M := mX9_withBlank) (X := x0.toInt) (Y := 8) dX9_withBlank_7 8 rfl rfl (by decide) (by omega) (by omega) (fun v1 ev1 => ?_)
  refine pv_iload_n (M := mX9_withBlank) 3 dX9_withBlank_8 9 rfl rfl rfl ?_
  refine iv_iadd (M := mX9_withBlank) (X := v1.toInt) (Y := x2.toInt) dX9_withBlank_9 10 rfl rfl rfl (by omega) (by omega) (fun v2 ev2 => ?_)
  refine iv_iald (M := mX9_withBlank) (X := v2.toInt) (l1 := (-2147483648)) (l2 := 2147483647) dX9_withBlank_10 (tl118 hT) rfl (by omega) (by omega) I (fun _ => rfl) 11 rfl (fun v3 ev3 pv3 qv3 => ?_)
  refine pv_istore (M := mX9_withBlank) (lo2 := [.ref 116, .int x0, .int x1, .int x2, .int v3]) dX9_withBlank_11 13 rfl (by decide) rfl rfl ?_
  refine pv_iload (M := mX9_withBlank) dX9_withBlank_13 15 rfl rfl ?_
  refine pv_if_eq (M := mX9_withBlank) (tgt := 27) dX9_withBlank_15 18 rfl (by decide) (fun c4 => ?_) (fun c4 => ?_)
  · have c4 := iv_eq (X := v3.toInt) (Y := 0) c4 rfl (by decide)
    refine pv_iconst (M := mX9_withBlank) (v := (-1)) dX9_withBlank_27 28 rfl (by decide) ?_
    exact pv_iret (M := mX9_withBlank) dX9_withBlank_28 rfl rfl ⟨_, rfl, rfl, by decide, by decide, trivial⟩
  · have c4 := iv_ne (X := v3.toInt) (Y := 0) c4 rfl (by decide)
    refine pv_iload_n (M := mX9_withBlank) 2 dX9_withBlank_18 19 rfl rfl rfl ?_
    refine pv_iload_n (M := mX9_withBlank) 3 dX9_withBlank_19 20 rfl rfl rfl ?_
    refine iv_shrU (M := mX9_withBlank) dX9_withBlank_20 21 rfl (fun v5 ev5 => ?_)
    refine pv_iconst (M := mX9_withBlank) (v := 1) dX9_withBlank_21 22 rfl (by decide) ?_
    refine iv_iandm (M := mX9_withBlank) dX9_withBlank_22 23 rfl 1 (by decide) (by decide) (fun v6 ev6 pv6 qv6 => ?_)
    have qv6 : v6.toInt < 2 := qv6
    refine pv_iconst (M := mX9_withBlank) (v := 1) dX9_withBlank_23 24 rfl (by decide) ?_
    refine pv_icmp_ne (M := mX9_withBlank) (tgt := 29) dX9_withBlank_24 27 rfl (by decide) (fun c7 => ?_) (fun c7 => ?_)
    · have c7 := iv_ne (X := v6.toInt) (Y := 1) c7 rfl (by decide)
      refine pv_iload (M := mX9_withBlank) dX9_withBlank_29 31 rfl rfl ?_
      refine pv_aload_n (M := mX9_withBlank) 0 dX9_withBlank_31 32 rfl rfl rfl ?_
      refine mv_get (M := mX9_withBlank) (v := .ref 119) dX9_withBlank_32 FX9 4 wd395 (by decide) (tl116 hT) rfl rfl 35 rfl ?_
      refine pv_iload_n (M := mX9_withBlank) 1 dX9_withBlank_35 36 rfl rfl rfl ?_
      refine pv_iconst (M := mX9_withBlank) (v := 1) dX9_withBlank_36 37 rfl (by decide) ?_
      refine iv_iadd (M := mX9_withBlank) (X := x0.toInt) (Y := 1) dX9_withBlank_37 38 rfl rfl (by decide) (by omega) (by omega) (fun v8 ev8 => ?_)
      refine pv_sipush (M := mX9_withBlank) (v := 256) dX9_withBlank_38 41 rfl (by decide) ?_
      refine iv_imul (M := mX9_withBlank) (X := v8.toInt) (Y := 256) dX9_withBlank_41 42 rfl rfl (by decide) (by omega) (by omega) (fun v9 ev9 => ?_)
      refine pv_iload_n (M := mX9_withBlank) 2 dX9_withBlank_42 43 rfl rfl rfl ?_
      refine pv_iconst (M := mX9_withBlank) (v := 1) dX9_withBlank_43 44 rfl (by decide) ?_
      refine pv_iload_n (M := mX9_withBlank) 3 dX9_withBlank_44 45 rfl rfl rfl ?_
      refine iv_shlU (M := mX9_withBlank) dX9_withBlank_45 46 rfl (fun v10 ev10 => ?_)
      have pv10 : 1 ≤ v10.toInt ∧ v10.toInt ≤ 128 := by rw [ev10]; exact iv_sh17 (by omega) (by omega)
      refine iv_orU (M := mX9_withBlank) dX9_withBlank_46 47 rfl (fun v11 ev11 => ?_)
      have pv11 : 0 ≤ v11.toInt ∧ v11.toInt ≤ 255 := by rw [ev11]; exact iv_or8 (by omega) (by omega) (by omega) (by omega)
      refine iv_iadd (M := mX9_withBlank) (X := v9.toInt) (Y := v11.toInt) dX9_withBlank_47 48 rfl rfl rfl (by omega) (by omega) (fun v12 ev12 => ?_)
      refine iv_iald (M := mX9_withBlank) (X := v12.toInt) (l1 := (-2147483648)) (l2 := 2147483647) dX9_withBlank_48 (tl119 hT) rfl (by omega) (by omega) I (fun _ => rfl) 49 rfl (fun v13 ev13 pv13 qv13 => ?_)
      refine iv_addU (M := mX9_withBlank) dX9_withBlank_49 50 rfl (fun v14 ev14 => ?_)
      exact pv_iret (M := mX9_withBlank) dX9_withBlank_50 rfl rfl ⟨_, rfl, rfl, (iv_rng v14).1, (iv_rng v14).2, trivial⟩
    · have c7 := iv_eq (X := v6.toInt) (Y := 1) c7 rfl (by decide)
      refine pv_iconst (M := mX9_withBlank) (v := (-1)) dX9_withBlank_27 28 rfl (by decide) ?_
      exact pv_iret (M := mX9_withBlank) dX9_withBlank_28 rfl rfl ⟨_, rfl, rfl, by decide, by decide, trivial⟩

set_option maxHeartbeats 2000000 in
set_option maxRecDepth 20000 in
theorem s_X9_solve (g : pv_G) {T : List mv_T} {m : Nat → Nat → Int32} {n : Nat → Nat → Int64} {r : Nat → Value} (hT : TX T) (I : IV BB m) (x0 : Int32) : PM g mX9_solve yX9_solve (sqV T BB (wl [(119, 119, none)]) r m (fun m' => True)) 2 0 0 [.ref 116, .int x0] (mk T m n r) := by
  have Kp : fr (wl [(119, 119, none)]) m m := fr.rf
  refine PM.of 5 (lo := [.ref 116, .int x0, pv_U, pv_U, pv_U, pv_U, pv_U]) rfl (by decide) rfl rfl (Nat.le_of_ble_eq_true rfl) ?_
  refine pv_iconst (M := mX9_solve) (v := 0) dX9_solve_0 1 rfl (by decide) ?_
  refine pv_iload_n (M := mX9_solve) 1 dX9_solve_1 2 rfl rfl rfl ?_
  refine pv_bipush (M := mX9_solve) (v := 8) dX9_solve_2 4 rfl (by decide) ?_
  refine iv_min (M := mX9_solve) (X := x0.toInt) (Y := 8) dX9_solve_4 wd1094 Wmmin (Nat.le_of_ble_eq_true rfl) (by decide) rfl (by decide) 7 rfl (fun v1 ev1 fv1 gv1 => ?_)
  refine iv_max (M := mX9_solve) (X := 0) (Y := v1.toInt) dX9_solve_7 wd1095 Wmmax (Nat.le_of_ble_eq_true rfl) (by decide) (by decide) rfl 10 rfl (fun v2 ev2 fv2 gv2 => ?_)
  refine pv_istore_n (M := mX9_solve) 2 (lo2 := [.ref 116, .int x0, .int v2, pv_U, pv_U, pv_U, pv_U]) dX9_solve_10 11 rfl rfl (by decide) rfl rfl ?_
  refine pv_bipush (M := mX9_solve) (v := 7) dX9_solve_11 13 rfl (by decide) ?_
  refine pv_istore_n (M := mX9_solve) 3 (lo2 := [.ref 116, .int x0, .int v2, .int 7, pv_U, pv_U, pv_U]) dX9_solve_13 14 rfl rfl (by decide) rfl rfl ?_
  have lp9 : ∀ (fuel8 : Nat) (y3 : Int32) (m4 : Nat → Nat → Int32) (n5 : Nat → Nat → Int64), (-1 ≤ y3.toInt) → (y3.toInt ≤ 7) → IV BB m4 → fr (wl [(119, 119, none)]) m m4 → ((y3.toInt - (-1)) : Int).toNat < fuel8 → PV none g mX9_solve (sqV T BB (wl [(119, 119, none)]) r m (fun m' => True)) 2 0 0 14 [.ref 116, .int x0, .int v2, .int y3, pv_U, pv_U, pv_U] [] (mk T m4 n5 r) := by
    intro fuel8
    induction fuel8 with
    | zero => intro y3 m4 n5 b11 b12 I6 K7 z13; omega
    | succ fuel8 ih10 =>
      intro y3 m4 n5 b11 b12 I6 K7 z13
      refine pv_iload_n (M := mX9_solve) 3 dX9_solve_14 15 rfl rfl rfl ?_
      refine pv_if_lt (M := mX9_solve) (tgt := 104) dX9_solve_15 18 rfl (by decide) (fun c14 => ?_) (fun c14 => ?_)
      · have c14 := iv_lt (X := y3.toInt) (Y := 0) c14 rfl (by decide)
        exact pv_vret (M := mX9_solve) dX9_solve_104 rfl ⟨_, _, rfl, rfl, I6, K7, trivial⟩
      · have c14 := iv_nlt (X := y3.toInt) (Y := 0) c14 rfl (by decide)
        refine pv_iconst (M := mX9_solve) (v := 0) dX9_solve_18 19 rfl (by decide) ?_
        refine pv_istore (M := mX9_solve) (lo2 := [.ref 116, .int x0, .int v2, .int y3, .int 0, pv_U, pv_U]) dX9_solve_19 21 rfl (by decide) rfl rfl ?_
        have lp21 : ∀ (fuel20 : Nat) (y15 : Int32) (m16 : Nat → Nat → Int32) (n17 : Nat → Nat → Int64), (0 ≤ y15.toInt) → (y15.toInt ≤ 256) → IV BB m16 → fr (wl [(119, 119, none)]) m m16 → ((256 - y15.toInt) : Int).toNat < fuel20 → PV none g mX9_solve (sqV T BB (wl [(119, 119, none)]) r m (fun m' => True)) 2 0 0 21 [.ref 116, .int x0, .int v2, .int y3, .int y15, pv_U, pv_U] [] (mk T m16 n17 r) := by
          intro fuel20
          induction fuel20 with
          | zero => intro y15 m16 n17 b23 b24 I18 K19 z25; omega
          | succ fuel20 ih22 =>
            intro y15 m16 n17 b23 b24 I18 K19 z25
            refine pv_iload (M := mX9_solve) dX9_solve_21 23 rfl rfl ?_
            refine pv_iconst (M := mX9_solve) (v := 1) dX9_solve_23 24 rfl (by decide) ?_
            refine pv_iload_n (M := mX9_solve) 2 dX9_solve_24 25 rfl rfl rfl ?_
            refine iv_shlU (M := mX9_solve) dX9_solve_25 26 rfl (fun v26 ev26 => ?_)
            have pv26 : 1 ≤ v26.toInt ∧ v26.toInt ≤ 256 := by rw [ev26]; exact iv_sh1 (by omega) (by omega)
            refine pv_icmp_ge (M := mX9_solve) (tgt := 98) dX9_solve_26 29 rfl (by decide) (fun c27 => ?_) (fun c27 => ?_)
            · have c27 := iv_le (X := v26.toInt) (Y := y15.toInt) c27 rfl rfl
              refine iv_inc (M := mX9_solve) (C := (-1)) dX9_solve_98 101 rfl rfl (by decide) rfl rfl (by decide) (by omega) (by omega) (fun v28 ev28 => ?_)
              show PV _ _ _ _ _ _ _ 101 [.ref 116, .int x0, .int v2, .int v28, .int y15, pv_U, pv_U] [] _
              refine pv_goto (M := mX9_solve) (tgt := 14) dX9_solve_101 (by decide) ?_
              refine pv_fg (lo2 := [.ref 116, .int x0, .int v2, .int v28, pv_U, pv_U, pv_U]) ⟨Or.inr rfl, ⟨Or.inr rfl, ⟨Or.inr rfl, ⟨Or.inr rfl, ⟨Or.inl rfl, ⟨Or.inl rfl, ⟨Or.inl rfl, trivial⟩⟩⟩⟩⟩⟩⟩ ?_
              exact ih10 v28 m16 n17 (by first | omega | assumption | exact (iv_rng _).2 | exact (iv_rng _).1 | decide) (by first | omega | assumption | exact (iv_rng _).2 | exact (iv_rng _).1 | decide) I18 K19 (by omega)
            · have c27 := iv_nle (X := v26.toInt) (Y := y15.toInt) c27 rfl rfl
              refine pv_aload_n (M := mX9_solve) 0 dX9_solve_29 30 rfl rfl rfl ?_
              refine mv_get (M := mX9_solve) (v := .ref 119) dX9_solve_30 FX9 4 wd395 (by decide) (tl116 hT) rfl rfl 33 rfl ?_
              refine pv_iload_n (M := mX9_solve) 3 dX9_solve_33 34 rfl rfl rfl ?_
              refine pv_iconst (M := mX9_solve) (v := 1) dX9_solve_34 35 rfl (by decide) ?_
              refine iv_iadd (M := mX9_solve) (X := y3.toInt) (Y := 1) dX9_solve_35 36 rfl rfl (by decide) (by omega) (by omega) (fun v29 ev29 => ?_)
              refine pv_sipush (M := mX9_solve) (v := 256) dX9_solve_36 39 rfl (by decide) ?_
              refine iv_imul (M := mX9_solve) (X := v29.toInt) (Y := 256) dX9_solve_39 40 rfl rfl (by decide) (by omega) (by omega) (fun v30 ev30 => ?_)
              refine pv_iload (M := mX9_solve) dX9_solve_40 42 rfl rfl ?_
              refine iv_iadd (M := mX9_solve) (X := v30.toInt) (Y := y15.toInt) dX9_solve_42 43 rfl rfl rfl (by omega) (by omega) (fun v31 ev31 => ?_)
              refine iv_iald (M := mX9_solve) (X := v31.toInt) (l1 := (-2147483648)) (l2 := 2147483647) dX9_solve_43 (tl119 hT) rfl (by omega) (by omega) I18 (fun _ => rfl) 44 rfl (fun v32 ev32 pv32 qv32 => ?_)
              refine pv_istore (M := mX9_solve) (lo2 := [.ref 116, .int x0, .int v2, .int y3, .int y15, .int v32, pv_U]) dX9_solve_44 46 rfl (by decide) rfl rfl ?_
              refine pv_iconst (M := mX9_solve) (v := 0) dX9_solve_46 47 rfl (by decide) ?_
              refine pv_istore (M := mX9_solve) (lo2 := [.ref 116, .int x0, .int v2, .int y3, .int y15, .int v32, .int 0]) dX9_solve_47 49 rfl (by decide) rfl rfl ?_
              have lp40 : ∀ (fuel39 : Nat) (y33 : Int32) (y34 : Int32), (0 ≤ y34.toInt) → (y34.toInt ≤ 8) → ((8 - y34.toInt) : Int).toNat < fuel39 → PV none g mX9_solve (sqV T BB (wl [(119, 119, none)]) r m (fun m' => True)) 2 0 0 49 [.ref 116, .int x0, .int v2, .int y3, .int y15, .int y33, .int y34] [] (mk T m16 n17 r) := by
                intro fuel39
                induction fuel39 with
                | zero => intro y33 y34 b42 b43 z44; omega
                | succ fuel39 ih41 =>
                  intro y33 y34 b42 b43 z44
                  refine pv_iload (M := mX9_solve) dX9_solve_49 51 rfl rfl ?_
                  refine pv_iload_n (M := mX9_solve) 2 dX9_solve_51 52 rfl rfl rfl ?_
                  refine pv_icmp_ge (M := mX9_solve) (tgt := 77) dX9_solve_52 55 rfl (by decide) (fun c45 => ?_) (fun c45 => ?_)
                  · have c45 := iv_le (X := v2.toInt) (Y := y34.toInt) c45 rfl rfl
                    refine pv_aload_n (M := mX9_solve) 0 dX9_solve_77 78 rfl rfl rfl ?_
                    refine mv_get (M := mX9_solve) (v := .ref 119) dX9_solve_78 FX9 4 wd395 (by decide) (tl116 hT) rfl rfl 81 rfl ?_
                    refine pv_iload_n (M := mX9_solve) 3 dX9_solve_81 82 rfl rfl rfl ?_
                    refine pv_sipush (M := mX9_solve) (v := 256) dX9_solve_82 85 rfl (by decide) ?_
                    refine iv_imul (M := mX9_solve) (X := y3.toInt) (Y := 256) dX9_solve_85 86 rfl rfl (by decide) (by omega) (by omega) (fun v46 ev46 => ?_)
                    refine pv_iload (M := mX9_solve) dX9_solve_86 88 rfl rfl ?_
                    refine iv_iadd (M := mX9_solve) (X := v46.toInt) (Y := y15.toInt) dX9_solve_88 89 rfl rfl rfl (by omega) (by omega) (fun v47 ev47 => ?_)
                    refine pv_iload (M := mX9_solve) dX9_solve_89 91 rfl rfl ?_
                    refine iv_iast (M := mX9_solve) (X := v47.toInt) (l1 := (-2147483648)) (l2 := 2147483647) dX9_solve_91 (tl119 hT) rfl (by omega) (by omega) I18 (fun _ => rfl) (iv_rng y33).1 (iv_rng y33).2 92 rfl (fun m48 e51 I49 => ?_)
                    have K50 := K19.set e51 rfl
                    refine iv_inc (M := mX9_solve) (C := 1) dX9_solve_92 95 rfl rfl (by decide) rfl rfl (by decide) (by omega) (by omega) (fun v52 ev52 => ?_)
                    show PV _ _ _ _ _ _ _ 95 [.ref 116, .int x0, .int v2, .int y3, .int v52, .int y33, .int y34] [] _
                    refine pv_goto (M := mX9_solve) (tgt := 21) dX9_solve_95 (by decide) ?_
                    refine pv_fg (lo2 := [.ref 116, .int x0, .int v2, .int y3, .int v52, pv_U, pv_U]) ⟨Or.inr rfl, ⟨Or.inr rfl, ⟨Or.inr rfl, ⟨Or.inr rfl, ⟨Or.inr rfl, ⟨Or.inl rfl, ⟨Or.inl rfl, trivial⟩⟩⟩⟩⟩⟩⟩ ?_
                    exact ih22 v52 m48 n17 (by first | omega | assumption | exact (iv_rng _).2 | exact (iv_rng _).1 | decide) (by first | omega | assumption | exact (iv_rng _).2 | exact (iv_rng _).1 | decide) I49 K50 (by omega)
                  · have c45 := iv_nle (X := v2.toInt) (Y := y34.toInt) c45 rfl rfl
                    refine pv_iload (M := mX9_solve) dX9_solve_55 57 rfl rfl ?_
                    refine pv_aload_n (M := mX9_solve) 0 dX9_solve_57 58 rfl rfl rfl ?_
                    refine pv_iload_n (M := mX9_solve) 3 dX9_solve_58 59 rfl rfl rfl ?_
                    refine pv_iload (M := mX9_solve) dX9_solve_59 61 rfl rfl ?_
                    refine pv_iload (M := mX9_solve) dX9_solve_61 63 rfl rfl ?_
                    refine pv_callv (M := mX9_solve) (as := [.int y3, .int y15, .int y34]) (st := [.int y33]) (kc2 := 0) (ks2 := 0) dX9_solve_63 wd1096 YX9_withBlank ⟨wd1098, wd47⟩ (mk_get (tl116 hT)) rfl rfl (s_X9_withBlank g hT I18 y3 (by omega) (by omega) y15 (by omega) (by omega) y34 (by omega) (by omega)) rfl rfl (Nat.le_of_ble_eq_true rfl) (by decide) rfl rfl 66 rfl (fun rv h1 q53 => ?_)
                    obtain ⟨v54, rfl, rfl, pv54, qv54, rv54⟩ := q53
                    show PV _ _ _ _ _ _ _ 66 [.ref 116, .int x0, .int v2, .int y3, .int y15, .int y33, .int y34] [.int v54, .int y33] _
                    refine iv_max (M := mX9_solve) (X := y33.toInt) (Y := v54.toInt) dX9_solve_66 wd1095 Wmmax (Nat.le_of_ble_eq_true rfl) (by decide) rfl rfl 69 rfl (fun v55 ev55 fv55 gv55 => ?_)
                    refine pv_istore (M := mX9_solve) (lo2 := [.ref 116, .int x0, .int v2, .int y3, .int y15, .int v55, .int y34]) dX9_solve_69 71 rfl (by decide) rfl rfl ?_
                    refine iv_inc (M := mX9_solve) (C := 1) dX9_solve_71 74 rfl rfl (by decide) rfl rfl (by decide) (by omega) (by omega) (fun v56 ev56 => ?_)
                    show PV _ _ _ _ _ _ _ 74 [.ref 116, .int x0, .int v2, .int y3, .int y15, .int v55, .int v56] [] _
                    refine pv_goto (M := mX9_solve) (tgt := 49) dX9_solve_74 (by decide) ?_
                    exact ih41 v55 v56 (by first | omega | assumption | exact (iv_rng _).2 | exact (iv_rng _).1 | decide) (by first | omega | assumption | exact (iv_rng _).2 | exact (iv_rng _).1 | decide) (by omega)
              have z57 : (0 : Int32).toInt = 0 := by decide
              exact lp40 (((8 - 0) : Int).toNat + 1) v32 0 (by first | omega | assumption | exact (iv_rng _).2 | exact (iv_rng _).1 | decide) (by first | omega | assumption | exact (iv_rng _).2 | exact (iv_rng _).1 | decide) (by omega)
        have z58 : (0 : Int32).toInt = 0 := by decide
        exact lp21 (((256 - 0) : Int).toNat + 1) 0 m4 n5 (by first | omega | assumption | exact (iv_rng _).2 | exact (iv_rng _).1 | decide) (by first | omega | assumption | exact (iv_rng _).2 | exact (iv_rng _).1 | decide) I6 K7 (by omega)
  have z59 : (7 : Int32).toInt = 7 := by decide
  exact lp9 (((7 - (-1)) : Int).toNat + 1) 7 m n (by first | omega | assumption | exact (iv_rng _).2 | exact (iv_rng _).1 | decide) (by first | omega | assumption | exact (iv_rng _).2 | exact (iv_rng _).1 | decide) I Kp (by omega)

set_option maxHeartbeats 2000000 in
set_option maxRecDepth 20000 in
theorem s_X9_trace (g : pv_G) {T : List mv_T} {m : Nat → Nat → Int32} {n : Nat → Nat → Int64} {r : Nat → Value} (hT : TX T) (I : IV BB m) (x0 : Int32) : PM g mX9_trace yX9_trace (sqV T BB (wl [(116, 116, some 1), (116, 116, some 2), (117, 117, none)]) r m (fun m' => True)) 2 0 0 [.ref 116, .int x0] (mk T m n r) := by
  have Kp : fr (wl [(116, 116, some 1), (116, 116, some 2), (117, 117, none)]) m m := fr.rf
  refine PM.of 3 (lo := [.ref 116, .int x0, pv_U, pv_U, pv_U]) rfl (by decide) rfl rfl (Nat.le_of_ble_eq_true rfl) ?_
  refine pv_iload_n (M := mX9_trace) 1 dX9_trace_0 1 rfl rfl rfl ?_
  refine pv_sipush (M := mX9_trace) (v := 255) dX9_trace_1 4 rfl (by decide) ?_
  refine iv_iandm (M := mX9_trace) dX9_trace_4 5 rfl 8 (by decide) (by decide) (fun v1 ev1 pv1 qv1 => ?_)
  have qv1 : v1.toInt < 256 := qv1
  refine pv_istore_n (M := mX9_trace) 2 (lo2 := [.ref 116, .int x0, .int v1, pv_U, pv_U]) dX9_trace_5 6 rfl rfl (by decide) rfl rfl ?_
  refine pv_aload_n (M := mX9_trace) 0 dX9_trace_6 7 rfl rfl rfl ?_
  refine pv_iconst (M := mX9_trace) (v := 0) dX9_trace_7 8 rfl (by decide) ?_
  refine iv_put (M := mX9_trace) (l1 := (-2147483648)) (l2 := 2147483647) dX9_trace_8 FX9 1 wd390 (by decide) rfl (tl116 hT) rfl rfl rfl I rfl (by decide) (by decide) 11 rfl (fun m2 e5 I3 => ?_)
  have K4 := Kp.set e5 rfl
  refine pv_aload_n (M := mX9_trace) 0 dX9_trace_11 12 rfl rfl rfl ?_
  refine pv_iconst (M := mX9_trace) (v := 0) dX9_trace_12 13 rfl (by decide) ?_
  refine iv_put (M := mX9_trace) (l1 := (-2147483648)) (l2 := 2147483647) dX9_trace_13 FX9 2 wd392 (by decide) rfl (tl116 hT) rfl rfl rfl I3 rfl (by decide) (by decide) 16 rfl (fun m6 e9 I7 => ?_)
  have K8 := K4.set e9 rfl
  refine pv_iconst (M := mX9_trace) (v := 0) dX9_trace_16 17 rfl (by decide) ?_
  refine pv_istore_n (M := mX9_trace) 3 (lo2 := [.ref 116, .int x0, .int v1, .int 0, pv_U]) dX9_trace_17 18 rfl rfl (by decide) rfl rfl ?_
  have lp17 : ∀ (fuel16 : Nat) (y10 : Int32) (y11 : Int32) (m12 : Nat → Nat → Int32) (n13 : Nat → Nat → Int64), (0 ≤ y10.toInt) → (y10.toInt ≤ 255) → (0 ≤ y11.toInt) → (y11.toInt ≤ 8) → IV BB m12 → fr (wl [(116, 116, some 1), (116, 116, some 2), (117, 117, none)]) m m12 → ((8 - y11.toInt) : Int).toNat < fuel16 → PV none g mX9_trace (sqV T BB (wl [(116, 116, some 1), (116, 116, some 2), (117, 117, none)]) r m (fun m' => True)) 2 0 0 18 [.ref 116, .int x0, .int y10, .int y11, pv_U] [] (mk T m12 n13 r) := by
    intro fuel16
    induction fuel16 with
    | zero => intro y10 y11 m12 n13 b19 b20 b21 b22 I14 K15 z23; omega
    | succ fuel16 ih18 =>
      intro y10 y11 m12 n13 b19 b20 b21 b22 I14 K15 z23
      refine pv_iload_n (M := mX9_trace) 3 dX9_trace_18 19 rfl rfl rfl ?_
      refine pv_bipush (M := mX9_trace) (v := 8) dX9_trace_19 21 rfl (by decide) ?_
      refine pv_icmp_ge (M := mX9_trace) (tgt := 126) dX9_trace_21 24 rfl (by decide) (fun c24 => ?_) (fun c24 => ?_)
      · have c24 := iv_le (X := 8) (Y := y11.toInt) c24 (by decide) rfl
        exact pv_vret (M := mX9_trace) dX9_trace_126 rfl ⟨_, _, rfl, rfl, I14, K15, trivial⟩
      · have c24 := iv_nle (X := 8) (Y := y11.toInt) c24 (by decide) rfl
        refine pv_iconst (M := mX9_trace) (v := 0) dX9_trace_24 25 rfl (by decide) ?_
        refine pv_istore (M := mX9_trace) (lo2 := [.ref 116, .int x0, .int y10, .int y11, .int 0]) dX9_trace_25 27 rfl (by decide) rfl rfl ?_
        have lp31 : ∀ (fuel30 : Nat) (y25 : Int32), (0 ≤ y25.toInt) → (y25.toInt ≤ 8) → ((8 - y25.toInt) : Int).toNat < fuel30 → PV none g mX9_trace (sqV T BB (wl [(116, 116, some 1), (116, 116, some 2), (117, 117, none)]) r m (fun m' => True)) 2 0 0 27 [.ref 116, .int x0, .int y10, .int y11, .int y25] [] (mk T m12 n13 r) := by
          intro fuel30
          induction fuel30 with
          | zero => intro y25 b33 b34 z35; omega
          | succ fuel30 ih32 =>
            intro y25 b33 b34 z35
            refine pv_iload (M := mX9_trace) dX9_trace_27 29 rfl rfl ?_
            refine pv_bipush (M := mX9_trace) (v := 8) dX9_trace_29 31 rfl (by decide) ?_
            refine pv_icmp_ge (M := mX9_trace) (tgt := 63) dX9_trace_31 34 rfl (by decide) (fun c36 => ?_) (fun c36 => ?_)
            · have c36 := iv_le (X := 8) (Y := y25.toInt) c36 (by decide) rfl
              refine pv_aload_n (M := mX9_trace) 0 dX9_trace_63 64 rfl rfl rfl ?_
              refine mv_get (M := mX9_trace) (v := .ref 117) dX9_trace_64 FX9 0 wd388 (by decide) (tl116 hT) rfl rfl 67 rfl ?_
              refine pv_iload_n (M := mX9_trace) 3 dX9_trace_67 68 rfl rfl rfl ?_
              refine pv_iload (M := mX9_trace) dX9_trace_68 70 rfl rfl ?_
              refine iv_iast (M := mX9_trace) (X := y11.toInt) (l1 := (-2147483648)) (l2 := 2147483647) dX9_trace_70 (tl117 hT) rfl (by omega) (by omega) I14 (fun _ => rfl) (iv_rng y25).1 (iv_rng y25).2 71 rfl (fun m37 e40 I38 => ?_)
              have K39 := K15.set e40 rfl
              refine pv_iload (M := mX9_trace) dX9_trace_71 73 rfl rfl ?_
              refine pv_bipush (M := mX9_trace) (v := 8) dX9_trace_73 75 rfl (by decide) ?_
              refine pv_icmp_ge (M := mX9_trace) (tgt := 120) dX9_trace_75 78 rfl (by decide) (fun c41 => ?_) (fun c41 => ?_)
              · have c41 := iv_le (X := 8) (Y := y25.toInt) c41 (by decide) rfl
                refine iv_inc (M := mX9_trace) (C := 1) dX9_trace_120 123 rfl rfl (by decide) rfl rfl (by decide) (by omega) (by omega) (fun v42 ev42 => ?_)
                show PV _ _ _ _ _ _ _ 123 [.ref 116, .int x0, .int y10, .int v42, .int y25] [] _
                refine pv_goto (M := mX9_trace) (tgt := 18) dX9_trace_123 (by decide) ?_
                refine pv_fg (lo2 := [.ref 116, .int x0, .int y10, .int v42, pv_U]) ⟨Or.inr rfl, ⟨Or.inr rfl, ⟨Or.inr rfl, ⟨Or.inr rfl, ⟨Or.inl rfl, trivial⟩⟩⟩⟩⟩ ?_
                exact ih18 y10 v42 m37 n13 (by first | omega | assumption | exact (iv_rng _).2 | exact (iv_rng _).1 | decide) (by first | omega | assumption | exact (iv_rng _).2 | exact (iv_rng _).1 | decide) (by first | omega | assumption | exact (iv_rng _).2 | exact (iv_rng _).1 | decide) (by first | omega | assumption | exact (iv_rng _).2 | exact (iv_rng _).1 | decide) I38 K39 (by omega)
              · have c41 := iv_nle (X := 8) (Y := y25.toInt) c41 (by decide) rfl
                omega
            · have c36 := iv_nle (X := 8) (Y := y25.toInt) c36 (by decide) rfl
              refine pv_aload_n (M := mX9_trace) 0 dX9_trace_34 35 rfl rfl rfl ?_
              refine pv_iload_n (M := mX9_trace) 3 dX9_trace_35 36 rfl rfl rfl ?_
              refine pv_iload_n (M := mX9_trace) 2 dX9_trace_36 37 rfl rfl rfl ?_
              refine pv_iload (M := mX9_trace) dX9_trace_37 39 rfl rfl ?_
              refine pv_callv (M := mX9_trace) (as := [.int y11, .int y10, .int y25]) (st := []) (kc2 := 0) (ks2 := 0) dX9_trace_39 wd1096 YX9_withBlank ⟨wd1098, wd47⟩ (mk_get (tl116 hT)) rfl rfl (s_X9_withBlank g hT I14 y11 (by omega) (by omega) y10 (by omega) (by omega) y25 (by omega) (by omega)) rfl rfl (Nat.le_of_ble_eq_true rfl) (by decide) rfl rfl 42 rfl (fun rv h1 q43 => ?_)
              obtain ⟨v44, rfl, rfl, pv44, qv44, rv44⟩ := q43
              show PV _ _ _ _ _ _ _ 42 [.ref 116, .int x0, .int y10, .int y11, .int y25] [.int v44] _
              refine pv_aload_n (M := mX9_trace) 0 dX9_trace_42 43 rfl rfl rfl ?_
              refine mv_get (M := mX9_trace) (v := .ref 119) dX9_trace_43 FX9 4 wd395 (by decide) (tl116 hT) rfl rfl 46 rfl ?_
              refine pv_iload_n (M := mX9_trace) 3 dX9_trace_46 47 rfl rfl rfl ?_
              refine pv_sipush (M := mX9_trace) (v := 256) dX9_trace_47 50 rfl (by decide) ?_
              refine iv_imul (M := mX9_trace) (X := y11.toInt) (Y := 256) dX9_trace_50 51 rfl rfl (by decide) (by omega) (by omega) (fun v45 ev45 => ?_)
              refine pv_iload_n (M := mX9_trace) 2 dX9_trace_51 52 rfl rfl rfl ?_
              refine iv_iadd (M := mX9_trace) (X := v45.toInt) (Y := y10.toInt) dX9_trace_52 53 rfl rfl rfl (by omega) (by omega) (fun v46 ev46 => ?_)
              refine iv_iald (M := mX9_trace) (X := v46.toInt) (l1 := (-2147483648)) (l2 := 2147483647) dX9_trace_53 (tl119 hT) rfl (by omega) (by omega) I14 (fun _ => rfl) 54 rfl (fun v47 ev47 pv47 qv47 => ?_)
              refine pv_icmp_eq (M := mX9_trace) (tgt := 63) dX9_trace_54 57 rfl (by decide) (fun c48 => ?_) (fun c48 => ?_)
              · have c48 := iv_eq (X := v44.toInt) (Y := v47.toInt) c48 rfl rfl
                refine pv_aload_n (M := mX9_trace) 0 dX9_trace_63 64 rfl rfl rfl ?_
                refine mv_get (M := mX9_trace) (v := .ref 117) dX9_trace_64 FX9 0 wd388 (by decide) (tl116 hT) rfl rfl 67 rfl ?_
                refine pv_iload_n (M := mX9_trace) 3 dX9_trace_67 68 rfl rfl rfl ?_
                refine pv_iload (M := mX9_trace) dX9_trace_68 70 rfl rfl ?_
                refine iv_iast (M := mX9_trace) (X := y11.toInt) (l1 := (-2147483648)) (l2 := 2147483647) dX9_trace_70 (tl117 hT) rfl (by omega) (by omega) I14 (fun _ => rfl) (iv_rng y25).1 (iv_rng y25).2 71 rfl (fun m49 e52 I50 => ?_)
                have K51 := K15.set e52 rfl
                refine pv_iload (M := mX9_trace) dX9_trace_71 73 rfl rfl ?_
                refine pv_bipush (M := mX9_trace) (v := 8) dX9_trace_73 75 rfl (by decide) ?_
                refine pv_icmp_ge (M := mX9_trace) (tgt := 120) dX9_trace_75 78 rfl (by decide) (fun c53 => ?_) (fun c53 => ?_)
                · have c53 := iv_le (X := 8) (Y := y25.toInt) c53 (by decide) rfl
                  omega
                · have c53 := iv_nle (X := 8) (Y := y25.toInt) c53 (by decide) rfl
                  refine pv_aload_n (M := mX9_trace) 0 dX9_trace_78 79 rfl rfl rfl ?_
                  refine pv_dup (M := mX9_trace) dX9_trace_79 80 rfl rfl ?_
                  refine iv_get (M := mX9_trace) (l1 := (-2147483648)) (l2 := 2147483647) dX9_trace_80 FX9 1 wd390 (by decide) (tl116 hT) rfl I50 rfl 83 rfl (fun v54 ev54 pv54 qv54 => ?_)
                  refine pv_iconst (M := mX9_trace) (v := 1) dX9_trace_83 84 rfl (by decide) ?_
                  refine iv_addU (M := mX9_trace) dX9_trace_84 85 rfl (fun v55 ev55 => ?_)
                  refine iv_put (M := mX9_trace) (l1 := (-2147483648)) (l2 := 2147483647) dX9_trace_85 FX9 1 wd390 (by decide) rfl (tl116 hT) rfl rfl rfl I50 rfl (iv_rng v55).1 (iv_rng v55).2 88 rfl (fun m56 e59 I57 => ?_)
                  have K58 := K51.set e59 rfl
                  refine pv_aload_n (M := mX9_trace) 0 dX9_trace_88 89 rfl rfl rfl ?_
                  refine pv_dup (M := mX9_trace) dX9_trace_89 90 rfl rfl ?_
                  refine iv_get (M := mX9_trace) (l1 := (-2147483648)) (l2 := 2147483647) dX9_trace_90 FX9 2 wd392 (by decide) (tl116 hT) rfl I57 rfl 93 rfl (fun v60 ev60 pv60 qv60 => ?_)
                  refine pv_sipush (M := mX9_trace) (v := 1000) dX9_trace_93 96 rfl (by decide) ?_
                  refine pv_aload_n (M := mX9_trace) 0 dX9_trace_96 97 rfl rfl rfl ?_
                  refine mv_get (M := mX9_trace) (v := .ref 118) dX9_trace_97 FX9 3 wd394 (by decide) (tl116 hT) rfl rfl 100 rfl ?_
                  refine pv_iload_n (M := mX9_trace) 3 dX9_trace_100 101 rfl rfl rfl ?_
                  refine pv_bipush (M := mX9_trace) (v := 8) dX9_trace_101 103 rfl (by decide) ?_
                  refine iv_imul (M := mX9_trace) (X := y11.toInt) (Y := 8) dX9_trace_103 104 rfl rfl (by decide) (by omega) (by omega) (fun v61 ev61 => ?_)
                  refine pv_iload (M := mX9_trace) dX9_trace_104 106 rfl rfl ?_
                  refine iv_iadd (M := mX9_trace) (X := v61.toInt) (Y := y25.toInt) dX9_trace_106 107 rfl rfl rfl (by omega) (by omega) (fun v62 ev62 => ?_)
                  refine iv_iald (M := mX9_trace) (X := v62.toInt) (l1 := (-2147483648)) (l2 := 2147483647) dX9_trace_107 (tl118 hT) rfl (by omega) (by omega) I57 (fun _ => rfl) 108 rfl (fun v63 ev63 pv63 qv63 => ?_)
                  refine iv_subU (M := mX9_trace) dX9_trace_108 109 rfl (fun v64 ev64 => ?_)
                  refine iv_addU (M := mX9_trace) dX9_trace_109 110 rfl (fun v65 ev65 => ?_)
                  refine iv_put (M := mX9_trace) (l1 := (-2147483648)) (l2 := 2147483647) dX9_trace_110 FX9 2 wd392 (by decide) rfl (tl116 hT) rfl rfl rfl I57 rfl (iv_rng v65).1 (iv_rng v65).2 113 rfl (fun m66 e69 I67 => ?_)
                  have K68 := K58.set e69 rfl
                  refine pv_iload_n (M := mX9_trace) 2 dX9_trace_113 114 rfl rfl rfl ?_
                  refine pv_iconst (M := mX9_trace) (v := 1) dX9_trace_114 115 rfl (by decide) ?_
                  refine pv_iload (M := mX9_trace) dX9_trace_115 117 rfl rfl ?_
                  refine iv_shlU (M := mX9_trace) dX9_trace_117 118 rfl (fun v70 ev70 => ?_)
                  have pv70 : 1 ≤ v70.toInt ∧ v70.toInt ≤ 128 := by rw [ev70]; exact iv_sh17 (by omega) (by omega)
                  refine iv_orU (M := mX9_trace) dX9_trace_118 119 rfl (fun v71 ev71 => ?_)
                  have pv71 : 0 ≤ v71.toInt ∧ v71.toInt ≤ 255 := by rw [ev71]; exact iv_or8 (by omega) (by omega) (by omega) (by omega)
                  refine pv_istore_n (M := mX9_trace) 2 (lo2 := [.ref 116, .int x0, .int v71, .int y11, .int y25]) dX9_trace_119 120 rfl rfl (by decide) rfl rfl ?_
                  refine iv_inc (M := mX9_trace) (C := 1) dX9_trace_120 123 rfl rfl (by decide) rfl rfl (by decide) (by omega) (by omega) (fun v72 ev72 => ?_)
                  show PV _ _ _ _ _ _ _ 123 [.ref 116, .int x0, .int v71, .int v72, .int y25] [] _
                  refine pv_goto (M := mX9_trace) (tgt := 18) dX9_trace_123 (by decide) ?_
                  refine pv_fg (lo2 := [.ref 116, .int x0, .int v71, .int v72, pv_U]) ⟨Or.inr rfl, ⟨Or.inr rfl, ⟨Or.inr rfl, ⟨Or.inr rfl, ⟨Or.inl rfl, trivial⟩⟩⟩⟩⟩ ?_
                  exact ih18 v71 v72 m66 n13 (by first | omega | assumption | exact (iv_rng _).2 | exact (iv_rng _).1 | decide) (by first | omega | assumption | exact (iv_rng _).2 | exact (iv_rng _).1 | decide) (by first | omega | assumption | exact (iv_rng _).2 | exact (iv_rng _).1 | decide) (by first | omega | assumption | exact (iv_rng _).2 | exact (iv_rng _).1 | decide) I67 K68 (by omega)
              · have c48 := iv_ne (X := v44.toInt) (Y := v47.toInt) c48 rfl rfl
                refine iv_inc (M := mX9_trace) (C := 1) dX9_trace_57 60 rfl rfl (by decide) rfl rfl (by decide) (by omega) (by omega) (fun v73 ev73 => ?_)
                show PV _ _ _ _ _ _ _ 60 [.ref 116, .int x0, .int y10, .int y11, .int v73] [] _
                refine pv_goto (M := mX9_trace) (tgt := 27) dX9_trace_60 (by decide) ?_
                exact ih32 v73 (by first | omega | assumption | exact (iv_rng _).2 | exact (iv_rng _).1 | decide) (by first | omega | assumption | exact (iv_rng _).2 | exact (iv_rng _).1 | decide) (by omega)
        have z74 : (0 : Int32).toInt = 0 := by decide
        exact lp31 (((8 - 0) : Int).toNat + 1) 0 (by first | omega | assumption | exact (iv_rng _).2 | exact (iv_rng _).1 | decide) (by first | omega | assumption | exact (iv_rng _).2 | exact (iv_rng _).1 | decide) (by omega)
  have z75 : (0 : Int32).toInt = 0 := by decide
  exact lp17 (((8 - 0) : Int).toNat + 1) v1 0 m6 n (by first | omega | assumption | exact (iv_rng _).2 | exact (iv_rng _).1 | decide) (by first | omega | assumption | exact (iv_rng _).2 | exact (iv_rng _).1 | decide) (by first | omega | assumption | exact (iv_rng _).2 | exact (iv_rng _).1 | decide) (by first | omega | assumption | exact (iv_rng _).2 | exact (iv_rng _).1 | decide) I7 K8 (by omega)
